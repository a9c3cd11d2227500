/-! ===== the class lays the table ===== -/
set_option maxRecDepth 100000 in
set_option maxHeartbeats 4000000 in
theorem c_lay (l : Launch) {T : gSh} {I : gI} {J : gJ} {R : gR} {ca : Nat → Nat} (hC : CO T R ca) {H : Nat} (hH : I (ca 15) 0 = nI H) (hH8 : H ≤ 8) {ea ae : Nat → Nat} (hT : TT I (ca 23) (ca 24) ea ae) (hB : TB ea ae) {ag ed : Nat} (hag : ag < 8) (hed : ed < 10) (fa : ff (fun k => ea (8 * ag + k)) H < H) (fb : ff (fun k => ae (8 * ed + k)) H < H) : Con l yX9_lay wsX9_lay ({ frames := 2, cells := 0, slots := 0, locals := 51 }) [.ref (ca 15), .int (nI ag), .int (nI ed)] T I J R (PT T J R I (ca 23) (ca 24) (layF H (ea, ae) ag ed)) := by
  refine Con.mk (cc := cX9_lay) (maxL := 4) (ret := none) (by decide) rfl (Nat.le_of_ble_eq_true rfl) ?_
  intro E hE C Z hnm
  subst hE
  change WP E 4 0 0 T I J R 0 [(0, .ref (ca 15)), (1, .int (nI ag)), (2, .int (nI ed))] []
  have hne : ca 23 ≠ ca 24 := hC.ne 23 24 (by decide) (by decide) (by decide)
  by_cases q : ff (fun k => ea (8 * ag + k) + ae (8 * ed + k)) H < H
  · obtain ⟨hb, ehb⟩ : ∃ x, ff (fun k => ea (8 * ag + k) + ae (8 * ed + k)) H = x := ⟨_, rfl⟩
    have hbH : hb < H := by omega
    refine wp_aload_n C 0 dX9_lay_0 rfl rfl ?_
    refine wp_iload_n C 1 dX9_lay_1 rfl rfl ?_
    refine wp_iload_n C 2 dX9_lay_2 rfl rfl ?_
    refine wp_cVi C (As := [.int (nI ag), .int (nI ed)]) (rest := []) dX9_lay_3 kX9_lay_36 (hC.ob 15 (by decide) rfl) (c_freeBoth _ hC hH hH8 hag hed hT hB) rfl (Nat.le_of_ble_eq_true rfl) (by decide) (by decide) ?_
    refine wp_eqi (show fh (fun k => ea (8 * ag + k) + ae (8 * ed + k)) H = nI hb by unfold fh; rw [if_pos q, ehb]) ?_
    refine wp_istore_n C [(3, .int (nI hb)), (0, .ref (ca 15)), (1, .int (nI ag)), (2, .int (nI ed))] dX9_lay_6 rfl (by decide) rfl ?_
    refine wp_iload_n C 0 dX9_lay_7 rfl rfl ?_
    refine wp_iconst C (-1) dX9_lay_8 (by decide) ?_
    refine wp_icmp_ne C 30 dX9_lay_9 (by decide) (fun c9 => ?_) (fun c9 => ?_)
    · refine wp_iload_n C 0 dX9_lay_30 rfl rfl ?_
      refine wp_iconst C (-1) dX9_lay_31 (by decide) ?_
      refine wp_icmp_eq C 42 dX9_lay_32 (by decide) (fun c32 => ?_) (fun c32 => ?_)
      · exact absurd (p_eq c32) (by rw [nI_toInt (by omega), show ((-1 : Int32)).toInt = -1 from rfl]; omega)
      · refine wp_aload_n C 1 dX9_lay_35 rfl rfl ?_
        refine wp_iload_n C 2 dX9_lay_36 rfl rfl ?_
        refine wp_iload_n C 3 dX9_lay_37 rfl rfl ?_
        refine wp_iload_n C 0 dX9_lay_38 rfl rfl ?_
        refine wp_cVv C (As := [.int (nI ag), .int (nI ed), .int (nI hb)]) (rest := []) dX9_lay_39 kX9_lay_50 (hC.ob 15 (by decide) rfl) (c_seat _ hC (a := ag) (e := ed) (h := hb) hag hed (by omega)) rfl (Nat.le_of_ble_eq_true rfl) (by decide) (by decide) ?_
        exact wp_vret C Z dX9_lay_42 (by decide) (by decide) ⟨rfl, rfl, rfl, rfl, ((FrT.rf I _ _).pA _ _).pE _ _, by unfold layF; dsimp only; rw [if_pos q, ehb]; exact (hT.putA hne (8 * ag + hb) (ed + 1) (vI_s ed).symm).putE hne (8 * ed + hb) (ag + 1) (vI_s ag).symm⟩
    · exact absurd (p_eq c9) (by rw [nI_toInt (by omega), show ((-1 : Int32)).toInt = -1 from rfl]; omega)
  · obtain ⟨a, eha⟩ : ∃ x, ff (fun k => ea (8 * ag + k)) H = x := ⟨_, rfl⟩
    obtain ⟨b, ehb⟩ : ∃ x, ff (fun k => ae (8 * ed + k)) H = x := ⟨_, rfl⟩
    have haH : a < H := by omega
    have hbH : b < H := by omega
    have hoA : fh (fun k => if I (ca 23) (8 * ag + k) = -1 then 0 else 1) H = nI a := by
      unfold fh
      rw [ff_cg (g2 := (fun k => ea (8 * ag + k))) (fun k hk => ?_), if_pos fa, eha]
      have b1 := hB.1 (8 * ag + k) (by omega)
      rw [hT.1 _ (by omega)]
      by_cases z : ea (8 * ag + k) = 0
      · rw [if_pos (by rw [z]; exact vI_0)]; exact ⟨fun _ => z, fun _ => rfl⟩
      · rw [if_neg (fun e => by have := p_eq e; rw [vI_toInt (by omega), show ((-1 : Int32)).toInt = -1 from rfl] at this; omega)]; exact ⟨fun e => absurd e (by decide), fun e => absurd e z⟩
    have s := ff_sp (fun k => ea (8 * ag + k) + ae (8 * ed + k)) H
    have za := (ff_sp (fun k => ea (8 * ag + k)) H).2.1 fa
    have zb := (ff_sp (fun k => ae (8 * ed + k)) H).2.1 fb
    rw [eha] at za
    rw [ehb] at zb
    have hab : a ≠ b := by
      intro e
      have z := s.2.2 a (by omega)
      exact z (by show ea (8 * ag + a) + ae (8 * ed + a) = 0; have z1 : ea (8 * ag + a) = 0 := za; have z2 : ae (8 * ed + b) = 0 := zb; rw [e] at z1 ⊢; omega)
    have hK : KC ea ae a b ed := ⟨hB, by omega, by omega, hed, zb⟩
    refine wp_aload_n C 0 dX9_lay_0 rfl rfl ?_
    refine wp_iload_n C 1 dX9_lay_1 rfl rfl ?_
    refine wp_iload_n C 2 dX9_lay_2 rfl rfl ?_
    refine wp_cVi C (As := [.int (nI ag), .int (nI ed)]) (rest := []) dX9_lay_3 kX9_lay_36 (hC.ob 15 (by decide) rfl) (c_freeBoth _ hC hH hH8 hag hed hT hB) rfl (Nat.le_of_ble_eq_true rfl) (by decide) (by decide) ?_
    refine wp_eqi (show fh (fun k => ea (8 * ag + k) + ae (8 * ed + k)) H = -1 by unfold fh; rw [if_neg q]) ?_
    refine wp_istore_n C [(3, .int (-1)), (0, .ref (ca 15)), (1, .int (nI ag)), (2, .int (nI ed))] dX9_lay_6 rfl (by decide) rfl ?_
    refine wp_iload_n C 0 dX9_lay_7 rfl rfl ?_
    refine wp_iconst C (-1) dX9_lay_8 (by decide) ?_
    refine wp_icmp_ne C 30 dX9_lay_9 (by decide) (fun c9 => ?_) (fun c9 => ?_)
    · exact absurd (by decide) c9
    · refine wp_aload_n C 1 dX9_lay_12 rfl rfl ?_
      refine wp_iload_n C 2 dX9_lay_13 rfl rfl ?_
      refine wp_iconst C (-1) dX9_lay_14 (by decide) ?_
      refine wp_cVi C (As := [.int (nI ag), .int (-1)]) (rest := []) dX9_lay_15 kX9_lay_39 (hC.ob 15 (by decide) rfl) (c_hourOf _ hC hH hH8 hag (-1)) rfl (Nat.le_of_ble_eq_true rfl) (by decide) (by decide) ?_
      refine wp_eqi hoA ?_
      refine wp_istore_n C [(3, .int (nI a)), (0, .ref (ca 15)), (1, .int (nI ag)), (2, .int (nI ed))] dX9_lay_18 rfl (by decide) rfl ?_
      refine wp_aload_n C 1 dX9_lay_19 rfl rfl ?_
      refine wp_iload_n C 3 dX9_lay_20 rfl rfl ?_
      refine wp_iload_n C 0 dX9_lay_21 rfl rfl ?_
      refine wp_aload_n C 1 dX9_lay_22 rfl rfl ?_
      refine wp_iload_n C 3 dX9_lay_23 rfl rfl ?_
      refine wp_cVi C (As := [.int (nI ed)]) (rest := [.int (nI a), .int (nI ed), .ref (ca 15)]) dX9_lay_24 kX9_lay_42 (hC.ob 15 (by decide) rfl) (c_freeFor _ hC hH hH8 hed hT hB) rfl (Nat.le_of_ble_eq_true rfl) (by decide) (by decide) ?_
      refine wp_eqi (show fh (fun k => ae (8 * ed + k)) H = nI b by unfold fh; rw [if_pos fb, ehb]) ?_
      refine wp_callV C (As := [.int (nI ed), .int (nI a), .int (nI b)]) (rest := []) dX9_lay_27 kX9_lay_46 (hC.ob 15 (by decide) rfl) (c_makeFree _ hC hT hK hab) rfl (Nat.le_of_ble_eq_true rfl) (by decide) (by decide) ?_
      rintro _ _ I2 _ _ ⟨rfl, rfl, rfl, rfl, hF2, hT2⟩
      change WP E 4 0 0 T I2 J R 30 [(3, .int (nI a)), (0, .ref (ca 15)), (1, .int (nI ag)), (2, .int (nI ed))] []
      refine wp_iload_n C 0 dX9_lay_30 rfl rfl ?_
      refine wp_iconst C (-1) dX9_lay_31 (by decide) ?_
      refine wp_icmp_eq C 42 dX9_lay_32 (by decide) (fun c32 => ?_) (fun c32 => ?_)
      · exact absurd (p_eq c32) (by rw [nI_toInt (by omega), show ((-1 : Int32)).toInt = -1 from rfl]; omega)
      · refine wp_aload_n C 1 dX9_lay_35 rfl rfl ?_
        refine wp_iload_n C 2 dX9_lay_36 rfl rfl ?_
        refine wp_iload_n C 3 dX9_lay_37 rfl rfl ?_
        refine wp_iload_n C 0 dX9_lay_38 rfl rfl ?_
        refine wp_cVv C (As := [.int (nI ag), .int (nI ed), .int (nI a)]) (rest := []) dX9_lay_39 kX9_lay_50 (hC.ob 15 (by decide) rfl) (c_seat _ hC (a := ag) (e := ed) (h := a) hag hed (by omega)) rfl (Nat.le_of_ble_eq_true rfl) (by decide) (by decide) ?_
        exact wp_vret C Z dX9_lay_42 (by decide) (by decide) ⟨rfl, rfl, rfl, rfl, (hF2.pA _ _).pE _ _, by unfold layF; dsimp only; rw [if_neg q, eha, ehb]; exact (hT2.putA hne (8 * ag + a) (ed + 1) (vI_s ed).symm).putE hne (8 * ed + a) (ag + 1) (vI_s ag).symm⟩
/-- an empty table -/
def PE (T : gSh) (J : gJ) (R : gR) (I : gI) (ca : Nat → Nat) (h : Int32) : gPost := fun r T' I' J' R' => r = none ∧ T = T' ∧ J = J' ∧ R = R' ∧ (∀ x, x ≠ ca 15 → x ≠ ca 23 → x ≠ ca 24 → I' x = I x) ∧ I' (ca 15) 0 = h ∧ TT I' (ca 23) (ca 24) (fun _ => 0) (fun _ => 0)
set_option maxRecDepth 100000 in
set_option maxHeartbeats 4000000 in
theorem c_clearFor (l : Launch) {T : gSh} {I : gI} {J : gJ} {R : gR} {ca : Nat → Nat} (hC : CO T R ca) (h : Int32) : Con l yX9_clearFor wsX9_clearFor ({ frames := 1, cells := 0, slots := 0, locals := 23 }) [.ref (ca 15), .int h] T I J R (PE T J R I ca h) := by
  refine Con.mk (cc := cX9_clearFor) (maxL := 2) (ret := none) (by decide) rfl (Nat.le_of_ble_eq_true rfl) ?_
  intro E hE C Z hnm
  subst hE
  change WP E 2 0 0 T I J R 0 [(0, .ref (ca 15)), (1, .int h)] []
  refine wp_aload_n C 0 dX9_clearFor_0 rfl rfl ?_
  refine wp_iload_n C 1 dX9_clearFor_1 rfl rfl ?_
  refine wp_putI C dX9_clearFor_2 pX9_clearFor_9 (fun h => nomatch h) (hC.ob 15 (by decide) rfl) ?_
  refine wp_aload_n C 0 dX9_clearFor_5 rfl rfl ?_
  refine wp_getR C dX9_clearFor_6 fX9_clearFor_15 (hC.ob 15 (by decide) rfl) (hC.rf 15 1 23 (by decide)) ?_
  refine wp_iconst C (-1) dX9_clearFor_9 (by decide) ?_
  refine wp_cSv C (As := [.ref (ca 23), .int (-1)]) (rest := []) dX9_clearFor_10 kX9_clearFor_26 (c_fillI _ (hC.ar 23 (by decide) rfl) (by decide) (-1)) rfl (Nat.le_of_ble_eq_true rfl) (by decide) (by decide) ?_
  refine wp_aload_n C 0 dX9_clearFor_13 rfl rfl ?_
  refine wp_getR C dX9_clearFor_14 fX9_clearFor_19 (hC.ob 15 (by decide) rfl) (hC.rf 15 2 24 (by decide)) ?_
  refine wp_iconst C (-1) dX9_clearFor_17 (by decide) ?_
  refine wp_cSv C (As := [.ref (ca 24), .int (-1)]) (rest := []) dX9_clearFor_18 kX9_clearFor_26 (c_fillI _ (hC.ar 24 (by decide) rfl) (by decide) (-1)) rfl (Nat.le_of_ble_eq_true rfl) (by decide) (by decide) ?_
  exact wp_vret C Z dX9_clearFor_21 (by decide) (by decide) ⟨rfl, rfl, rfl, rfl, fun x h1 h2 h3 => by rw [vu_n _ _ h3, vu_n _ _ h2, u2_rown _ _ _ _ h1], by rw [vu_n _ _ (hC.ne 15 24 (by decide) (by decide) (by decide)), vu_n _ _ (hC.ne 15 23 (by decide) (by decide) (by decide)), u2_s], fun q hq => by rw [vu_n _ _ (hC.ne 23 24 (by decide) (by decide) (by decide)), vu_s, vI_0]; exact if_pos hq, fun q hq => by rw [vu_s, vI_0]; exact if_pos hq⟩
/-- the whole table is laid -/
def PL (T : gSh) (J : gJ) (R : gR) (I : gI) (ca : Nat → Nat) (h : Nat) (c : Nat → Nat) : gPost := fun r T' I' J' R' => r = none ∧ T = T' ∧ J = J' ∧ R = R' ∧ (∀ x, x ≠ ca 15 → x ≠ ca 23 → x ≠ ca 24 → I' x = I x) ∧ I' (ca 15) 0 = nI h ∧ TT I' (ca 23) (ca 24) (TF h c 80).1 (TF h c 80).2
set_option maxRecDepth 100000 in
set_option maxHeartbeats 4000000 in
theorem c_layAll (l : Launch) {T : gSh} {I : gI} {J : gJ} {R : gR} {ca : Nat → Nat} (hC : CO T R ca) {h : Nat} {c : Nat → Nat} (hh : I (ca 2) 2 = nI h) (h8 : h ≤ 8) (hc : ∀ p, p < 80 → I (ca 16) p = nI (c p) ∧ c p ≤ 1) (hn : ∀ y, y < 18 → cnt c y ≤ h) : Con l yX4_layAll wsX4_layAll ({ frames := 3, cells := 0, slots := 0, locals := 74 }) [.ref (ca 2)] T I J R (PL T J R I ca h c) := by
  refine Con.mk (cc := cX4_layAll) (maxL := 2) (ret := none) (by decide) rfl (Nat.le_of_ble_eq_true rfl) ?_
  intro E hE C Z hnm
  subst hE
  change WP E 2 0 0 T I J R 0 [(0, .ref (ca 2))] []
  have loop : ∀ i, i ≤ 80 → ∀ I1 : gI, (∀ x, x ≠ ca 15 → x ≠ ca 23 → x ≠ ca 24 → I1 x = I x) → I1 (ca 15) 0 = nI h → TT I1 (ca 23) (ca 24) (TF h c i).1 (TF h c i).2 → ∀ lv, lv_pick lv [0, 1] = [(0, .ref (ca 2)), (1, .int (nI i))] → WP E 2 0 0 T I1 J R 13 lv [] := by
    refine loopN 80 (fun i hi ih => ?_)
    intro I1 hF hH hT lv hlv
    refine wp_lv [0, 1] hlv ?_
    refine wp_iload_n C 1 dX4_layAll_13 rfl rfl ?_
    refine wp_bipush C 80 dX4_layAll_14 (by decide) ?_
    refine wp_icmp_ge C 52 dX4_layAll_16 (by decide) (fun c16 => ?_) (fun c16 => ?_)
    · have c16 : 80 ≤ ((i : Nat) : Int) := by have hcv := p_le c16; rw [nI_toInt (show i < 2 ^ 31 by omega)] at hcv; exact hcv
      have e9 : i = 80 := by omega
      subst e9
      exact wp_vret C Z dX4_layAll_52 (by decide) (by decide) ⟨rfl, rfl, rfl, rfl, hF, hH, hT⟩
    · have c16 : ¬ 80 ≤ ((i : Nat) : Int) := by have hcv := n_le c16; rw [nI_toInt (show i < 2 ^ 31 by omega)] at hcv; exact hcv
      refine wp_aload_n C 0 dX4_layAll_19 rfl rfl ?_
      refine wp_getR C dX4_layAll_20 fX4_layAll_28 (hC.ob 2 (by decide) rfl) (hC.rf 2 4 14 (by decide)) ?_
      refine wp_getR C dX4_layAll_23 fX4_layAll_58 (hC.ob 14 (by decide) rfl) (hC.rf 14 1 16 (by decide)) ?_
      refine wp_iload_n C 1 dX4_layAll_26 rfl rfl ?_
      have bc := (hc i (by omega)).2
      refine wp_zald C dX4_layAll_27 (hC.ar 16 (by decide) rfl) (j := i) rfl (by omega) (by decide) ?_
      refine wp_eqi ((congrFun (hF (ca 16) (hC.ne 16 15 (by decide) (by decide) (by decide)) (hC.ne 16 23 (by decide) (by decide) (by decide)) (hC.ne 16 24 (by decide) (by decide) (by decide))) _).trans (hc i (by omega)).1) ?_
      refine wp_if_eq C 46 dX4_layAll_28 (by decide) (fun c28 => ?_) (fun c28 => ?_)
      · have c28 : ((c i : Nat) : Int) = 0 := by have hcv := p_eq c28; rw [nI_toInt (show c i < 2 ^ 31 by omega)] at hcv; exact hcv
        refine wp_iinc C 1 (nI (i + 1)) [(1, .int (nI (i + 1))), (0, .ref (ca 2))] dX4_layAll_46 rfl (nI_1 i) (by decide) rfl ?_
        refine wp_goto C 13 dX4_layAll_49 (by decide) ?_
        refine wp_lv [1, 0] rfl ?_
        refine ih (i + 1) (by omega) (by omega) I1 hF hH (by rw [TF_0 (by omega)]; exact hT) _ rfl
      · have c28 : ¬ ((c i : Nat) : Int) = 0 := by have hcv := n_eq c28; rw [nI_toInt (show c i < 2 ^ 31 by omega)] at hcv; exact hcv
        refine wp_aload_n C 0 dX4_layAll_31 rfl rfl ?_
        refine wp_getR C dX4_layAll_32 fX4_layAll_35 (hC.ob 2 (by decide) rfl) (hC.rf 2 5 15 (by decide)) ?_
        refine wp_iload_n C 1 dX4_layAll_35 rfl rfl ?_
        refine wp_bipush C 10 dX4_layAll_36 (by decide) ?_
        refine wp_idiv C dX4_layAll_38 (by decide) ?_
        refine wp_eqi (pk_div (by omega) (by omega) (by omega) : _ = nI (i / 10)) ?_
        refine wp_iload_n C 1 dX4_layAll_39 rfl rfl ?_
        refine wp_bipush C 10 dX4_layAll_40 (by decide) ?_
        refine wp_irem C dX4_layAll_42 (by decide) ?_
        refine wp_eqi (pk_rem (by omega) (by omega) (by omega) : _ = nI (i % 10)) ?_
        have tI := TF_TI h8 (fun p hp => (hc p hp).2) hn i (by omega)
        have ci : c i = 1 := by have := (hc i (by omega)).2; omega
        refine wp_callV C (As := [.int (nI (i / 10)), .int (nI (i % 10))]) (rest := []) dX4_layAll_43 kX4_layAll_62 (hC.ob 15 (by decide) rfl) (c_lay _ hC hH h8 hT tI.1 (ag := i / 10) (ed := i % 10) (by omega) (by omega) (tI.freeA h8 (by omega) ci (hn _ (by omega))) (tI.freeE h8 (by omega) ci (hn _ (by omega)))) rfl (Nat.le_of_ble_eq_true rfl) (by decide) (by decide) ?_
        rintro _ _ I2 _ _ ⟨rfl, rfl, rfl, rfl, hF2, hT2⟩
        change WP E 2 0 0 T I2 J R 46 [(0, .ref (ca 2)), (1, .int (nI i))] []
        refine wp_iinc C 1 (nI (i + 1)) [(1, .int (nI (i + 1))), (0, .ref (ca 2))] dX4_layAll_46 rfl (nI_1 i) (by decide) rfl ?_
        refine wp_goto C 13 dX4_layAll_49 (by decide) ?_
        refine wp_lv [1, 0] rfl ?_
        refine ih (i + 1) (by omega) (by omega) I2 (fun x h1 h2 h3 => (hF2 x h2 h3).trans (hF x h1 h2 h3)) ((congrFun (hF2 (ca 15) (hC.ne 15 23 (by decide) (by decide) (by decide)) (hC.ne 15 24 (by decide) (by decide) (by decide))) 0).trans hH) (by rw [TF_1 ci]; exact hT2) _ rfl
  refine wp_aload_n C 0 dX4_layAll_0 rfl rfl ?_
  refine wp_getR C dX4_layAll_1 fX4_layAll_35 (hC.ob 2 (by decide) rfl) (hC.rf 2 5 15 (by decide)) ?_
  refine wp_aload_n C 0 dX4_layAll_4 rfl rfl ?_
  refine wp_getI C dX4_layAll_5 fX4_layAll_18 (hC.ob 2 (by decide) rfl) ?_
  refine wp_eqi hh ?_
  refine wp_callV C (As := [.int (nI h)]) (rest := []) dX4_layAll_8 kX4_layAll_55 (hC.ob 15 (by decide) rfl) (c_clearFor _ hC (nI h)) rfl (Nat.le_of_ble_eq_true rfl) (by decide) (by decide) ?_
  rintro _ _ I2 _ _ ⟨rfl, rfl, rfl, rfl, hF2, hH2, hT2⟩
  change WP E 2 0 0 T I2 J R 11 [(0, .ref (ca 2))] []
  refine wp_iconst C 0 dX4_layAll_11 (by decide) ?_
  refine wp_istore_n C [(1, .int 0), (0, .ref (ca 2))] dX4_layAll_12 rfl (by decide) rfl ?_
  refine wp_lv [1, 0] rfl ?_
  exact loop 0 (by omega) I2 hF2 hH2 hT2 _ rfl
theorem OpB.zero {h : Nat} (h1 : 1 ≤ h) (h8 : h ≤ 8) : OpB h (fun _ => 0) (fun _ => 0) (fun _ => 0) := by
  refine ⟨⟨h1, h8⟩, fun p hp => ⟨Nat.zero_le _, Nat.zero_le _, fun q => absurd (show (0 : Nat) = 1 from q) (by decide)⟩, fun n hn => ⟨(cnt_z n).symm, Nat.zero_le _⟩, fun _ => 0, fun u v g H => ?_⟩
  rcases H with ⟨a, e, -, -, -, -, q, -⟩ | ⟨a, e, -, -, -, -, q, -⟩ | ⟨-, -, q, -⟩ | ⟨-, -, -, -, q⟩ | ⟨-, -, -, q⟩ | ⟨-, -, -, q, -⟩
  · exact absurd (show 0 < 0 from q) (by decide)
  · exact absurd (show (0 : Nat) = 1 from q) (by decide)
  · exact absurd (show 0 < 0 from q) (by decide)
  · show (0 : Int) + g ≤ 0; omega
  · show (0 : Int) + g ≤ 0; omega
  · exact absurd (show 0 < 0 from q) (by decide)
/-- the meetings in the class's heap: agents, editors, half hours, worths; a best set; the table, if it is up to date -/
def KM (I : gI) (ca : Nat → Nat) (A B h : Nat) (w : Nat → Nat) : Prop := (I (ca 2) 0 = nI A ∧ A ≤ 8) ∧ (I (ca 2) 1 = nI B ∧ B ≤ 10) ∧ (I (ca 2) 2 = nI h ∧ 1 ≤ h ∧ h ≤ 8) ∧ (∀ p, p < 80 → I (ca 13) p = nI (w p) ∧ w p ≤ 100) ∧ (∀ v, v < 19 → I (ca 22) v = 0) ∧ ∃ (u h1 : Nat) (w1 c dg : Nat → Nat), I (ca 2) 6 = nI u ∧ u ≤ 1 ∧ BS I ca h1 w1 c dg ∧ OpB h1 w1 c dg ∧ (u = 1 → h1 = h ∧ (∀ p, p < 80 → w1 p = w p) ∧ I (ca 15) 0 = nI h ∧ TT I (ca 23) (ca 24) (TF h c 80).1 (TF h c 80).2)
/-- .. and it is -/
def KU (I : gI) (ca : Nat → Nat) (A B h : Nat) (w c : Nat → Nat) : Prop := (I (ca 2) 0 = nI A ∧ A ≤ 8) ∧ (I (ca 2) 1 = nI B ∧ B ≤ 10) ∧ (I (ca 2) 2 = nI h ∧ 1 ≤ h ∧ h ≤ 8) ∧ (∀ p, p < 80 → I (ca 13) p = nI (w p) ∧ w p ≤ 100) ∧ (∀ v, v < 19 → I (ca 22) v = 0) ∧ ∃ (w1 dg : Nat → Nat), I (ca 2) 6 = nI 1 ∧ BS I ca h w1 c dg ∧ OpB h w1 c dg ∧ (∀ p, p < 80 → w1 p = w p) ∧ I (ca 15) 0 = nI h ∧ TT I (ca 23) (ca 24) (TF h c 80).1 (TF h c 80).2
theorem KU.km {I : gI} {ca : Nat → Nat} {A B h : Nat} {w c : Nat → Nat} (H : KU I ca A B h w c) : KM I ca A B h w := by
  obtain ⟨h1, h2, h3, h4, h5, w1, dg, k1, k2, k3, k4, k5, k6⟩ := H
  exact ⟨h1, h2, h3, h4, h5, 1, h, w1, c, dg, k1, Nat.le_refl _, k2, k3, fun _ => ⟨rfl, k4, k5, k6⟩⟩
/-- the cells of the meetings alone have changed -/
def FrK (I I' : gI) (J J' : gJ) (ca : Nat → Nat) : Prop := (∀ x, x ≠ ca 2 → x ≠ ca 14 → x ≠ ca 15 → x ≠ ca 16 → x ≠ ca 17 → x ≠ ca 18 → x ≠ ca 21 → x ≠ ca 22 → x ≠ ca 23 → x ≠ ca 24 → I' x = I x) ∧ AgJ J J' ca
def PU (T : gSh) (R : gR) (I : gI) (J : gJ) (ca : Nat → Nat) (A B h : Nat) (w : Nat → Nat) : gPost := fun r T' I' J' R' => r = none ∧ T = T' ∧ R = R' ∧ FrK I I' J J' ca ∧ ∃ c, KU I' ca A B h w c
set_option maxRecDepth 100000 in
set_option maxHeartbeats 4000000 in
theorem c_bringUpToDate (l : Launch) {T : gSh} {I : gI} {J : gJ} {R : gR} {ca : Nat → Nat} (hC : CO T R ca) {A B h : Nat} {w : Nat → Nat} (hK : KM I ca A B h w) : Con l yX4_bringUpToDate wsX4_bringUpToDate ({ frames := 5, cells := 0, slots := 0, locals := 135 }) [.ref (ca 2)] T I J R (PU T R I J ca A B h w) := by
  refine Con.mk (cc := cX4_bringUpToDate) (maxL := 2) (ret := none) (by decide) rfl (Nat.le_of_ble_eq_true rfl) ?_
  intro E hE C Z hnm
  subst hE
  change WP E 2 0 0 T I J R 0 [(0, .ref (ca 2))] []
  obtain ⟨⟨a1, a2⟩, ⟨b1, b2⟩, ⟨h1, h2, h3⟩, hw, hz, u, hs, w1, c, dg, u1, u2_, bs, op, up⟩ := hK
  have loop : ∀ i, i ≤ 80 → ∀ (I1 : gI) (J1 : gJ) (w1 c dg : Nat → Nat), (∀ x, x ≠ ca 14 → x ≠ ca 16 → x ≠ ca 17 → x ≠ ca 18 → x ≠ ca 21 → x ≠ ca 22 → I1 x = I x) → AgJ J J1 ca → (∀ v, v < 19 → I1 (ca 22) v = 0) → BS I1 ca h w1 c dg → OpB h w1 c dg → (∀ p, p < i → w1 p = w p) → ∀ lv, lv_pick lv [0, 1] = [(0, .ref (ca 2)), (1, .int (nI i))] → WP E 2 0 0 T I1 J1 R 35 lv [] := by
    refine loopN 80 (fun i hi ih => ?_)
    intro I1 J1 w1 c dg hF hJ hz1 hB hO he lv hlv
    refine wp_lv [0, 1] hlv ?_
    have f2 : I1 (ca 2) = I (ca 2) := hF _ (hC.ne 2 14 (by decide) (by decide) (by decide)) (hC.ne 2 16 (by decide) (by decide) (by decide)) (hC.ne 2 17 (by decide) (by decide) (by decide)) (hC.ne 2 18 (by decide) (by decide) (by decide)) (hC.ne 2 21 (by decide) (by decide) (by decide)) (hC.ne 2 22 (by decide) (by decide) (by decide))
    have f13 : I1 (ca 13) = I (ca 13) := hF _ (hC.ne 13 14 (by decide) (by decide) (by decide)) (hC.ne 13 16 (by decide) (by decide) (by decide)) (hC.ne 13 17 (by decide) (by decide) (by decide)) (hC.ne 13 18 (by decide) (by decide) (by decide)) (hC.ne 13 21 (by decide) (by decide) (by decide)) (hC.ne 13 22 (by decide) (by decide) (by decide))
    refine wp_iload_n C 1 dX4_bringUpToDate_35 rfl rfl ?_
    refine wp_bipush C 80 dX4_bringUpToDate_36 (by decide) ?_
    refine wp_icmp_ge C 61 dX4_bringUpToDate_38 (by decide) (fun c38 => ?_) (fun c38 => ?_)
    · have c38 : 80 ≤ ((i : Nat) : Int) := by have hcv := p_le c38; rw [nI_toInt (show i < 2 ^ 31 by omega)] at hcv; exact hcv
      refine wp_aload_n C 0 dX4_bringUpToDate_61 rfl rfl ?_
      have e9 : i = 80 := by omega
      refine wp_callV C (As := []) (rest := []) dX4_bringUpToDate_62 kX4_bringUpToDate_52 (hC.ob 2 (by decide) rfl) (c_layAll _ hC (h := h) (c := c) (by rw [f2]; exact h1) h3 hB.2.2.2.1 (fun y hy => by have := hO.2.2.1 y hy; omega)) rfl (Nat.le_of_ble_eq_true rfl) (by decide) (by decide) ?_
      rintro _ _ I2 _ _ ⟨rfl, rfl, rfl, rfl, hF2, hH2, hT2⟩
      change WP E 2 0 0 T I2 J1 R 65 [(0, .ref (ca 2)), (1, .int (nI i))] []
      refine wp_aload_n C 0 dX4_bringUpToDate_65 rfl rfl ?_
      refine wp_iconst C 1 dX4_bringUpToDate_66 (by decide) ?_
      refine wp_putZ C dX4_bringUpToDate_67 pX4_bringUpToDate_39 (fun h => nomatch h) (hC.ob 2 (by decide) rfl) (by decide) ?_
      have g2 : I2 (ca 2) = I (ca 2) := (hF2 _ (hC.ne 2 15 (by decide) (by decide) (by decide)) (hC.ne 2 23 (by decide) (by decide) (by decide)) (hC.ne 2 24 (by decide) (by decide) (by decide))).trans f2
      have g13 : I2 (ca 13) = I (ca 13) := (hF2 _ (hC.ne 13 15 (by decide) (by decide) (by decide)) (hC.ne 13 23 (by decide) (by decide) (by decide)) (hC.ne 13 24 (by decide) (by decide) (by decide))).trans f13
      have g14 : I2 (ca 14) = I1 (ca 14) := hF2 _ (hC.ne 14 15 (by decide) (by decide) (by decide)) (hC.ne 14 23 (by decide) (by decide) (by decide)) (hC.ne 14 24 (by decide) (by decide) (by decide))
      have g16 : I2 (ca 16) = I1 (ca 16) := hF2 _ (hC.ne 16 15 (by decide) (by decide) (by decide)) (hC.ne 16 23 (by decide) (by decide) (by decide)) (hC.ne 16 24 (by decide) (by decide) (by decide))
      have g17 : I2 (ca 17) = I1 (ca 17) := hF2 _ (hC.ne 17 15 (by decide) (by decide) (by decide)) (hC.ne 17 23 (by decide) (by decide) (by decide)) (hC.ne 17 24 (by decide) (by decide) (by decide))
      have g18 : I2 (ca 18) = I1 (ca 18) := hF2 _ (hC.ne 18 15 (by decide) (by decide) (by decide)) (hC.ne 18 23 (by decide) (by decide) (by decide)) (hC.ne 18 24 (by decide) (by decide) (by decide))
      have g22 : I2 (ca 22) = I1 (ca 22) := hF2 _ (hC.ne 22 15 (by decide) (by decide) (by decide)) (hC.ne 22 23 (by decide) (by decide) (by decide)) (hC.ne 22 24 (by decide) (by decide) (by decide))
      have o : ∀ k, k ≠ 6 → u2 I2 (ca 2) 6 1 (ca 2) k = I (ca 2) k := fun k hk => by rw [u2_k _ _ _ _ hk, g2]
      have r13 : u2 I2 (ca 2) 6 1 (ca 13) = I2 (ca 13) := u2_rown _ _ _ _ (hC.ne 13 2 (by decide) (by decide) (by decide))
      have r14 : u2 I2 (ca 2) 6 1 (ca 14) = I2 (ca 14) := u2_rown _ _ _ _ (hC.ne 14 2 (by decide) (by decide) (by decide))
      have r15 : u2 I2 (ca 2) 6 1 (ca 15) = I2 (ca 15) := u2_rown _ _ _ _ (hC.ne 15 2 (by decide) (by decide) (by decide))
      have r16 : u2 I2 (ca 2) 6 1 (ca 16) = I2 (ca 16) := u2_rown _ _ _ _ (hC.ne 16 2 (by decide) (by decide) (by decide))
      have r17 : u2 I2 (ca 2) 6 1 (ca 17) = I2 (ca 17) := u2_rown _ _ _ _ (hC.ne 17 2 (by decide) (by decide) (by decide))
      have r18 : u2 I2 (ca 2) 6 1 (ca 18) = I2 (ca 18) := u2_rown _ _ _ _ (hC.ne 18 2 (by decide) (by decide) (by decide))
      have r22 : u2 I2 (ca 2) 6 1 (ca 22) = I2 (ca 22) := u2_rown _ _ _ _ (hC.ne 22 2 (by decide) (by decide) (by decide))
      have r23 : u2 I2 (ca 2) 6 1 (ca 23) = I2 (ca 23) := u2_rown _ _ _ _ (hC.ne 23 2 (by decide) (by decide) (by decide))
      have r24 : u2 I2 (ca 2) 6 1 (ca 24) = I2 (ca 24) := u2_rown _ _ _ _ (hC.ne 24 2 (by decide) (by decide) (by decide))
      refine wp_vret C Z dX4_bringUpToDate_70 (by decide) (by decide) ⟨rfl, rfl, rfl, ⟨fun x k2 k14 k15 k16 k17 k18 k21 k22 k23 k24 => by rw [u2_rown _ _ _ _ k2, hF2 x k15 k23 k24]; exact hF x k14 k16 k17 k18 k21 k22, hJ⟩, c, ⟨(o 0 (by decide)).trans a1, a2⟩, ⟨(o 1 (by decide)).trans b1, b2⟩, ⟨(o 2 (by decide)).trans h1, h2, h3⟩, fun p hp => by rw [r13, g13]; exact hw p hp, fun v hv => by rw [r22, g22]; exact hz1 v hv, w1, dg, u2_s _ _ _ _, ?_, hO, fun p hp => he p (by omega), by rw [r15]; exact hH2, ?_⟩
      · unfold BS; rw [r14, r16, r17, r18, g14, g16, g17, g18]; exact hB
      · unfold TT; rw [r23, r24]; exact hT2
    · have c38 : ¬ 80 ≤ ((i : Nat) : Int) := by have hcv := n_le c38; rw [nI_toInt (show i < 2 ^ 31 by omega)] at hcv; exact hcv
      refine wp_aload_n C 0 dX4_bringUpToDate_41 rfl rfl ?_
      refine wp_getR C dX4_bringUpToDate_42 fX4_bringUpToDate_28 (hC.ob 2 (by decide) rfl) (hC.rf 2 4 14 (by decide)) ?_
      refine wp_iload_n C 1 dX4_bringUpToDate_45 rfl rfl ?_
      refine wp_aload_n C 0 dX4_bringUpToDate_46 rfl rfl ?_
      refine wp_getR C dX4_bringUpToDate_47 fX4_bringUpToDate_21 (hC.ob 2 (by decide) rfl) (hC.rf 2 3 13 (by decide)) ?_
      refine wp_iload_n C 1 dX4_bringUpToDate_50 rfl rfl ?_
      have bw := (hw i (by omega)).2
      refine wp_iald C dX4_bringUpToDate_51 (hC.ar 13 (by decide) rfl) (j := i) rfl (by omega) (by decide) ?_
      refine wp_eqi ((congrFun f13 i).trans (hw i (by omega)).1) ?_
      refine wp_callV C (As := [.int (nI i), .int (nI (w i))]) (rest := []) dX4_bringUpToDate_52 kX4_bringUpToDate_48 (hC.ob 14 (by decide) rfl) (c_changeWorth _ hC hB hO hz1 (p := i) (x := w i) (by omega) (hw i (by omega)).2) rfl (Nat.le_of_ble_eq_true rfl) (by decide) (by decide) ?_
      rintro _ _ I2 J2 _ ⟨rfl, rfl, rfl, hF2, hJ2, hz2, c2, dg2, hB2, hO2⟩
      change WP E 2 0 0 T I2 J2 R 55 [(0, .ref (ca 2)), (1, .int (nI i))] []
      refine wp_iinc C 1 (nI (i + 1)) [(1, .int (nI (i + 1))), (0, .ref (ca 2))] dX4_bringUpToDate_55 rfl (nI_1 i) (by decide) rfl ?_
      refine wp_goto C 35 dX4_bringUpToDate_58 (by decide) ?_
      refine wp_lv [1, 0] rfl ?_
      refine ih (i + 1) (by omega) (by omega) I2 J2 _ c2 dg2 (fun x k1 k2 k3 k4 k5 k6 => (hF2 x k2 k3 k4 k5 k6).trans (hF x k1 k2 k3 k4 k5 k6)) (fun x k1 k2 => (hJ2 x k1 k2).trans (hJ x k1 k2)) hz2 hB2 hO2 (fun p hp => ?_) _ rfl
      by_cases e9 : p = i
      · rw [e9, vu_s]
      · rw [vu_n _ _ e9]; exact he p (by omega)
  refine wp_aload_n C 0 dX4_bringUpToDate_0 rfl rfl ?_
  refine wp_getI C dX4_bringUpToDate_1 fX4_bringUpToDate_39 (hC.ob 2 (by decide) rfl) ?_
  refine wp_eqi u1 ?_
  refine wp_if_eq C 8 dX4_bringUpToDate_4 (by decide) (fun c4 => ?_) (fun c4 => ?_)
  · have c4 : ((u : Nat) : Int) = 0 := by have hcv := p_eq c4; rw [nI_toInt (show u < 2 ^ 31 by omega)] at hcv; exact hcv
    refine wp_aload_n C 0 dX4_bringUpToDate_8 rfl rfl ?_
    refine wp_getR C dX4_bringUpToDate_9 fX4_bringUpToDate_28 (hC.ob 2 (by decide) rfl) (hC.rf 2 4 14 (by decide)) ?_
    refine wp_getI C dX4_bringUpToDate_12 fX4_bringUpToDate_43 (hC.ob 14 (by decide) rfl) ?_
    refine wp_eqi bs.1 ?_
    refine wp_aload_n C 0 dX4_bringUpToDate_15 rfl rfl ?_
    refine wp_getI C dX4_bringUpToDate_16 fX4_bringUpToDate_18 (hC.ob 2 (by decide) rfl) ?_
    refine wp_eqi h1 ?_
    have hs8 := bs.2.1
    refine wp_icmp_eq C 33 dX4_bringUpToDate_19 (by decide) (fun c19 => ?_) (fun c19 => ?_)
    · have c19 : ((hs : Nat) : Int) = ((h : Nat) : Int) := by have hcv := p_eq c19; rw [nI_toInt (show hs < 2 ^ 31 by omega), nI_toInt (show h < 2 ^ 31 by omega)] at hcv; exact hcv
      refine wp_iconst C 0 dX4_bringUpToDate_33 (by decide) ?_
      refine wp_istore_n C [(1, .int 0), (0, .ref (ca 2))] dX4_bringUpToDate_34 rfl (by decide) rfl ?_
      refine wp_lv [1, 0] rfl ?_
      have e8 : hs = h := by omega
      subst e8
      exact loop 0 (by omega) I J w1 c dg (fun _ _ _ _ _ _ _ => rfl) (fun _ _ _ => rfl) hz bs op (fun p hp => by omega) _ rfl
    · have c19 : ¬ ((hs : Nat) : Int) = ((h : Nat) : Int) := by have hcv := n_eq c19; rw [nI_toInt (show hs < 2 ^ 31 by omega), nI_toInt (show h < 2 ^ 31 by omega)] at hcv; exact hcv
      refine wp_aload_n C 0 dX4_bringUpToDate_22 rfl rfl ?_
      refine wp_getR C dX4_bringUpToDate_23 fX4_bringUpToDate_28 (hC.ob 2 (by decide) rfl) (hC.rf 2 4 14 (by decide)) ?_
      refine wp_aload_n C 0 dX4_bringUpToDate_26 rfl rfl ?_
      refine wp_getI C dX4_bringUpToDate_27 fX4_bringUpToDate_18 (hC.ob 2 (by decide) rfl) ?_
      refine wp_eqi h1 ?_
      refine wp_cVv C (As := [.int (nI h)]) (rest := []) dX4_bringUpToDate_30 kX4_bringUpToDate_44 (hC.ob 14 (by decide) rfl) (c_startAnew _ hC (nI h)) rfl (Nat.le_of_ble_eq_true rfl) (by decide) (by decide) ?_
      refine wp_iconst C 0 dX4_bringUpToDate_33 (by decide) ?_
      refine wp_istore_n C [(1, .int 0), (0, .ref (ca 2))] dX4_bringUpToDate_34 rfl (by decide) rfl ?_
      refine wp_lv [1, 0] rfl ?_
      refine loop 0 (by omega) _ J (fun _ => 0) (fun _ => 0) (fun _ => 0) (fun x k14 k16 k17 k18 _ _ => ?_) (fun _ _ _ => rfl) (fun v hv => ?_) ⟨?_, h3, fun p hp => ⟨?_, Nat.zero_le _⟩, fun p hp => ⟨?_, Nat.zero_le _⟩, fun n hn => ⟨?_, Nat.zero_le _⟩⟩ (OpB.zero h2 h3) (fun p hp => by omega) _ rfl
      · unfold saI; rw [vu_n _ _ k16, vu_n _ _ k18, vu_n _ _ k17, u2_rown _ _ _ _ k14]
      · unfold saI; rw [vu_n _ _ (hC.ne 22 16 (by decide) (by decide) (by decide)), vu_n _ _ (hC.ne 22 18 (by decide) (by decide) (by decide)), vu_n _ _ (hC.ne 22 17 (by decide) (by decide) (by decide)), u2_rown _ _ _ _ (hC.ne 22 14 (by decide) (by decide) (by decide))]; exact hz v hv
      · unfold saI; rw [vu_n _ _ (hC.ne 14 16 (by decide) (by decide) (by decide)), vu_n _ _ (hC.ne 14 18 (by decide) (by decide) (by decide)), vu_n _ _ (hC.ne 14 17 (by decide) (by decide) (by decide)), u2_s]
      · unfold saI; rw [vu_n _ _ (hC.ne 17 16 (by decide) (by decide) (by decide)), vu_n _ _ (hC.ne 17 18 (by decide) (by decide) (by decide)), vu_s]; exact if_pos hp
      · unfold saI; rw [vu_s]; exact if_pos hp
      · unfold saI; rw [vu_n _ _ (hC.ne 18 16 (by decide) (by decide) (by decide)), vu_s]; exact if_pos hn
  · have c4 : ¬ ((u : Nat) : Int) = 0 := by have hcv := n_eq c4; rw [nI_toInt (show u < 2 ^ 31 by omega)] at hcv; exact hcv
    have e8 : u = 1 := by omega
    subst e8
    obtain ⟨rfl, e2, e3, e4⟩ := up rfl
    exact wp_vret C Z dX4_bringUpToDate_7 (by decide) (by decide) ⟨rfl, rfl, rfl, ⟨fun _ _ _ _ _ _ _ _ _ _ _ => rfl, fun _ _ _ => rfl⟩, c, ⟨a1, a2⟩, ⟨b1, b2⟩, ⟨h1, h2, h3⟩, hw, hz, w1, dg, u1, bs, op, e2, e3, e4⟩
