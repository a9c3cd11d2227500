/-! ===== take of the class ===== -/
/-- an end of a part of a call of the class -/
def PQv (T : gSh) (I : gI) (J : gJ) (R : gR) (ca : Nat → Nat) (a : gI) (n : gJ) : gPost := fun r T' I' J' R' => r = none ∧ FrC T T' I I' J J' R R' ca ∧ KA T' I' J' R' ca a n
def PQx (T : gSh) (I : gI) (J : gJ) (R : gR) (ca : Nat → Nat) (L : List Nat) (v : Value) (a : gI) (n : gJ) : gPost := fun r T' I' J' R' => r = some v ∧ ExL T T' I I' J J' R R' ca L ∧ KA T' I' J' R' ca a n
theorem clN_m (a : gI) (m b : Int32) (v : Nat → Int32) : clN (u2 a 0 25 m) b v = clN a b v := rfl
theorem vdS_m (b mi : Int32) (a : gI) (m : Int32) (k : Nat) : vdS b mi (u2 a 0 25 m) k = u2 (vdS b mi a k) 0 25 m := by
  have e1 : u2 a 0 25 m 40 = a 40 := u2_rown _ _ _ _ (by decide)
  have e2 : mkN (u2 a 0 25 m) mi k = mkN a mi k := by unfold mkN; rw [u2_rown _ _ _ _ (show (48 : Nat) ≠ 0 by decide), u2_rown _ _ _ _ (show (47 : Nat) ≠ 0 by decide)]
  have e3 : ov (u2 a 0 25 m) k = ov a k := by funext j; exact u2_a _ _ _ _ (by omega) _
  have e4 : u2 (u2 a 0 25 m) 48 k 2 = u2 (u2 a 48 k 2) 0 25 m := by
    funext x y
    by_cases hx : x = 0
    · subst hx
      rw [u2_a _ _ _ _ (by decide)]
      by_cases hy : y = 25
      · subst hy; rw [u2_s, u2_s]
      · rw [u2_k _ _ _ _ hy, u2_k _ _ _ _ hy, u2_a _ _ _ _ (by decide)]
    · rw [u2_a _ _ _ _ hx]
      by_cases hz : x = 48
      · subst hz
        by_cases hy : y = k
        · subst hy; rw [u2_s, u2_s]
        · rw [u2_k _ _ _ _ hy, u2_k _ _ _ _ hy, u2_a _ _ _ _ (by decide)]
      · rw [u2_a _ _ _ _ hz, u2_a _ _ _ _ hz, u2_a _ _ _ _ hx]
  unfold vdS
  rw [e1, e2, e3, e4, clN_m]
  (repeat' split) <;> rfl
theorem vdF_m (b mi : Int32) (a : gI) (m : Int32) (k : Nat) : vdF b mi (u2 a 0 25 m) k = u2 (vdF b mi a k) 0 25 m := by
  induction k with
  | zero => rfl
  | succ k ih =>
    show vdS b mi (vdF b mi (u2 a 0 25 m) k) k = u2 (vdS b mi (vdF b mi a k) k) 0 25 m
    rw [ih, vdS_m]
theorem mbN_1 {a : gI} {b e : Int32} {v : Nat → Int32} {mi : Int32} (h : mbN a b e v mi = 1) : clN a b v = 0 := by
  simp only [mbN] at h; (repeat' split at h) <;> omega
set_option maxRecDepth 100000 in
set_option maxHeartbeats 4000000 in
theorem c_addGrantX (l : Launch) {T : gSh} {I : gI} {J : gJ} {R : gR} {ca : Nat → Nat} {a : gI} {n : gJ} (hK : KA T I J R ca a n) {r : Nat} {v : Nat → Int32} (hr : RI T I r v) (hv : vR v) {b e : Int32} (he : 0 ≤ e.toInt) (h60 : (a 0 22).toInt < 60) (hc : clN a b v = 0) : Con l yX2_addGrant wsX2_addGrant ({ frames := 2, cells := 1, slots := 5, locals := 43 }) [.ref (ca 3), .int b, .int e, .ref r] T I J R (PQx T I J R ca [3, 27] (.int (a 0 22)) (aGr a b e v) n) := by
  refine Con.mk (cc := cX2_addGrant) (maxL := 4) (ret := (some .int)) (by decide) rfl (Nat.le_of_ble_eq_true rfl) ?_
  intro E hE C Z hnm
  subst hE
  change WP E 4 0 0 T I J R 0 [(0, .ref (ca 3)), (1, .int b), (2, .int e), (3, .ref r)] []
  have kg := hK.2.2.2.2.2.2.1.ar
  have hC := hK.1
  refine wp_aload_n C 0 dX2_addGrant_0 rfl rfl ?_
  refine wp_getR C dX2_addGrant_1 fX2_addGrant_27 (hC.ob 3 (by decide) rfl) (hC.rf 3 4 27 (by decide)) ?_
  refine wp_aload_n C 0 dX2_addGrant_4 rfl rfl ?_
  refine wp_getI C dX2_addGrant_5 fX2_addGrant_22 (hC.ob 3 (by decide) rfl) ?_
  refine wp_eqi kg.1 ?_
  refine wp_new C dX2_addGrant_8 nX2_addGrant_25 (by decide) (by decide) ?_
  intro q hq
  have nq : ∀ i, i < 30 → ca i ≠ q := fun i hi z => hq (z ▸ (hC.1 i hi).1)
  refine wp_gen (fun T1 I1 J1 R1 => (OB T1 q 3 ∧ ExL T T1 I I1 J J1 R R1 ca [3, 27] ∧ CO T1 R1 ca) ∧ (∀ k, I1 (ca 3) k = I (ca 3) k) ∧ R1 (ca 3) = R (ca 3) ∧ ∀ i, R1 (ca 27) i = R (ca 27) i) ⟨⟨OB.new, (ExL.rf (by decide)).push hq, hC.push hq⟩, fun k => by rw [vu_n _ _ (nq 3 (by decide))], vu_n _ _ (nq 3 (by decide)), fun i => by rw [vu_n _ _ (nq 27 (by decide))]⟩ ?_
  rintro T1 I1 J1 R1 ⟨hp, he3⟩
  have n3q : ca 3 ≠ q := Ne.symm (hp.2.2.nd hp.1 (by unfold dyn; omega) (by omega))
  have n27q : ca 27 ≠ q := Ne.symm (hp.2.2.nd hp.1 (by unfold dyn; omega) (by omega))
  have n327 := hC.ne 3 27 (by decide) (by decide) (by decide)
  have o3 := hp.2.1
  have eI3 : ∀ k, I1 (ca 3) k = I (ca 3) k := fun k => he3.1 k
  have e13 : I1 (ca 3) 3 = a 0 22 := (eI3 3).trans kg.1
  have eR3 : R1 (ca 3) = R (ca 3) := he3.2.1
  have eR27 : ∀ i, R1 (ca 27) i = R (ca 27) i := he3.2.2
  refine wp_dup C dX2_addGrant_11 rfl ?_
  refine wp_iload_n C 1 dX2_addGrant_12 rfl rfl ?_
  refine wp_iload_n C 2 dX2_addGrant_13 rfl rfl ?_
  refine wp_aload_n C 3 dX2_addGrant_14 rfl rfl ?_
  refine wp_cIv C (As := [.int b, .int e, .ref r]) (rest := [.ref q, .int (a 0 22), .ref (ca 27)]) dX2_addGrant_15 kX2_addGrant_44 (c_Grant _ hp.1 (hr.1.gr hp.2.1.1) b e) rfl (Nat.le_of_ble_eq_true rfl) (by decide) (by decide) ?_
  refine wp_aast C (RX3, TX3, 5) dX2_addGrant_18 (hp.2.2.ar 27 (by decide) rfl) (by decide) rfl hp.1 (by decide) rfl (j := gN_ a) (nI_nat (by omega)) (by unfold gN_; omega) (by decide) ?_
  refine wp_aload_n C 0 dX2_addGrant_19 rfl rfl ?_
  refine wp_dup C dX2_addGrant_20 rfl ?_
  refine wp_getI C dX2_addGrant_21 fX2_addGrant_22 (hp.2.2.ob 3 (by decide) rfl) ?_
  refine wp_eqi (((u2_k _ _ _ _ (by decide) _).trans ((u2_k _ _ _ _ (by decide) _).trans ((u2_k _ _ _ _ (by decide) _).trans (u2_a _ _ _ _ (Ne.symm (hp.2.2.nd hp.1 (by unfold dyn; omega) (by omega))) _)))).trans e13) ?_
  refine wp_iconst C 1 dX2_addGrant_24 (by decide) ?_
  refine wp_iadd C dX2_addGrant_25 ?_
  refine wp_putI C dX2_addGrant_26 pX2_addGrant_22 (fun h => nomatch h) (hp.2.2.ob 3 (by decide) rfl) ?_
  refine wp_aload_n C 0 dX2_addGrant_29 rfl rfl ?_
  refine wp_getI C dX2_addGrant_30 fX2_addGrant_22 (hp.2.2.ob 3 (by decide) rfl) ?_
  refine wp_eqi (u2_s _ _ _ _) ?_
  refine wp_iconst C 1 dX2_addGrant_33 (by decide) ?_
  refine wp_isub C dX2_addGrant_34 ?_
  have hq2 : q ∉ T.1 := hq
  have rq : r ≠ q := fun z => hq (z ▸ hr.1.1)
  have hx2 : ExL T T1 I (u2 (u2 (u2 (u2 (u2 I1 q 3 0) q 0 b) q 1 e) q 4 (I1 r 4)) (ca 3) 3 ((a 0 22) + 1)) J J1 R (u2 (u2 R1 q 2 (some r)) (ca 27) (gN_ a) (some q)) ca [3, 27] := ((((((o3.nI hq 3 0).nI hq 0 b).nI hq 1 e).nI hq 4 _).pI (i := 3) (by decide) 3 _).nR hq 2 _).pR (i := 27) (by decide) _ _
  have qn3 : q ≠ ca 3 := Ne.symm n3q
  have qn27 : q ≠ ca 27 := Ne.symm n27q
  refine wp_iret C Z dX2_addGrant_35 (by decide) (by decide) ⟨by rw [Int32.add_sub_cancel], hx2, hK.addG hr hv he h60 hc hx2 hq hp.1 ?_ ?_ ?_ ?_ ?_ ?_ (u2_s _ _ _ _) ?_ ?_ (u2_s _ _ _ _) (fun i hi => ?_)⟩
  · rw [u2_rown _ _ _ _ qn3, u2_k _ _ _ _ (by decide), u2_k _ _ _ _ (by decide), u2_s]
  · rw [u2_rown _ _ _ _ qn3, u2_k _ _ _ _ (by decide), u2_s]
  · rw [u2_rown _ _ _ _ qn3, u2_k _ _ _ _ (by decide), u2_k _ _ _ _ (by decide), u2_k _ _ _ _ (by decide), u2_s]
  · rw [u2_rown _ _ _ _ qn3, u2_s, (o3.dy hC hr.1 (by unfold dyn; omega)).1]; exact hr.2 4 (by decide)
  · rw [u2_rown _ _ _ _ qn27, u2_s]
  · rw [u2_k _ _ _ _ (by decide), u2_rown _ _ _ _ n3q, u2_rown _ _ _ _ n3q, u2_rown _ _ _ _ n3q, u2_rown _ _ _ _ n3q]; exact eI3 0
  · rw [u2_k _ _ _ _ (by decide), u2_rown _ _ _ _ n3q, u2_rown _ _ _ _ n3q, u2_rown _ _ _ _ n3q, u2_rown _ _ _ _ n3q]; exact eI3 5
  · rw [u2_rown _ _ _ _ n327, u2_rown _ _ _ _ n3q]; exact eR3
  · rw [u2_k _ _ _ _ hi, u2_rown _ _ _ _ n27q]; exact eR27 i
set_option maxRecDepth 100000 in
set_option maxHeartbeats 4000000 in
theorem c_voidClashing (l : Launch) {T : gSh} {I : gI} {J : gJ} {R : gR} {ca : Nat → Nat} {a : gI} {n : gJ} (hK : KA T I J R ca a n) (b : Int32) : Con l yX6_voidClashing wsX6_voidClashing ({ frames := 5, cells := 0, slots := 0, locals := 110 }) [.ref (ca 4), .ref (ca 3), .int b] T I J R (PQv T I J R ca (vdF b (a 0 25) a (fN_ a)) n) := by
  refine Con.mk (cc := cX6_voidClashing) (maxL := 5) (ret := none) (by decide) rfl (Nat.le_of_ble_eq_true rfl) ?_
  intro E hE C Z hnm
  subst hE
  change WP E 5 0 0 T I J R 0 [(0, .ref (ca 4)), (1, .ref (ca 3)), (2, .int b)] []
  have kf := hK.2.2.2.2.2.2.2.2.1.ar
  have loop : ∀ i, i ≤ fN_ a → ∀ I2, FrC T T I I2 J J R R ca → KA T I2 J R ca (vdF b (a 0 25) a i) n → ∀ lv, lv_pick lv [0, 1, 2, 3] = [(0, .ref (ca 4)), (1, .ref (ca 3)), (2, .int b), (3, .int (nI i))] → WP E 5 0 0 T I2 J R 2 lv [] := by
    refine loopN (fN_ a) (fun i hi ih => ?_)
    intro I2 hF hK2 lv hlv
    refine wp_lv [0, 1, 2, 3] hlv ?_
    obtain ⟨A2, eA⟩ : ∃ A2, A2 = vdF b (a 0 25) a i := ⟨_, rfl⟩
    rw [← eA] at hK2
    have eA0 : A2 0 = a 0 := by rw [eA]; exact vdF_r _ _ _ _ (by decide)
    obtain ⟨c, c60, e41, e24, e40, fa, rb, k5, k6⟩ := hK2.2.2.2.2.2.2.2.2.1
    rw [eA0] at e24 e40
    have ec : fN_ a = c := by unfold fN_; rw [e24, nI_toInt (by omega)]; rfl
    refine wp_iload_n C 3 dX6_voidClashing_2 rfl rfl ?_
    refine wp_aload_n C 0 dX6_voidClashing_3 rfl rfl ?_
    refine wp_getI C dX6_voidClashing_4 fX6_voidClashing_15 (hK2.1.ob 4 (by decide) rfl) ?_
    refine wp_eqi e41 ?_
    refine wp_icmp_ge C 64 dX6_voidClashing_7 (by decide) (fun c7 => ?_) (fun c7 => ?_)
    · have c7 : ((c : Nat) : Int) ≤ ((i : Nat) : Int) := by have hcv := p_le c7; rw [nI_toInt (show c < 2 ^ 31 by omega), nI_toInt (show i < 2 ^ 31 by omega)] at hcv; exact hcv
      exact wp_vret C Z dX6_voidClashing_64 (by decide) (by decide) ⟨rfl, hF, by rw [show fN_ a = i by omega, ← eA]; exact hK2⟩
    · have c7 : ¬ ((c : Nat) : Int) ≤ ((i : Nat) : Int) := by have hcv := n_le c7; rw [nI_toInt (show c < 2 ^ 31 by omega), nI_toInt (show i < 2 ^ 31 by omega)] at hcv; exact hcv
      refine wp_aload_n C 0 dX6_voidClashing_10 rfl rfl ?_
      refine wp_getR C dX6_voidClashing_11 fX6_voidClashing_20 (hK2.1.ob 4 (by decide) rfl) (hK2.1.rf 4 2 29 (by decide)) ?_
      refine wp_iload_n C 3 dX6_voidClashing_14 rfl rfl ?_
      refine wp_aald C RX5 dX6_voidClashing_15 (hK2.1.ar 29 (by decide) rfl) (by decide) rfl (j := i) rfl (by omega) (by decide) (k5 i (by omega)).1 ?_
      refine wp_astore C [(4, .ref (fa i)), (0, .ref (ca 4)), (1, .ref (ca 3)), (2, .int b), (3, .int (nI i))] dX6_voidClashing_16 (by decide) rfl ?_
      refine wp_aload C 0 dX6_voidClashing_18 rfl ?_
      refine wp_getI C dX6_voidClashing_20 fX6_voidClashing_24 (k5 i (by omega)).2.1 ?_
      refine wp_eqi (k5 i (by omega)).2.2.2.2.2.1 ?_
      refine wp_iload_n C 3 dX6_voidClashing_23 rfl rfl ?_
      refine wp_icmp_ne C 58 dX6_voidClashing_24 (by decide) (fun c24 => ?_) (fun c24 => ?_)
      · have c24 : ¬ (A2 40 i).toInt = b.toInt := by have hcv := n_eq c24; exact hcv
        refine wp_iinc C 4 (nI (i + 1)) [(3, .int (nI (i + 1))), (4, .ref (fa i)), (0, .ref (ca 4)), (1, .ref (ca 3)), (2, .int b)] dX6_voidClashing_58 rfl (nI_1 i) (by decide) rfl ?_
        refine wp_goto C 2 dX6_voidClashing_61 (by decide) ?_
        refine wp_lv [2, 3, 4, 0] rfl ?_
        have hs : vdS b (a 0 25) A2 i = A2 := by simp only [vdS]; (repeat' split) <;> first | rfl | (exfalso; omega)
        refine ih (i + 1) (by omega) (by omega) _ hF (by show KA T _ J R ca (vdS b (a 0 25) (vdF b (a 0 25) a i) i) n; rw [← eA, hs]; exact hK2) _ rfl
      · have c24 : (A2 40 i).toInt = b.toInt := by have hcv := p_eq c24; exact hcv
        refine wp_aload C 0 dX6_voidClashing_27 rfl ?_
        refine wp_aload_n C 1 dX6_voidClashing_29 rfl rfl ?_
        refine wp_getI C dX6_voidClashing_30 fX6_voidClashing_9 (hK2.1.ob 4 (by decide) rfl) ?_
        refine wp_eqi e40 ?_
        refine wp_cVi C (As := [.int (a 0 25)]) (rest := []) dX6_voidClashing_33 kX6_voidClashing_27 (k5 i (by omega)).2.1 (c_markAt _ (k5 i (by omega)).2.1 (a := A2) (i := i) (k5 i (by omega)).2.2.2.2.2.2.2.2.2.2 (k5 i (by omega)).2.2.2.2.2.2.2.2.2.1 (a 0 25)) rfl (Nat.le_of_ble_eq_true rfl) (by decide) (by decide) ?_
        refine wp_if_ne C 58 dX6_voidClashing_36 (by decide) (fun c36 => ?_) (fun c36 => ?_)
        · have c36 : ¬ (mkN A2 (a 0 25) i).toInt = 0 := by have hcv := n_eq c36; exact hcv
          refine wp_iinc C 4 (nI (i + 1)) [(3, .int (nI (i + 1))), (4, .ref (fa i)), (0, .ref (ca 4)), (1, .ref (ca 3)), (2, .int b)] dX6_voidClashing_58 rfl (nI_1 i) (by decide) rfl ?_
          refine wp_goto C 2 dX6_voidClashing_61 (by decide) ?_
          refine wp_lv [2, 3, 4, 0] rfl ?_
          have hs : vdS b (a 0 25) A2 i = A2 := by simp only [vdS]; (repeat' split) <;> first | rfl | (exfalso; omega)
          refine ih (i + 1) (by omega) (by omega) _ hF (by show KA T _ J R ca (vdS b (a 0 25) (vdF b (a 0 25) a i) i) n; rw [← eA, hs]; exact hK2) _ rfl
        · have c36 : (mkN A2 (a 0 25) i).toInt = 0 := by have hcv := p_eq c36; exact hcv
          refine wp_aload_n C 2 dX6_voidClashing_39 rfl rfl ?_
          refine wp_iload_n C 3 dX6_voidClashing_40 rfl rfl ?_
          refine wp_aload C 0 dX6_voidClashing_41 rfl ?_
          refine wp_getR C dX6_voidClashing_43 fX6_voidClashing_31 (k5 i (by omega)).2.1 (k5 i (by omega)).2.2.1 ?_
          have hcl := clN_le A2 b (ov A2 i)
          refine wp_cVi C (As := [.int b, .ref (rb i)]) (rest := []) dX6_voidClashing_46 kX6_voidClashing_35 (hK2.1.ob 3 (by decide) rfl) (c_wouldClash _ hK2 (k5 i (by omega)).2.2.2.1 (k5 i (by omega)).2.2.2.2.1.b b) rfl (Nat.le_of_ble_eq_true rfl) (by decide) (by decide) ?_
          refine wp_if_eq C 58 dX6_voidClashing_49 (by decide) (fun c49 => ?_) (fun c49 => ?_)
          · have c49 : ((clN A2 b (ov A2 i) : Nat) : Int) = 0 := by have hcv := p_eq c49; rw [nI_toInt (show clN A2 b (ov A2 i) < 2 ^ 31 by omega)] at hcv; exact hcv
            refine wp_iinc C 4 (nI (i + 1)) [(3, .int (nI (i + 1))), (4, .ref (fa i)), (0, .ref (ca 4)), (1, .ref (ca 3)), (2, .int b)] dX6_voidClashing_58 rfl (nI_1 i) (by decide) rfl ?_
            refine wp_goto C 2 dX6_voidClashing_61 (by decide) ?_
            refine wp_lv [2, 3, 4, 0] rfl ?_
            have hs : vdS b (a 0 25) A2 i = A2 := by simp only [vdS]; (repeat' split) <;> first | rfl | (exfalso; omega)
            refine ih (i + 1) (by omega) (by omega) _ hF (by show KA T _ J R ca (vdS b (a 0 25) (vdF b (a 0 25) a i) i) n; rw [← eA, hs]; exact hK2) _ rfl
          · have c49 : ¬ ((clN A2 b (ov A2 i) : Nat) : Int) = 0 := by have hcv := n_eq c49; rw [nI_toInt (show clN A2 b (ov A2 i) < 2 ^ 31 by omega)] at hcv; exact hcv
            refine wp_aload C 0 dX6_voidClashing_52 rfl ?_
            refine wp_iconst C 2 dX6_voidClashing_54 (by decide) ?_
            refine wp_putI C dX6_voidClashing_55 pX6_voidClashing_41 (fun h => nomatch h) (k5 i (by omega)).2.1 ?_
            refine wp_iinc C 4 (nI (i + 1)) [(3, .int (nI (i + 1))), (4, .ref (fa i)), (0, .ref (ca 4)), (1, .ref (ca 3)), (2, .int b)] dX6_voidClashing_58 rfl (nI_1 i) (by decide) rfl ?_
            refine wp_goto C 2 dX6_voidClashing_61 (by decide) ?_
            refine wp_lv [2, 3, 4, 0] rfl ?_
            have hs : vdS b (a 0 25) A2 i = u2 A2 48 i 2 := by simp only [vdS]; (repeat' split) <;> first | rfl | (exfalso; omega)
            refine ih (i + 1) (by omega) (by omega) _ (hF.dI (k5 i (by omega)).2.1 (by unfold dyn; omega) 4 2) (by show KA T _ J R ca (vdS b (a 0 25) (vdF b (a 0 25) a i) i) n; rw [← eA, hs]; exact hK2.mark 2 (by rw [eA0, e24, nI_toInt (by omega)]; omega) (k5 i (by omega)).1) _ rfl
  refine wp_iconst C 0 dX6_voidClashing_0 (by decide) ?_
  refine wp_istore_n C [(3, .int 0), (0, .ref (ca 4)), (1, .ref (ca 3)), (2, .int b)] dX6_voidClashing_1 rfl (by decide) rfl ?_
  refine wp_lv [1, 2, 3, 0] rfl ?_
  exact loop 0 (by omega) I (FrC.rf T I J R ca) hK _ rfl
set_option maxRecDepth 100000 in
set_option maxHeartbeats 4000000 in
theorem c_take (l : Launch) {T : gSh} {I : gI} {J : gJ} {R : gR} {ca : Nat → Nat} {a : gI} {n : gJ} (hK : KA T I J R ca a n) (o mi : Int32) : Con l yX11_take wsX11_take ({ frames := 7, cells := 1, slots := 5, locals := 158 }) [.ref (ca 0), .int o, .int mi] T I J R (PQ T I J R ca (.int (if stTa a o mi = 0 then a 0 22 else -1)) (aTa a o mi) n) := by
  refine Con.mk (cc := cX11_take) (maxL := 5) (ret := (some .int)) (by decide) rfl (Nat.le_of_ble_eq_true rfl) ?_
  intro E hE C Z hnm
  subst hE
  change WP E 5 0 0 T I J R 0 [(0, .ref (ca 0)), (1, .int o), (2, .int mi)] []
  refine wp_aload_n C 0 dX11_take_0 rfl rfl ?_
  refine wp_aload_n C 0 dX11_take_1 rfl rfl ?_
  refine wp_iload_n C 1 dX11_take_2 rfl rfl ?_
  refine wp_iload_n C 2 dX11_take_3 rfl rfl ?_
  refine wp_cVi C (As := [.int o, .int mi]) (rest := [.ref (ca 0)]) dX11_take_4 kX11_take_321 (hK.1.ob 0 (by decide) rfl) (c_statusOfTake _ hK o mi) rfl (Nat.le_of_ble_eq_true rfl) (by decide) (by decide) ?_
  refine wp_putI C dX11_take_7 pX11_take_41 (fun h => nomatch h) (hK.1.ob 0 (by decide) rfl) ?_
  refine wp_aload_n C 0 dX11_take_10 rfl rfl ?_
  refine wp_getI C dX11_take_11 fX11_take_41 (hK.1.ob 0 (by decide) rfl) ?_
  refine wp_eqi (u2_s _ _ _ _) ?_
  refine wp_if_eq C 19 dX11_take_14 (by decide) (fun c14 => ?_) (fun c14 => ?_)
  · have c14 : stTa a o mi = 0 := by have hcv := p_eq c14; rw [nI_toInt (show stTa a o mi < 2 ^ 31 by have := stTa_le a o mi; omega)] at hcv; have hz0 : ((0 : Int32)).toInt = 0 := rfl; omega
    have hsu := stTa_ok c14
    have hsa := stAs_ok hsu.1
    obtain ⟨I1, eI1⟩ : ∃ I1, I1 = u2 I (ca 0) 5 0 := ⟨_, rfl⟩
    refine wp_eI (show _ = I1 by rw [eI1, c14]; rfl) ?_
    obtain ⟨A0, eA0⟩ : ∃ A0, A0 = u2 a 0 0 0 := ⟨_, rfl⟩
    have hK1 : KA T I1 J R ca A0 n := by rw [eI1, eA0]; exact hK.st 0
    have hF1 : FrC T T I I1 J J R R ca := by rw [eI1]; exact (FrC.rf T I J R ca).pI (by decide) 5 _
    have a22 : A0 0 22 = a 0 22 := by rw [eA0]; rfl
    have a24 : A0 0 24 = a 0 24 := by rw [eA0]; rfl
    have hcl : clN A0 (A0 40 o.toInt.toNat) (ov A0 o.toInt.toNat) = 0 := by rw [eA0]; exact mbN_1 hsu.2.2
    obtain ⟨c, c60, e41, e24, e40, fa, rb, k5, k6⟩ := hK1.2.2.2.2.2.2.2.2.1
    have q24 : (A0 0 24).toInt = c := by rw [e24, nI_toInt (by omega)]
    rw [← a24] at hsa
    obtain ⟨y, y10, ey⟩ := (k5 o.toInt.toNat (by omega)).2.2.2.2.2.2.2.2.1
    refine wp_aload_n C 0 dX11_take_19 rfl rfl ?_
    refine wp_getR C dX11_take_20 fX11_take_33 (hK1.1.ob 0 (by decide) rfl) (hK1.1.rf 0 3 4 (by decide)) ?_
    refine wp_getR C dX11_take_23 fX11_take_324 (hK1.1.ob 4 (by decide) rfl) (hK1.1.rf 4 2 29 (by decide)) ?_
    refine wp_iload_n C 1 dX11_take_26 rfl rfl ?_
    refine wp_aald C RX5 dX11_take_27 (hK1.1.ar 29 (by decide) rfl) (by decide) rfl (j := o.toInt.toNat) (nI_nat (by omega)) (by omega) (by decide) (k5 o.toInt.toNat (by omega)).1 ?_
    refine wp_astore_n C [(3, .ref (fa o.toInt.toNat)), (0, .ref (ca 0)), (1, .int o), (2, .int mi)] dX11_take_28 rfl (by decide) rfl ?_
    refine wp_aload_n C 1 dX11_take_29 rfl rfl ?_
    refine wp_getR C dX11_take_30 fX11_take_26 (hK1.1.ob 0 (by decide) rfl) (hK1.1.rf 0 2 3 (by decide)) ?_
    refine wp_aload_n C 0 dX11_take_33 rfl rfl ?_
    refine wp_getI C dX11_take_34 fX11_take_328 (k5 o.toInt.toNat (by omega)).2.1 ?_
    refine wp_eqi (k5 o.toInt.toNat (by omega)).2.2.2.2.2.1 ?_
    refine wp_aload_n C 0 dX11_take_37 rfl rfl ?_
    refine wp_getI C dX11_take_38 fX11_take_331 (k5 o.toInt.toNat (by omega)).2.1 ?_
    refine wp_eqi (k5 o.toInt.toNat (by omega)).2.2.2.2.2.2.1 ?_
    refine wp_aload_n C 0 dX11_take_41 rfl rfl ?_
    refine wp_getR C dX11_take_42 fX11_take_334 (k5 o.toInt.toNat (by omega)).2.1 (k5 o.toInt.toNat (by omega)).2.2.1 ?_
    refine wp_callV C (As := [.int (A0 40 o.toInt.toNat), .int (A0 41 o.toInt.toNat), .ref (rb o.toInt.toNat)]) (rest := []) dX11_take_45 kX11_take_189 (hK1.1.ob 3 (by decide) rfl) (c_addGrantX _ hK1 (k5 o.toInt.toNat (by omega)).2.2.2.1 (k5 o.toInt.toNat (by omega)).2.2.2.2.1 (by rw [ey, nI_toInt (by omega)]; omega) (by rw [a22]; omega) hcl) rfl (Nat.le_of_ble_eq_true rfl) (by decide) (by decide) ?_
    rintro _ T2 I2 J2 R2 ⟨rfl, hX2, hK2⟩
    change WP E 5 _ _ T2 I2 J2 R2 48 [(3, .ref (fa o.toInt.toNat)), (0, .ref (ca 0)), (1, .int o), (2, .int mi)] [.int (A0 0 22)]
    have ho2 : OB T2 (fa o.toInt.toNat) 5 := (k5 o.toInt.toNat (by omega)).2.1.gr hX2.1
    have hd2 := hX2.dy hK1.1 (k5 o.toInt.toNat (by omega)).2.1 (by unfold dyn; omega)
    have hm2 := hK2.mark (i := o.toInt.toNat) (y := fa o.toInt.toNat) 1 (by rw [show (aGr A0 (A0 40 o.toInt.toNat) (A0 41 o.toInt.toNat) (ov A0 o.toInt.toNat)) 0 24 = A0 0 24 from rfl]; omega) (by rw [(hX2.at hK1.1 (i := 29) (by omega) (by decide)).2.2]; exact (k5 o.toInt.toNat (by omega)).1)
    have hn2 := hm2.minute mi
    have n4 := hm2.1.nd ho2 (i := 4) (by unfold dyn; omega) (by omega)
    have hb2 : u2 (u2 I2 (fa o.toInt.toNat) 4 1) (ca 4) 0 mi (fa o.toInt.toNat) 0 = A0 40 o.toInt.toNat := by rw [u2_rown _ _ _ _ n4, u2_k _ _ _ _ (by decide), hd2.1]; exact (k5 o.toInt.toNat (by omega)).2.2.2.2.2.1
    refine wp_istore C [(4, .int (A0 0 22)), (3, .ref (fa o.toInt.toNat)), (0, .ref (ca 0)), (1, .int o), (2, .int mi)] dX11_take_48 (by decide) rfl ?_
    refine wp_aload_n C 1 dX11_take_50 rfl rfl ?_
    refine wp_iconst C 1 dX11_take_51 (by decide) ?_
    refine wp_putI C dX11_take_52 pX11_take_338 (fun h => nomatch h) ho2 ?_
    refine wp_aload_n C 2 dX11_take_55 rfl rfl ?_
    refine wp_getR C dX11_take_56 fX11_take_33 (hK2.1.ob 0 (by decide) rfl) (hK2.1.rf 0 3 4 (by decide)) ?_
    refine wp_iload_n C 4 dX11_take_59 rfl rfl ?_
    refine wp_putI C dX11_take_60 pX11_take_308 (fun h => nomatch h) (hK2.1.ob 4 (by decide) rfl) ?_
    refine wp_aload_n C 2 dX11_take_63 rfl rfl ?_
    refine wp_getR C dX11_take_64 fX11_take_33 (hK2.1.ob 0 (by decide) rfl) (hK2.1.rf 0 3 4 (by decide)) ?_
    refine wp_aload_n C 2 dX11_take_67 rfl rfl ?_
    refine wp_getR C dX11_take_68 fX11_take_26 (hK2.1.ob 0 (by decide) rfl) (hK2.1.rf 0 2 3 (by decide)) ?_
    refine wp_aload_n C 1 dX11_take_71 rfl rfl ?_
    refine wp_getI C dX11_take_72 fX11_take_328 ho2 ?_
    refine wp_eqi hb2 ?_
    refine wp_callV C (As := [.ref (ca 3), .int (A0 40 o.toInt.toNat)]) (rest := []) dX11_take_75 kX11_take_341 (hn2.1.ob 4 (by decide) rfl) (c_voidClashing _ hn2 (A0 40 o.toInt.toNat)) rfl (Nat.le_of_ble_eq_true rfl) (by decide) (by decide) ?_
    rintro _ T3 I3 J3 R3 ⟨rfl, hF3, hK3⟩
    change WP E 5 _ _ T3 I3 J3 R3 78 [(4, .int (A0 0 22)), (3, .ref (fa o.toInt.toNat)), (0, .ref (ca 0)), (1, .int o), (2, .int mi)] []
    refine wp_iload C 0 dX11_take_78 rfl ?_
    rw [u2_s, vdF_m] at hK3
    have hk : KA T3 I3 J3 R3 ca (aTk a o mi) n := by
      subst eA0
      exact hK3
    exact wp_iret C Z dX11_take_80 (by decide) (by decide) ⟨by rw [if_pos c14, a22], (((hF1.tr hX2.frc).dI ho2 (by unfold dyn; omega) 4 1).pI (i := 4) (by decide) 0 mi).tr hF3, by unfold aTa; rw [if_pos c14]; exact hk⟩
  · have c14 : ¬ stTa a o mi = 0 := fun z => c14 (by rw [z]; rfl)
    refine wp_iconst C (-1) dX11_take_17 (by decide) ?_
    exact wp_iret C Z dX11_take_18 (by decide) (by decide) ⟨by rw [if_neg c14], (FrC.rf T I J R ca).pI (by decide) 5 _, by unfold aTa; rw [if_neg c14]; exact hK.st _⟩
