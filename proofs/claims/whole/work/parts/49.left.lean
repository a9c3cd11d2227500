/-! ===== left ===== -/
def stLe (a : gI) (b : Int32) (v : Nat → Int32) : Nat := if 0 ≤ b.toInt ∧ b.toInt < (a 0 21).toInt then (if can v = 1 then 0 else 2) else 1
/-- the fraction told -/
def nFr (n : gJ) (F A : Nat) : gJ := u2 (u2 n 0 2 ((nI (F / Nat.gcd F A)).toInt64)) 0 3 ((nI (A / Nat.gcd F A)).toInt64)
def nLe (a : gI) (n : gJ) (b d : Int32) (v : Nat → Int32) : gJ := if stLe a b v = 0 then nFr n (pFree a b d v) (pAll v) else n
theorem gcd_st (x y : Nat) : Nat.gcd y (x % y) = Nat.gcd x y := by rw [Nat.gcd_comm y, ← Nat.gcd_rec, Nat.gcd_comm]
theorem pAll_pos {v : Nat → Int32} (hv : vR v) : 0 < pAll v ∧ pAll v ≤ 128 := by
  rw [pAll_eq hv.b]
  have h1 := hv.1
  have h2 := hv.2.1
  have h3 := hv.2.2.1
  have d1 := pcI_0 (x := v 0) (by omega)
  have d2 := pcI_0 (x := v 1) (by omega)
  have d3 := pcI_0 (x := v 2) (by omega)
  have e2 := d2.2.2 (by omega)
  have e3 := d3.2.2 (by omega)
  have z : ∀ x : Int32, 1 ≤ x.toInt → x ≠ 0 := fun x hx q => by rw [q] at hx; exact absurd hx (by decide)
  refine ⟨Nat.mul_pos (Nat.mul_pos (Nat.pos_of_ne_zero (fun q => z _ h1.1 (d1.1.mp q))) (Nat.pos_of_ne_zero (fun q => z _ h2.1 (d2.1.mp q)))) (Nat.pos_of_ne_zero (fun q => z _ h3.1 (d3.1.mp q))), ?_⟩
  exact Nat.le_trans (Nat.mul_le_mul (Nat.mul_le_mul d1.2.1 e2) e3) (by decide)
theorem KA.frac {T : gSh} {I : gI} {J : gJ} {R : gR} {ca : Nat → Nat} {a : gI} {n : gJ} (k : KA T I J R ca a n) (x y : Int64) : KA T I (u2 (u2 J (ca 0) 6 x) (ca 0) 7 y) R ca a (u2 (u2 n 0 2 x) 0 3 y) := by
  have hx : ExL T T I I J (u2 (u2 J (ca 0) 6 x) (ca 0) 7 y) R R ca [0] := ((ExL.rf (by decide)).pJ (i := 0) (by decide) 6 x).pJ (i := 0) (by decide) 7 y
  exact k.on0 hx k.2.1 ⟨by rw [u2_k _ _ _ _ (by decide), u2_s, u2_k _ _ _ _ (by decide), u2_s], by rw [u2_s, u2_s]⟩ (fun _ _ => rfl) k.2.2.2.2.2.2.2.2.2 (fun _ _ _ => rfl) (fun _ _ => rfl) (by rw [u2_rown _ _ _ _ (by decide), u2_rown _ _ _ _ (by decide)])
set_option maxRecDepth 100000 in
set_option maxHeartbeats 4000000 in
theorem c_commonDivisor (l : Launch) {T : gSh} {I : gI} {J : gJ} {R : gR} {F A : Nat} (hF : F ≤ 1000) (hA : A ≤ 1000) : Con l yX11_commonDivisor wsX11_commonDivisor ({ frames := 0, cells := 0, slots := 0, locals := 0 }) [.int (nI F), .int (nI A)] T I J R (gP (some (.int (nI (Nat.gcd A F)))) T I J R) := by
  refine Con.mk (cc := cX11_commonDivisor) (maxL := 6) (ret := (some .int)) (by decide) rfl (Nat.le_of_ble_eq_true rfl) ?_
  intro E hE C Z hnm
  subst hE
  change WP E 6 0 0 T I J R 0 [(0, .int (nI F)), (1, .int (nI A))] []
  have loop : ∀ y, ∀ x i : Nat, x ≤ 1000 → y ≤ 1000 → i + y ≤ 2000 → Nat.gcd x y = Nat.gcd A F → ∀ lv, lv_pick lv [0, 1, 2] = [(2, .int (nI x)), (3, .int (nI y)), (4, .int (nI i))] → WP E 6 0 0 T I J R 7 lv [] := by
    intro y
    induction y using Nat.strongRecOn with
    | _ y ih =>
      intro x i hx hy hi hg lv hlv
      refine wp_lv [0, 1, 2] hlv ?_
      refine wp_iload C 2 dX11_commonDivisor_7 rfl ?_
      refine wp_ldc C 1000000 dX11_commonDivisor_9 (by decide +kernel) ?_
      refine wp_icmp_ge C 34 dX11_commonDivisor_11 (by decide) (fun c11 => ?_) (fun c11 => ?_)
      · have c11 : 1000000 ≤ ((i : Nat) : Int) := by have hcv := p_le c11; rw [nI_toInt (show i < 2 ^ 31 by omega)] at hcv; exact hcv
        refine wp_iload_n C 0 dX11_commonDivisor_34 rfl rfl ?_
        have y0 : y = 0 := by omega
        subst y0
        rw [Nat.gcd_zero_right] at hg
        exact wp_iret C Z dX11_commonDivisor_35 (by decide) (by decide) (by rw [← hg]; exact gP_rf)
      · have c11 : ¬ 1000000 ≤ ((i : Nat) : Int) := by have hcv := n_le c11; rw [nI_toInt (show i < 2 ^ 31 by omega)] at hcv; exact hcv
        refine wp_iload_n C 1 dX11_commonDivisor_14 rfl rfl ?_
        refine wp_if_le C 34 dX11_commonDivisor_15 (by decide) (fun c15 => ?_) (fun c15 => ?_)
        · have c15 : ((y : Nat) : Int) ≤ 0 := by have hcv := p_le c15; rw [nI_toInt (show y < 2 ^ 31 by omega)] at hcv; exact hcv
          refine wp_iload_n C 0 dX11_commonDivisor_34 rfl rfl ?_
          have y0 : y = 0 := by omega
          subst y0
          rw [Nat.gcd_zero_right] at hg
          exact wp_iret C Z dX11_commonDivisor_35 (by decide) (by decide) (by rw [← hg]; exact gP_rf)
        · have c15 : ¬ ((y : Nat) : Int) ≤ 0 := by have hcv := n_le c15; rw [nI_toInt (show y < 2 ^ 31 by omega)] at hcv; exact hcv
          have hne20 : ¬ nI y = 0 := fun z => by have := p_eq z; rw [nI_toInt (by omega)] at this; have hz0 : ((0 : Int32)).toInt = 0 := rfl; omega
          have hmod := Nat.mod_lt x (show 0 < y by omega)
          refine wp_iload_n C 0 dX11_commonDivisor_18 rfl rfl ?_
          refine wp_iload_n C 1 dX11_commonDivisor_19 rfl rfl ?_
          refine wp_irem C dX11_commonDivisor_20 hne20 ?_
          refine wp_eqi (pk_rem (by omega) (by omega) (by omega) : _ = nI (x % y)) ?_
          refine wp_istore C [(5, .int (nI (x % y))), (2, .int (nI x)), (3, .int (nI y)), (4, .int (nI i))] dX11_commonDivisor_21 (by decide) rfl ?_
          refine wp_iload_n C 2 dX11_commonDivisor_23 rfl rfl ?_
          refine wp_istore_n C [(2, .int (nI y)), (5, .int (nI (x % y))), (3, .int (nI y)), (4, .int (nI i))] dX11_commonDivisor_24 rfl (by decide) rfl ?_
          refine wp_iload C 1 dX11_commonDivisor_25 rfl ?_
          refine wp_istore_n C [(3, .int (nI (x % y))), (2, .int (nI y)), (5, .int (nI (x % y))), (4, .int (nI i))] dX11_commonDivisor_27 rfl (by decide) rfl ?_
          refine wp_iinc C 3 (nI (i + 1)) [(4, .int (nI (i + 1))), (3, .int (nI (x % y))), (2, .int (nI y)), (5, .int (nI (x % y)))] dX11_commonDivisor_28 rfl (nI_1 i) (by decide) rfl ?_
          refine wp_goto C 7 dX11_commonDivisor_31 (by decide) ?_
          refine wp_lv [2, 1, 0] rfl ?_
          exact ih (x % y) hmod y (i + 1) (by omega) (by omega) (by omega) ((gcd_st x y).trans hg) _ rfl
  refine wp_iload_n C 1 dX11_commonDivisor_0 rfl rfl ?_
  refine wp_istore_n C [(2, .int (nI A)), (0, .int (nI F)), (1, .int (nI A))] dX11_commonDivisor_1 rfl (by decide) rfl ?_
  refine wp_iload_n C 1 dX11_commonDivisor_2 rfl rfl ?_
  refine wp_istore_n C [(3, .int (nI F)), (2, .int (nI A)), (0, .int (nI F)), (1, .int (nI A))] dX11_commonDivisor_3 rfl (by decide) rfl ?_
  refine wp_iconst C 0 dX11_commonDivisor_4 (by decide) ?_
  refine wp_istore C [(4, .int 0), (3, .int (nI F)), (2, .int (nI A)), (0, .int (nI F)), (1, .int (nI A))] dX11_commonDivisor_5 (by decide) rfl ?_
  refine wp_lv [2, 1, 0] rfl ?_
  exact loop F A 0 (by omega) (by omega) (by omega) rfl _ rfl
set_option maxRecDepth 100000 in
set_option maxHeartbeats 4000000 in
theorem m_common (l : Launch) {T : gSh} {I : gI} {J : gJ} {R : gR} {F A : Nat} (hF : F ≤ 1000) (hA : A ≤ 1000) : Con l yX12_common wsX12_common ({ frames := 0, cells := 0, slots := 0, locals := 0 }) [.int (nI F), .int (nI A)] T I J R (gP (some (.int (nI (Nat.gcd F A)))) T I J R) := by
  refine Con.mk (cc := cX12_common) (maxL := 5) (ret := (some .int)) (by decide) rfl (Nat.le_of_ble_eq_true rfl) ?_
  intro E hE C Z hnm
  subst hE
  change WP E 5 0 0 T I J R 0 [(0, .int (nI F)), (1, .int (nI A))] []
  have loop : ∀ y, ∀ x : Nat, x ≤ 1000 → y ≤ 1000 → Nat.gcd x y = Nat.gcd F A → ∀ lv, lv_pick lv [0, 1] = [(2, .int (nI x)), (3, .int (nI y))] → WP E 5 0 0 T I J R 4 lv [] := by
    intro y
    induction y using Nat.strongRecOn with
    | _ y ih =>
      intro x hx hy hg lv hlv
      refine wp_lv [0, 1] hlv ?_
      refine wp_iload_n C 1 dX12_common_4 rfl rfl ?_
      refine wp_if_eq C 21 dX12_common_5 (by decide) (fun c5 => ?_) (fun c5 => ?_)
      · have c5 : ((y : Nat) : Int) = 0 := by have hcv := p_eq c5; rw [nI_toInt (show y < 2 ^ 31 by omega)] at hcv; exact hcv
        refine wp_iload_n C 0 dX12_common_21 rfl rfl ?_
        have y0 : y = 0 := by omega
        subst y0
        rw [Nat.gcd_zero_right] at hg
        exact wp_iret C Z dX12_common_22 (by decide) (by decide) (by rw [← hg]; exact gP_rf)
      · have c5 : ¬ ((y : Nat) : Int) = 0 := by have hcv := n_eq c5; rw [nI_toInt (show y < 2 ^ 31 by omega)] at hcv; exact hcv
        have hne10 : ¬ nI y = 0 := fun z => by have := p_eq z; rw [nI_toInt (by omega)] at this; have hz0 : ((0 : Int32)).toInt = 0 := rfl; omega
        have hmod := Nat.mod_lt x (show 0 < y by omega)
        refine wp_iload_n C 0 dX12_common_8 rfl rfl ?_
        refine wp_iload_n C 1 dX12_common_9 rfl rfl ?_
        refine wp_irem C dX12_common_10 hne10 ?_
        refine wp_eqi (pk_rem (by omega) (by omega) (by omega) : _ = nI (x % y)) ?_
        refine wp_istore C [(4, .int (nI (x % y))), (2, .int (nI x)), (3, .int (nI y))] dX12_common_11 (by decide) rfl ?_
        refine wp_iload_n C 2 dX12_common_13 rfl rfl ?_
        refine wp_istore_n C [(2, .int (nI y)), (4, .int (nI (x % y))), (3, .int (nI y))] dX12_common_14 rfl (by decide) rfl ?_
        refine wp_iload C 1 dX12_common_15 rfl ?_
        refine wp_istore_n C [(3, .int (nI (x % y))), (2, .int (nI y)), (4, .int (nI (x % y)))] dX12_common_17 rfl (by decide) rfl ?_
        refine wp_goto C 4 dX12_common_18 (by decide) ?_
        refine wp_lv [1, 0] rfl ?_
        exact ih (x % y) hmod y (by omega) (by omega) ((gcd_st x y).trans hg) _ rfl
  refine wp_iload_n C 0 dX12_common_0 rfl rfl ?_
  refine wp_istore_n C [(2, .int (nI F)), (0, .int (nI F)), (1, .int (nI A))] dX12_common_1 rfl (by decide) rfl ?_
  refine wp_iload_n C 2 dX12_common_2 rfl rfl ?_
  refine wp_istore_n C [(3, .int (nI A)), (2, .int (nI F)), (0, .int (nI F)), (1, .int (nI A))] dX12_common_3 rfl (by decide) rfl ?_
  refine wp_lv [1, 0] rfl ?_
  exact loop A F (by omega) (by omega) rfl _ rfl
set_option maxRecDepth 100000 in
set_option maxHeartbeats 4000000 in
theorem c_tellFraction (l : Launch) {T : gSh} {I : gI} {J : gJ} {R : gR} {ca : Nat → Nat} (hC : CO T R ca) {F A : Nat} (hF : F ≤ 1000) (hA : A ≤ 1000) (hA0 : 0 < A) : Con l yX11_tellFraction wsX11_tellFraction ({ frames := 1, cells := 0, slots := 0, locals := 25 }) [.ref (ca 0), .int (nI F), .int (nI A)] T I J R (gP none T I (u2 (u2 J (ca 0) 6 ((nI (F / Nat.gcd F A)).toInt64)) (ca 0) 7 ((nI (A / Nat.gcd F A)).toInt64)) R) := by
  refine Con.mk (cc := cX11_tellFraction) (maxL := 4) (ret := none) (by decide) rfl (Nat.le_of_ble_eq_true rfl) ?_
  intro E hE C Z hnm
  subst hE
  change WP E 4 0 0 T I J R 0 [(0, .ref (ca 0)), (1, .int (nI F)), (2, .int (nI A))] []
  have hgp : 0 < Nat.gcd F A := Nat.gcd_pos_of_pos_right F hA0
  have hgl : Nat.gcd F A ≤ A := Nat.gcd_le_right F hA0
  refine wp_iload_n C 1 dX11_tellFraction_0 rfl rfl ?_
  refine wp_iload_n C 2 dX11_tellFraction_1 rfl rfl ?_
  refine wp_cSi C (As := [.int (nI F), .int (nI A)]) (rest := []) dX11_tellFraction_2 kX11_tellFraction_238 (c_commonDivisor _ hF hA) rfl (Nat.le_of_ble_eq_true rfl) (by decide) (by decide) ?_
  refine wp_eqi (congrArg nI (Nat.gcd_comm A F)) ?_
  refine wp_istore_n C [(3, .int (nI (Nat.gcd F A))), (0, .ref (ca 0)), (1, .int (nI F)), (2, .int (nI A))] dX11_tellFraction_5 rfl (by decide) rfl ?_
  refine wp_iload_n C 0 dX11_tellFraction_6 rfl rfl ?_
  refine wp_iconst C 1 dX11_tellFraction_7 (by decide) ?_
  refine wp_icmp_ge C 12 dX11_tellFraction_8 (by decide) (fun c8 => ?_) (fun c8 => ?_)
  · have c8 : 1 ≤ ((Nat.gcd F A : Nat) : Int) := by have hcv := p_le c8; rw [nI_toInt (show Nat.gcd F A < 2 ^ 31 by omega)] at hcv; exact hcv
    have hne15 : ¬ nI (Nat.gcd F A) = 0 := fun z => by have := p_eq z; rw [nI_toInt (by omega)] at this; have hz0 : ((0 : Int32)).toInt = 0 := rfl; omega
    have hne23 := hne15
    refine wp_aload_n C 1 dX11_tellFraction_12 rfl rfl ?_
    refine wp_iload_n C 2 dX11_tellFraction_13 rfl rfl ?_
    refine wp_iload_n C 0 dX11_tellFraction_14 rfl rfl ?_
    refine wp_idiv C dX11_tellFraction_15 hne15 ?_
    refine wp_eqi (pk_div (by omega) (by omega) (by omega) : _ = nI (F / (Nat.gcd F A))) ?_
    refine wp_i2l C dX11_tellFraction_16 ?_
    refine wp_putJ C dX11_tellFraction_17 pX11_tellFraction_45 (fun h => nomatch h) (hC.ob 0 (by decide) rfl) ?_
    refine wp_aload_n C 1 dX11_tellFraction_20 rfl rfl ?_
    refine wp_iload_n C 3 dX11_tellFraction_21 rfl rfl ?_
    refine wp_iload_n C 0 dX11_tellFraction_22 rfl rfl ?_
    refine wp_idiv C dX11_tellFraction_23 hne23 ?_
    refine wp_eqi (pk_div (by omega) (by omega) (by omega) : _ = nI (A / (Nat.gcd F A))) ?_
    refine wp_i2l C dX11_tellFraction_24 ?_
    refine wp_putJ C dX11_tellFraction_25 pX11_tellFraction_49 (fun h => nomatch h) (hC.ob 0 (by decide) rfl) ?_
    exact wp_vret C Z dX11_tellFraction_28 (by decide) (by decide) gP_rf
  · have c8 : ¬ 1 ≤ ((Nat.gcd F A : Nat) : Int) := by have hcv := n_le c8; rw [nI_toInt (show Nat.gcd F A < 2 ^ 31 by omega)] at hcv; exact hcv
    omega
set_option maxRecDepth 100000 in
set_option maxHeartbeats 4000000 in
theorem c_cellsGranted (l : Launch) {T : gSh} {I : gI} {J : gJ} {R : gR} {ca : Nat → Nat} {a : gI} {n : gJ} (hK : KA T I J R ca a n) {s : Nat} {v : Nat → Int32} (hs : RI T I s v) (hv : vB v) (b : Int32) : Con l yX2_cellsGranted wsX2_cellsGranted ({ frames := 3, cells := 0, slots := 0, locals := 65 }) [.ref (ca 3), .int b, .ref s] T I J R (gP (some (.int (nI (smN (fun i => cwN a i b v) (gN_ a))))) T I J R) := by
  refine Con.mk (cc := cX2_cellsGranted) (maxL := 5) (ret := (some .int)) (by decide) rfl (Nat.le_of_ble_eq_true rfl) ?_
  intro E hE C Z hnm
  subst hE
  change WP E 5 0 0 T I J R 0 [(0, .ref (ca 3)), (1, .int b), (2, .ref s)] []
  obtain ⟨g, g60, e33, e22, ga, ra, k4, -⟩ := hK.2.2.2.2.2.2.1
  have eg : gN_ a = g := by unfold gN_; rw [e22, nI_toInt (by omega)]; rfl
  have loop : ∀ i, i ≤ g → ∀ lv, lv_pick lv [0, 1, 2, 3, 4] = [(0, .ref (ca 3)), (1, .int b), (2, .ref s), (3, .int (nI (smN (fun j => cwN a j b v) i))), (4, .int (nI i))] → WP E 5 0 0 T I J R 5 lv [] := by
    refine loopN g (fun i hi ih => ?_)
    intro lv hlv
    refine wp_lv [0, 1, 2, 3, 4] hlv ?_
    refine wp_iload C 4 dX2_cellsGranted_5 rfl ?_
    refine wp_aload_n C 0 dX2_cellsGranted_7 rfl rfl ?_
    refine wp_getI C dX2_cellsGranted_8 fX2_cellsGranted_22 (hK.1.ob 3 (by decide) rfl) ?_
    refine wp_eqi e33 ?_
    refine wp_icmp_ge C 35 dX2_cellsGranted_11 (by decide) (fun c11 => ?_) (fun c11 => ?_)
    · have c11 : ((g : Nat) : Int) ≤ ((i : Nat) : Int) := by have hcv := p_le c11; rw [nI_toInt (show g < 2 ^ 31 by omega), nI_toInt (show i < 2 ^ 31 by omega)] at hcv; exact hcv
      refine wp_iload_n C 3 dX2_cellsGranted_35 rfl rfl ?_
      have e9 : g = i := by omega
      exact wp_iret C Z dX2_cellsGranted_36 (by decide) (by decide) (by rw [eg, e9]; exact gP_rf)
    · have c11 : ¬ ((g : Nat) : Int) ≤ ((i : Nat) : Int) := by have hcv := n_le c11; rw [nI_toInt (show g < 2 ^ 31 by omega), nI_toInt (show i < 2 ^ 31 by omega)] at hcv; exact hcv
      refine wp_iload_n C 3 dX2_cellsGranted_14 rfl rfl ?_
      refine wp_aload_n C 0 dX2_cellsGranted_15 rfl rfl ?_
      refine wp_getR C dX2_cellsGranted_16 fX2_cellsGranted_27 (hK.1.ob 3 (by decide) rfl) (hK.1.rf 3 4 27 (by decide)) ?_
      refine wp_iload C 4 dX2_cellsGranted_19 rfl ?_
      refine wp_aald C RX3 dX2_cellsGranted_21 (hK.1.ar 27 (by decide) rfl) (by decide) rfl (j := i) rfl (by omega) (by decide) (k4 i (by omega)).1 ?_
      refine wp_iload_n C 1 dX2_cellsGranted_22 rfl rfl ?_
      refine wp_aload_n C 2 dX2_cellsGranted_23 rfl rfl ?_
      refine wp_cVi C (As := [.int b, .ref s]) (rest := [.int (nI (smN (fun j => cwN a j b v) i))]) dX2_cellsGranted_24 kX2_cellsGranted_51 (k4 i (by omega)).2.1 (c_cellsWith _ (GO.of (k4 i (by omega))) hs hv b) rfl (Nat.le_of_ble_eq_true rfl) (by decide) (by decide) ?_
      refine wp_iadd C dX2_cellsGranted_27 ?_
      refine wp_eqi (nI_add (smN (fun j => cwN a j b v) i) (cwN a i b v)) ?_
      refine wp_istore_n C [(3, .int (nI ((smN (fun j => cwN a j b v) i) + (cwN a i b v)))), (0, .ref (ca 3)), (1, .int b), (2, .ref s), (4, .int (nI i))] dX2_cellsGranted_28 rfl (by decide) rfl ?_
      refine wp_iinc C 4 (nI (i + 1)) [(4, .int (nI (i + 1))), (3, .int (nI ((smN (fun j => cwN a j b v) i) + (cwN a i b v)))), (0, .ref (ca 3)), (1, .int b), (2, .ref s)] dX2_cellsGranted_29 rfl (nI_1 i) (by decide) rfl ?_
      refine wp_goto C 5 dX2_cellsGranted_32 (by decide) ?_
      refine wp_lv [2, 3, 4, 1, 0] rfl ?_
      exact ih (i + 1) (by omega) (by omega) _ rfl
  refine wp_iconst C 0 dX2_cellsGranted_0 (by decide) ?_
  refine wp_istore_n C [(3, .int 0), (0, .ref (ca 3)), (1, .int b), (2, .ref s)] dX2_cellsGranted_1 rfl (by decide) rfl ?_
  refine wp_iconst C 0 dX2_cellsGranted_2 (by decide) ?_
  refine wp_istore C [(4, .int 0), (3, .int 0), (0, .ref (ca 3)), (1, .int b), (2, .ref s)] dX2_cellsGranted_3 (by decide) rfl ?_
  refine wp_lv [2, 3, 4, 1, 0] rfl ?_
  exact loop 0 (by omega) _ rfl
set_option maxRecDepth 100000 in
set_option maxHeartbeats 4000000 in
theorem c_left (l : Launch) {T : gSh} {I : gI} {J : gJ} {R : gR} {ca : Nat → Nat} {a : gI} {n : gJ} (hK : KA T I J R ca a n) (b p t f d : Int32) : Con l yX11_left wsX11_left ({ frames := 4, cells := 1, slots := 5, locals := 89 }) [.ref (ca 0), .int b, .int p, .int t, .int f, .int d] T I J R (PQ T I J R ca (.int (bI (stLe a b (rv p t f d d) = 0))) (u2 a 0 0 (nI (stLe a b (rv p t f d d)))) (nLe a n b d (rv p t f d d))) := by
  refine Con.mk (cc := cX11_left) (maxL := 8) (ret := (some .boolean)) (by decide) rfl (Nat.le_of_ble_eq_true rfl) ?_
  intro E hE C Z hnm
  subst hE
  change WP E 8 0 0 T I J R 0 [(0, .ref (ca 0)), (1, .int b), (2, .int p), (3, .int t), (4, .int f), (5, .int d)] []
  refine wp_new C dX11_left_0 nX11_left_180 (by decide) (by decide) ?_
  intro q hq
  refine wp_dup C dX11_left_3 rfl ?_
  refine wp_iload_n C 2 dX11_left_4 rfl rfl ?_
  refine wp_iload_n C 3 dX11_left_5 rfl rfl ?_
  refine wp_iload C 4 dX11_left_6 rfl ?_
  refine wp_iload C 5 dX11_left_8 rfl ?_
  refine wp_iload C 5 dX11_left_10 rfl ?_
  refine wp_cIv C (As := [.int p, .int t, .int f, .int d, .int d]) (rest := [.ref q]) dX11_left_12 kX11_left_182 (c_Rights _ OB.new p t f d d) rfl (Nat.le_of_ble_eq_true rfl) (by decide) (by decide) ?_
  refine wp_gen (fun T1 I1 J1 R1 => KA T1 I1 J1 R1 ca a n ∧ RI T1 I1 q (rv p t f d d) ∧ ExL T T1 I I1 J J1 R R1 ca []) (newR hK hq p t f d d) ?_
  intro T1 I1 J1 R1 hp
  have kb1 := hp.1.2.2.2.2.2.1.ar
  have hca := can_le (rv p t f d d)
  refine wp_astore C [(6, .ref q), (0, .ref (ca 0)), (1, .int b), (2, .int p), (3, .int t), (4, .int f), (5, .int d)] dX11_left_15 (by decide) rfl ?_
  refine wp_aload_n C 1 dX11_left_17 rfl rfl ?_
  refine wp_aload_n C 1 dX11_left_18 rfl rfl ?_
  refine wp_iload_n C 2 dX11_left_19 rfl rfl ?_
  refine wp_cVi C (As := [.int b]) (rest := [.ref (ca 0)]) dX11_left_20 kX11_left_171 (hp.1.1.ob 0 (by decide) rfl) (c_isBook _ hp.1.1 b) rfl (Nat.le_of_ble_eq_true rfl) (by decide) (by decide) ?_
  refine wp_if_ne C 30 dX11_left_23 (by decide) (fun c23 => ?_) (fun c23 => ?_)
  · have c23 : (0 ≤ b.toInt ∧ b.toInt < (I1 (ca 3) 0).toInt) := Classical.byContradiction (fun z => c23 (bI_f z))
    refine wp_aload C 0 dX11_left_30 rfl ?_
    refine wp_cVi C (As := []) (rest := [.ref (ca 0)]) dX11_left_32 kX11_left_192 hp.2.1.1 (c_canBe _ hp.2.1) rfl (Nat.le_of_ble_eq_true rfl) (by decide) (by decide) ?_
    refine wp_if_ne C 42 dX11_left_35 (by decide) (fun c35 => ?_) (fun c35 => ?_)
    · have c35 : ¬ ((can (rv p t f d d) : Nat) : Int) = 0 := by have hcv := n_eq c35; rw [nI_toInt (show can (rv p t f d d) < 2 ^ 31 by omega)] at hcv; exact hcv
      refine wp_iconst C 0 dX11_left_42 (by decide) ?_
      refine wp_putI C dX11_left_43 pX11_left_41 (fun h => nomatch h) (hp.1.1.ob 0 (by decide) rfl) ?_
      refine wp_aload_n C 1 dX11_left_46 rfl rfl ?_
      refine wp_getI C dX11_left_47 fX11_left_41 (hp.1.1.ob 0 (by decide) rfl) ?_
      refine wp_eqi (u2_s _ _ _ _) ?_
      refine wp_if_eq C 55 dX11_left_50 (by decide) (fun c50 => ?_) (fun c50 => ?_)
      · have hvr : vR (rv p t f d d) := can_1 (show can (rv p t f d d) = 1 by omega)
        have leq := left_eq hK.2.2.2.2.2.2.1 (b := b) (p := p) (t := t) (f := f) (d := d) hvr.b
        have pap := pAll_pos hvr
        refine wp_aload C 0 dX11_left_55 rfl ?_
        refine wp_cVi C (As := []) (rest := []) dX11_left_57 kX11_left_229 hp.2.1.1 (c_cells _ (hp.2.1.st hp.1.1 0) hvr.b) rfl (Nat.le_of_ble_eq_true rfl) (by decide) (by decide) ?_
        refine wp_eqi (congrArg nI (pAll_eq hvr.b).symm) ?_
        refine wp_istore C [(7, .int (nI (pAll (rv p t f d d)))), (6, .ref q), (0, .ref (ca 0)), (1, .int b), (2, .int p), (3, .int t), (4, .int f), (5, .int d)] dX11_left_60 (by decide) rfl ?_
        refine wp_aload_n C 2 dX11_left_62 rfl rfl ?_
        refine wp_iload C 0 dX11_left_63 rfl ?_
        refine wp_aload_n C 2 dX11_left_65 rfl rfl ?_
        refine wp_getR C dX11_left_66 fX11_left_26 (hp.1.1.ob 0 (by decide) rfl) (hp.1.1.rf 0 2 3 (by decide)) ?_
        refine wp_iload_n C 3 dX11_left_69 rfl rfl ?_
        refine wp_aload C 1 dX11_left_70 rfl ?_
        refine wp_cVi C (As := [.int b, .ref q]) (rest := [.int (nI (pAll (rv p t f d d))), .ref (ca 0)]) dX11_left_72 kX11_left_232 (hp.1.1.ob 3 (by decide) rfl) (c_cellsGranted _ (hp.1.st 0) (hp.2.1.st hp.1.1 0) hvr.b b) rfl (Nat.le_of_ble_eq_true rfl) (by decide) (by decide) ?_
        refine wp_eqi (show _ = nI (smN (fun i => cwN a i b (rv p t f d d)) (gN_ a)) from rfl) ?_
        refine wp_isub C dX11_left_75 ?_
        refine wp_eqi (show nI (pAll (rv p t f d d)) - nI (smN (fun i => cwN a i b (rv p t f d d)) (gN_ a)) = nI (pFree a b d (rv p t f d d)) by rw [nI_sb (by omega), show pAll (rv p t f d d) - smN (fun i => cwN a i b (rv p t f d d)) (gN_ a) = pFree a b d (rv p t f d d) by omega]) ?_
        refine wp_iload C 0 dX11_left_76 rfl ?_
        refine wp_cVv C (As := [.int (nI (pFree a b d (rv p t f d d))), .int (nI (pAll (rv p t f d d)))]) (rest := []) dX11_left_78 kX11_left_235 (hp.1.1.ob 0 (by decide) rfl) (c_tellFraction _ hp.1.1 (F := pFree a b d (rv p t f d d)) (A := pAll (rv p t f d d)) (by omega) (by omega) pap.1) rfl (Nat.le_of_ble_eq_true rfl) (by decide) (by decide) ?_
        refine wp_iconst C 1 dX11_left_81 (by decide) ?_
        have hst : stLe a b (rv p t f d d) = 0 := by simp only [stLe]; (repeat' split) <;> omega
        exact wp_zret C Z dX11_left_82 (by decide) (by decide) (by decide) ⟨by rw [bI_t hst], ((hp.2.2.frc.pI (by decide) 5 _).pJ (by decide) 6 _).pJ (by decide) 7 _, by unfold nLe nFr; rw [if_pos hst, hst]; exact (hp.1.st 0).frac _ _⟩
      · exact absurd (by decide) c50
    · have c35 : ((can (rv p t f d d) : Nat) : Int) = 0 := by have hcv := p_eq c35; rw [nI_toInt (show can (rv p t f d d) < 2 ^ 31 by omega)] at hcv; exact hcv
      refine wp_iconst C 2 dX11_left_38 (by decide) ?_
      refine wp_goto C 43 dX11_left_39 (by decide) ?_
      refine wp_putI C dX11_left_43 pX11_left_41 (fun h => nomatch h) (hp.1.1.ob 0 (by decide) rfl) ?_
      refine wp_aload_n C 1 dX11_left_46 rfl rfl ?_
      refine wp_getI C dX11_left_47 fX11_left_41 (hp.1.1.ob 0 (by decide) rfl) ?_
      refine wp_eqi (u2_s _ _ _ _) ?_
      refine wp_if_eq C 55 dX11_left_50 (by decide) (fun c50 => ?_) (fun c50 => ?_)
      · exact absurd c50 (by decide)
      · refine wp_iconst C 0 dX11_left_53 (by decide) ?_
        have hst : stLe a b (rv p t f d d) = 2 := by simp only [stLe]; (repeat' split) <;> omega
        have hs0 : ¬ stLe a b (rv p t f d d) = 0 := by rw [hst]; decide
        exact wp_zret C Z dX11_left_54 (by decide) (by decide) (by decide) ⟨by rw [bI_f hs0], hp.2.2.frc.pI (by decide) 5 _, by unfold nLe; rw [if_neg hs0, hst]; exact hp.1.st _⟩
  · have c23 : ¬ (0 ≤ b.toInt ∧ b.toInt < (I1 (ca 3) 0).toInt) := fun z => absurd ((bI_t z).symm.trans c23) (by decide)
    refine wp_iconst C 1 dX11_left_26 (by decide) ?_
    refine wp_goto C 43 dX11_left_27 (by decide) ?_
    refine wp_putI C dX11_left_43 pX11_left_41 (fun h => nomatch h) (hp.1.1.ob 0 (by decide) rfl) ?_
    refine wp_aload_n C 1 dX11_left_46 rfl rfl ?_
    refine wp_getI C dX11_left_47 fX11_left_41 (hp.1.1.ob 0 (by decide) rfl) ?_
    refine wp_eqi (u2_s _ _ _ _) ?_
    refine wp_if_eq C 55 dX11_left_50 (by decide) (fun c50 => ?_) (fun c50 => ?_)
    · exact absurd c50 (by decide)
    · refine wp_iconst C 0 dX11_left_53 (by decide) ?_
      have hst : stLe a b (rv p t f d d) = 1 := by simp only [stLe]; (repeat' split) <;> omega
      have hs0 : ¬ stLe a b (rv p t f d d) = 0 := by rw [hst]; decide
      exact wp_zret C Z dX11_left_54 (by decide) (by decide) (by decide) ⟨by rw [bI_f hs0], hp.2.2.frc.pI (by decide) 5 _, by unfold nLe; rw [if_neg hs0, hst]; exact hp.1.st _⟩
/-- sums up to a place -/
def ps3 (F : Nat → Nat → Nat → Nat) (l t f : Nat) : Nat := smN (fun x => smN (fun y => smN (fun z => F x y z) 4) 4) l + smN (fun y => smN (fun z => F l y z) 4) t + smN (fun z => F l t z) f
theorem ps3_f (F : Nat → Nat → Nat → Nat) (l t f : Nat) : ps3 F l t (f + 1) = ps3 F l t f + F l t f := by unfold ps3; show _ + (smN _ f + F l t f) = _; omega
theorem ps3_t (F : Nat → Nat → Nat → Nat) (l t : Nat) : ps3 F l (t + 1) 0 = ps3 F l t 4 := by unfold ps3; show _ + (smN _ t + smN (fun z => F l t z) 4) + 0 = _; omega
theorem ps3_l (F : Nat → Nat → Nat → Nat) (l : Nat) : ps3 F (l + 1) 0 0 = ps3 F l 4 0 := by unfold ps3; show (smN _ l + smN (fun y => smN (fun z => F l y z) 4) 4) + 0 + 0 = _ + _ + 0; omega
theorem ps3_e (F : Nat → Nat → Nat → Nat) : ps3 F 8 0 0 = sm3 F := by unfold ps3 sm3; show _ + 0 + 0 = _; omega
theorem smN_mono3 {F G : Nat → Nat → Nat → Nat} (h : ∀ l t f, F l t f ≤ G l t f) : sm3 F ≤ sm3 G := smN_mono (fun l _ => smN_mono (fun t _ => smN_mono (fun f _ => h l t f)))
theorem sm3_le {a : gI} {b d p t f : Int32} : pFree a b d (rv p t f d d) ≤ pAll (rv p t f d d) := smN_mono3 (fun x y z => by
  have := clN_le a b (rc (nI x) (nI y) (nI z) d)
  exact Nat.le_trans (Nat.mul_le_mul_left _ (show 1 - clN a b (rc (nI x) (nI y) (nI z) d) ≤ 1 by omega)) (by rw [Nat.mul_one]; exact Nat.le_refl _))
set_option maxRecDepth 100000 in
set_option maxHeartbeats 4000000 in
theorem m_left (l : Launch) {T : gSh} {I : gI} {J : gJ} {R : gR} {m : Nat} {ad : Nat → Nat} (hM : MO T R m ad) {a : gI} {n : gJ} (hA : MA I J m ad a n) (hG : okG a) (b p t f d : Int32) : Con l yX12_left wsX12_left ({ frames := 3, cells := 0, slots := 0, locals := 69 }) [.ref m, .int b, .int p, .int t, .int f, .int d] T I J R (PZ T I J R m ad (.int (bI (stLe a b (rv p t f d d) = 0))) (u2 a 0 0 (nI (stLe a b (rv p t f d d)))) (nLe a n b d (rv p t f d d))) := by
  refine Con.mk (cc := cX12_left) (maxL := 11) (ret := (some .boolean)) (by decide) rfl (Nat.le_of_ble_eq_true rfl) ?_
  intro E hE C Z hnm
  subst hE
  change WP E 11 0 0 T I J R 0 [(0, .ref m), (1, .int b), (2, .int p), (3, .int t), (4, .int f), (5, .int d)] []
  have hX1 := ((MX.i hA).t hM 0).f hM 0 0
  have hca := can_le (rv p t f d d)
  have lL : can (rv p t f d d) = 1 → stLe a b (rv p t f d d) = 0 → ∀ x, x ≤ 8 → ∀ lv, lv_pick lv [0, 1, 2, 3, 4, 5, 6, 7, 8] = [(0, .ref m), (1, .int b), (2, .int p), (3, .int t), (4, .int f), (5, .int d), (6, .int (nI (ps3 (fun x y z => bt p x * bt t y * bt f z) x 0 0))), (7, .int (nI (ps3 (fun x y z => bt p x * bt t y * bt f z * (1 - clN a b (rc (nI x) (nI y) (nI z) d))) x 0 0))), (8, .int (nI x))] → WP E 11 0 0 T (u2 (u2 I m 1 0) m 0 0) J R 57 lv [] := by
    intro hc1 hst
    have hvr := can_1 hc1
    have pap := pAll_pos hvr
    have pfl : pFree a b d (rv p t f d d) ≤ pAll (rv p t f d d) := by have := sm3_le (a := a) (b := b) (d := d) (p := p) (t := t) (f := f); exact this
    have hb1 : (1 ≤ p.toInt ∧ p.toInt ≤ 255) ∧ (1 ≤ t.toInt ∧ t.toInt ≤ 15) ∧ (1 ≤ f.toInt ∧ f.toInt ≤ 15) := ⟨hvr.1, hvr.2.1, hvr.2.2.1⟩
    refine loopN 8 (fun x hx ihx => ?_)
    have lT : x < 8 → ∀ y, y ≤ 4 → ∀ lv, lv_pick lv [0, 1, 2, 3, 4, 5, 6, 7, 8, 9] = [(0, .ref m), (1, .int b), (2, .int p), (3, .int t), (4, .int f), (5, .int d), (6, .int (nI (ps3 (fun x y z => bt p x * bt t y * bt f z) x y 0))), (7, .int (nI (ps3 (fun x y z => bt p x * bt t y * bt f z * (1 - clN a b (rc (nI x) (nI y) (nI z) d))) x y 0))), (8, .int (nI x)), (9, .int (nI y))] → WP E 11 0 0 T (u2 (u2 I m 1 0) m 0 0) J R 67 lv [] := by
      intro hx8
      refine loopN 4 (fun y hy ihy => ?_)
      have lF : y < 4 → ∀ z, z ≤ 4 → ∀ lv, lv_pick lv [0, 1, 2, 3, 4, 5, 6, 7, 8, 9, 10] = [(0, .ref m), (1, .int b), (2, .int p), (3, .int t), (4, .int f), (5, .int d), (6, .int (nI (ps3 (fun x y z => bt p x * bt t y * bt f z) x y z))), (7, .int (nI (ps3 (fun x y z => bt p x * bt t y * bt f z * (1 - clN a b (rc (nI x) (nI y) (nI z) d))) x y z))), (8, .int (nI x)), (9, .int (nI y)), (10, .int (nI z))] → WP E 11 0 0 T (u2 (u2 I m 1 0) m 0 0) J R 76 lv [] := by
        intro hy4
        refine loopN 4 (fun z hz ihz => ?_)
        intro lv hlv
        refine wp_lv [0, 1, 2, 3, 4, 5, 6, 7, 8, 9, 10] hlv ?_
        have p0 := bt_le p x
        have p1 := bt_le t y
        have p2 := bt_le f z
        refine wp_iload C 10 dX12_left_76 rfl ?_
        refine wp_iconst C 4 dX12_left_78 (by decide) ?_
        refine wp_icmp_ge C 148 dX12_left_79 (by decide) (fun c79 => ?_) (fun c79 => ?_)
        · have c79 : 4 ≤ ((z : Nat) : Int) := by have hcv := p_le c79; rw [nI_toInt (show z < 2 ^ 31 by omega)] at hcv; exact hcv
          refine wp_iinc C 9 (nI (y + 1)) [(9, .int (nI (y + 1))), (0, .ref m), (1, .int b), (2, .int p), (3, .int t), (4, .int f), (5, .int d), (6, .int (nI (ps3 (fun x y z => bt p x * bt t y * bt f z) x y z))), (7, .int (nI (ps3 (fun x y z => bt p x * bt t y * bt f z * (1 - clN a b (rc (nI x) (nI y) (nI z) d))) x y z))), (8, .int (nI x)), (10, .int (nI z))] dX12_left_148 rfl (nI_1 y) (by decide) rfl ?_
          refine wp_goto C 67 dX12_left_151 (by decide) ?_
          have e4 : z = 4 := by omega
          subst e4
          rw [← ps3_t, ← ps3_t]
          refine wp_lv [1, 2, 3, 4, 5, 6, 7, 8, 9, 0] rfl ?_
          exact ihy (y + 1) (by omega) (by omega) _ rfl
        · have c79 : ¬ 4 ≤ ((z : Nat) : Int) := by have hcv := n_le c79; rw [nI_toInt (show z < 2 ^ 31 by omega)] at hcv; exact hcv
          have s0 := shr_bt (x := p) (k := x) (by omega) (by omega)
          have s1 := shr_bt (x := t) (k := y) (by omega) (by omega)
          have s2 := shr_bt (x := f) (k := z) (by omega) (by omega)
          refine wp_iload_n C 2 dX12_left_82 rfl rfl ?_
          refine wp_iload C 8 dX12_left_83 rfl ?_
          refine wp_ishr C dX12_left_85 ?_
          refine wp_iconst C 1 dX12_left_86 (by decide) ?_
          refine wp_iand C dX12_left_87 ?_
          refine wp_if_eq C 142 dX12_left_88 (by decide) (fun c88 => ?_) (fun c88 => ?_)
          · have c88 : ((p >>> ((nI x) &&& 31)) &&& 1).toInt = 0 := by have hcv := p_eq c88; exact hcv
            refine wp_iinc C 10 (nI (z + 1)) [(10, .int (nI (z + 1))), (0, .ref m), (1, .int b), (2, .int p), (3, .int t), (4, .int f), (5, .int d), (6, .int (nI (ps3 (fun x y z => bt p x * bt t y * bt f z) x y z))), (7, .int (nI (ps3 (fun x y z => bt p x * bt t y * bt f z * (1 - clN a b (rc (nI x) (nI y) (nI z) d))) x y z))), (8, .int (nI x)), (9, .int (nI y))] dX12_left_142 rfl (nI_1 z) (by decide) rfl ?_
            refine wp_goto C 76 dX12_left_145 (by decide) ?_
            have hq : bt p x * bt t y * bt f z = 0 := by
              rcases (show bt p x = 0 ∨ bt t y = 0 ∨ bt f z = 0 by omega) with q | q | q
              · rw [q, Nat.zero_mul, Nat.zero_mul]
              · rw [q, Nat.mul_zero, Nat.zero_mul]
              · rw [q, Nat.mul_zero]
            have eA : (ps3 (fun x y z => bt p x * bt t y * bt f z) x y z) = ps3 (fun x y z => bt p x * bt t y * bt f z) x y (z + 1) := by rw [ps3_f]; rw [hq]; rfl
            have eF : (ps3 (fun x y z => bt p x * bt t y * bt f z * (1 - clN a b (rc (nI x) (nI y) (nI z) d))) x y z) = ps3 (fun x y z => bt p x * bt t y * bt f z * (1 - clN a b (rc (nI x) (nI y) (nI z) d))) x y (z + 1) := by rw [ps3_f]; rw [hq, Nat.zero_mul]; rfl
            rw [eA, eF]
            refine wp_lv [1, 2, 3, 4, 5, 6, 7, 8, 9, 10, 0] rfl ?_
            exact ihz (z + 1) (by omega) (by omega) _ rfl
          · have c88 : ¬ ((p >>> ((nI x) &&& 31)) &&& 1).toInt = 0 := by have hcv := n_eq c88; exact hcv
            refine wp_iload_n C 3 dX12_left_91 rfl rfl ?_
            refine wp_iload C 9 dX12_left_92 rfl ?_
            refine wp_ishr C dX12_left_94 ?_
            refine wp_iconst C 1 dX12_left_95 (by decide) ?_
            refine wp_iand C dX12_left_96 ?_
            refine wp_if_eq C 142 dX12_left_97 (by decide) (fun c97 => ?_) (fun c97 => ?_)
            · have c97 : ((t >>> ((nI y) &&& 31)) &&& 1).toInt = 0 := by have hcv := p_eq c97; exact hcv
              refine wp_iinc C 10 (nI (z + 1)) [(10, .int (nI (z + 1))), (0, .ref m), (1, .int b), (2, .int p), (3, .int t), (4, .int f), (5, .int d), (6, .int (nI (ps3 (fun x y z => bt p x * bt t y * bt f z) x y z))), (7, .int (nI (ps3 (fun x y z => bt p x * bt t y * bt f z * (1 - clN a b (rc (nI x) (nI y) (nI z) d))) x y z))), (8, .int (nI x)), (9, .int (nI y))] dX12_left_142 rfl (nI_1 z) (by decide) rfl ?_
              refine wp_goto C 76 dX12_left_145 (by decide) ?_
              have hq : bt p x * bt t y * bt f z = 0 := by
                rcases (show bt p x = 0 ∨ bt t y = 0 ∨ bt f z = 0 by omega) with q | q | q
                · rw [q, Nat.zero_mul, Nat.zero_mul]
                · rw [q, Nat.mul_zero, Nat.zero_mul]
                · rw [q, Nat.mul_zero]
              have eA : (ps3 (fun x y z => bt p x * bt t y * bt f z) x y z) = ps3 (fun x y z => bt p x * bt t y * bt f z) x y (z + 1) := by rw [ps3_f]; rw [hq]; rfl
              have eF : (ps3 (fun x y z => bt p x * bt t y * bt f z * (1 - clN a b (rc (nI x) (nI y) (nI z) d))) x y z) = ps3 (fun x y z => bt p x * bt t y * bt f z * (1 - clN a b (rc (nI x) (nI y) (nI z) d))) x y (z + 1) := by rw [ps3_f]; rw [hq, Nat.zero_mul]; rfl
              rw [eA, eF]
              refine wp_lv [1, 2, 3, 4, 5, 6, 7, 8, 9, 10, 0] rfl ?_
              exact ihz (z + 1) (by omega) (by omega) _ rfl
            · have c97 : ¬ ((t >>> ((nI y) &&& 31)) &&& 1).toInt = 0 := by have hcv := n_eq c97; exact hcv
              refine wp_iload C 4 dX12_left_100 rfl ?_
              refine wp_iload C 10 dX12_left_102 rfl ?_
              refine wp_ishr C dX12_left_104 ?_
              refine wp_iconst C 1 dX12_left_105 (by decide) ?_
              refine wp_iand C dX12_left_106 ?_
              refine wp_if_ne C 113 dX12_left_107 (by decide) (fun c107 => ?_) (fun c107 => ?_)
              · have c107 : ¬ ((f >>> ((nI z) &&& 31)) &&& 1).toInt = 0 := by have hcv := n_eq c107; exact hcv
                refine wp_iinc C 6 (nI ((ps3 (fun x y z => bt p x * bt t y * bt f z) x y z) + 1)) [(6, .int (nI ((ps3 (fun x y z => bt p x * bt t y * bt f z) x y z) + 1))), (0, .ref m), (1, .int b), (2, .int p), (3, .int t), (4, .int f), (5, .int d), (7, .int (nI (ps3 (fun x y z => bt p x * bt t y * bt f z * (1 - clN a b (rc (nI x) (nI y) (nI z) d))) x y z))), (8, .int (nI x)), (9, .int (nI y)), (10, .int (nI z))] dX12_left_113 rfl (nI_1 (ps3 (fun x y z => bt p x * bt t y * bt f z) x y z)) (by decide) rfl ?_
                refine wp_iload C 7 dX12_left_116 rfl ?_
                refine wp_aload_n C 1 dX12_left_118 rfl rfl ?_
                refine wp_iload_n C 2 dX12_left_119 rfl rfl ?_
                refine wp_iload C 8 dX12_left_120 rfl ?_
                refine wp_iload C 9 dX12_left_122 rfl ?_
                refine wp_iload C 10 dX12_left_124 rfl ?_
                refine wp_iload C 6 dX12_left_126 rfl ?_
                refine wp_cVi C (As := [.int b, .int (nI x), .int (nI y), .int (nI z), .int d]) (rest := [.int (nI (ps3 (fun x y z => bt p x * bt t y * bt f z * (1 - clN a b (rc (nI x) (nI y) (nI z) d))) x y z))]) dX12_left_128 kX12_left_241 hM.ob (m_grantOf _ hM hX1.2 (hG.st 0) b (x := x) (y := y) (z := z) (by omega) (by omega) (by omega) d) rfl (Nat.le_of_ble_eq_true rfl) (by decide) (by decide) ?_
                refine wp_eqi (gOfV_st a 0 b _) ?_
                have hgo := gOfV_s a hG b (rc (nI x) (nI y) (nI z) d)
                have hcl := clN_le a b (rc (nI x) (nI y) (nI z) d)
                refine wp_if_ge C 138 dX12_left_131 (by decide) (fun c131 => ?_) (fun c131 => ?_)
                · have c131 : ¬ clN a b (rc (nI x) (nI y) (nI z) d) = 0 := hgo.1.mp (p_le c131)
                  refine wp_iconst C 0 dX12_left_138 (by decide) ?_
                  refine wp_iadd C dX12_left_139 ?_
                  refine wp_eqi (nI_add _ 0) ?_
                  refine wp_istore C [(7, .int (nI ((ps3 (fun x y z => bt p x * bt t y * bt f z * (1 - clN a b (rc (nI x) (nI y) (nI z) d))) x y z) + 0))), (6, .int (nI ((ps3 (fun x y z => bt p x * bt t y * bt f z) x y z) + 1))), (0, .ref m), (1, .int b), (2, .int p), (3, .int t), (4, .int f), (5, .int d), (8, .int (nI x)), (9, .int (nI y)), (10, .int (nI z))] dX12_left_140 (by decide) rfl ?_
                  refine wp_iinc C 10 (nI (z + 1)) [(10, .int (nI (z + 1))), (7, .int (nI ((ps3 (fun x y z => bt p x * bt t y * bt f z * (1 - clN a b (rc (nI x) (nI y) (nI z) d))) x y z) + 0))), (6, .int (nI ((ps3 (fun x y z => bt p x * bt t y * bt f z) x y z) + 1))), (0, .ref m), (1, .int b), (2, .int p), (3, .int t), (4, .int f), (5, .int d), (8, .int (nI x)), (9, .int (nI y))] dX12_left_142 rfl (nI_1 z) (by decide) rfl ?_
                  refine wp_goto C 76 dX12_left_145 (by decide) ?_
                  have hq : bt p x * bt t y * bt f z = 1 := by rw [show bt p x = 1 by omega, show bt t y = 1 by omega, show bt f z = 1 by omega]
                  have eA : (ps3 (fun x y z => bt p x * bt t y * bt f z) x y z) + 1 = ps3 (fun x y z => bt p x * bt t y * bt f z) x y (z + 1) := by rw [ps3_f]; rw [hq]
                  have eF : (ps3 (fun x y z => bt p x * bt t y * bt f z * (1 - clN a b (rc (nI x) (nI y) (nI z) d))) x y z) + 0 = ps3 (fun x y z => bt p x * bt t y * bt f z * (1 - clN a b (rc (nI x) (nI y) (nI z) d))) x y (z + 1) := by rw [ps3_f]; rw [hq, show clN a b (rc (nI x) (nI y) (nI z) d) = 1 by omega]
                  rw [eA, eF]
                  refine wp_lv [3, 4, 5, 6, 7, 8, 2, 1, 9, 10, 0] rfl ?_
                  exact ihz (z + 1) (by omega) (by omega) _ rfl
                · have c131 : clN a b (rc (nI x) (nI y) (nI z) d) = 0 := (Classical.byContradiction (fun w9 => c131 ((i_le _ _).mpr (hgo.1.mpr w9))))
                  refine wp_iconst C 1 dX12_left_134 (by decide) ?_
                  refine wp_goto C 139 dX12_left_135 (by decide) ?_
                  refine wp_iadd C dX12_left_139 ?_
                  refine wp_eqi (nI_add _ 1) ?_
                  refine wp_istore C [(7, .int (nI ((ps3 (fun x y z => bt p x * bt t y * bt f z * (1 - clN a b (rc (nI x) (nI y) (nI z) d))) x y z) + 1))), (6, .int (nI ((ps3 (fun x y z => bt p x * bt t y * bt f z) x y z) + 1))), (0, .ref m), (1, .int b), (2, .int p), (3, .int t), (4, .int f), (5, .int d), (8, .int (nI x)), (9, .int (nI y)), (10, .int (nI z))] dX12_left_140 (by decide) rfl ?_
                  refine wp_iinc C 10 (nI (z + 1)) [(10, .int (nI (z + 1))), (7, .int (nI ((ps3 (fun x y z => bt p x * bt t y * bt f z * (1 - clN a b (rc (nI x) (nI y) (nI z) d))) x y z) + 1))), (6, .int (nI ((ps3 (fun x y z => bt p x * bt t y * bt f z) x y z) + 1))), (0, .ref m), (1, .int b), (2, .int p), (3, .int t), (4, .int f), (5, .int d), (8, .int (nI x)), (9, .int (nI y))] dX12_left_142 rfl (nI_1 z) (by decide) rfl ?_
                  refine wp_goto C 76 dX12_left_145 (by decide) ?_
                  have hq : bt p x * bt t y * bt f z = 1 := by rw [show bt p x = 1 by omega, show bt t y = 1 by omega, show bt f z = 1 by omega]
                  have eA : (ps3 (fun x y z => bt p x * bt t y * bt f z) x y z) + 1 = ps3 (fun x y z => bt p x * bt t y * bt f z) x y (z + 1) := by rw [ps3_f]; rw [hq]
                  have eF : (ps3 (fun x y z => bt p x * bt t y * bt f z * (1 - clN a b (rc (nI x) (nI y) (nI z) d))) x y z) + 1 = ps3 (fun x y z => bt p x * bt t y * bt f z * (1 - clN a b (rc (nI x) (nI y) (nI z) d))) x y (z + 1) := by rw [ps3_f]; rw [hq, c131]
                  rw [eA, eF]
                  refine wp_lv [3, 4, 5, 6, 7, 8, 2, 1, 9, 10, 0] rfl ?_
                  exact ihz (z + 1) (by omega) (by omega) _ rfl
              · have c107 : ((f >>> ((nI z) &&& 31)) &&& 1).toInt = 0 := by have hcv := p_eq c107; exact hcv
                refine wp_goto C 142 dX12_left_110 (by decide) ?_
                refine wp_iinc C 10 (nI (z + 1)) [(10, .int (nI (z + 1))), (0, .ref m), (1, .int b), (2, .int p), (3, .int t), (4, .int f), (5, .int d), (6, .int (nI (ps3 (fun x y z => bt p x * bt t y * bt f z) x y z))), (7, .int (nI (ps3 (fun x y z => bt p x * bt t y * bt f z * (1 - clN a b (rc (nI x) (nI y) (nI z) d))) x y z))), (8, .int (nI x)), (9, .int (nI y))] dX12_left_142 rfl (nI_1 z) (by decide) rfl ?_
                refine wp_goto C 76 dX12_left_145 (by decide) ?_
                have hq : bt p x * bt t y * bt f z = 0 := by
                  rcases (show bt p x = 0 ∨ bt t y = 0 ∨ bt f z = 0 by omega) with q | q | q
                  · rw [q, Nat.zero_mul, Nat.zero_mul]
                  · rw [q, Nat.mul_zero, Nat.zero_mul]
                  · rw [q, Nat.mul_zero]
                have eA : (ps3 (fun x y z => bt p x * bt t y * bt f z) x y z) = ps3 (fun x y z => bt p x * bt t y * bt f z) x y (z + 1) := by rw [ps3_f]; rw [hq]; rfl
                have eF : (ps3 (fun x y z => bt p x * bt t y * bt f z * (1 - clN a b (rc (nI x) (nI y) (nI z) d))) x y z) = ps3 (fun x y z => bt p x * bt t y * bt f z * (1 - clN a b (rc (nI x) (nI y) (nI z) d))) x y (z + 1) := by rw [ps3_f]; rw [hq, Nat.zero_mul]; rfl
                rw [eA, eF]
                refine wp_lv [1, 2, 3, 4, 5, 6, 7, 8, 9, 10, 0] rfl ?_
                exact ihz (z + 1) (by omega) (by omega) _ rfl
      intro lv hlv
      refine wp_lv [0, 1, 2, 3, 4, 5, 6, 7, 8, 9] hlv ?_
      refine wp_iload C 9 dX12_left_67 rfl ?_
      refine wp_iconst C 4 dX12_left_69 (by decide) ?_
      refine wp_icmp_ge C 154 dX12_left_70 (by decide) (fun c70 => ?_) (fun c70 => ?_)
      · have c70 : 4 ≤ ((y : Nat) : Int) := by have hcv := p_le c70; rw [nI_toInt (show y < 2 ^ 31 by omega)] at hcv; exact hcv
        refine wp_iinc C 8 (nI (x + 1)) [(8, .int (nI (x + 1))), (0, .ref m), (1, .int b), (2, .int p), (3, .int t), (4, .int f), (5, .int d), (6, .int (nI (ps3 (fun x y z => bt p x * bt t y * bt f z) x y 0))), (7, .int (nI (ps3 (fun x y z => bt p x * bt t y * bt f z * (1 - clN a b (rc (nI x) (nI y) (nI z) d))) x y 0))), (9, .int (nI y))] dX12_left_154 rfl (nI_1 x) (by decide) rfl ?_
        refine wp_goto C 57 dX12_left_157 (by decide) ?_
        have e4 : y = 4 := by omega
        subst e4
        rw [← ps3_l, ← ps3_l]
        refine wp_lv [1, 2, 3, 4, 5, 6, 7, 8, 0] rfl ?_
        exact ihx (x + 1) (by omega) (by omega) _ rfl
      · have c70 : ¬ 4 ≤ ((y : Nat) : Int) := by have hcv := n_le c70; rw [nI_toInt (show y < 2 ^ 31 by omega)] at hcv; exact hcv
        refine wp_iconst C 0 dX12_left_73 (by decide) ?_
        refine wp_istore C [(10, .int 0), (0, .ref m), (1, .int b), (2, .int p), (3, .int t), (4, .int f), (5, .int d), (6, .int (nI (ps3 (fun x y z => bt p x * bt t y * bt f z) x y 0))), (7, .int (nI (ps3 (fun x y z => bt p x * bt t y * bt f z * (1 - clN a b (rc (nI x) (nI y) (nI z) d))) x y 0))), (8, .int (nI x)), (9, .int (nI y))] dX12_left_74 (by decide) rfl ?_
        refine wp_lv [1, 2, 3, 4, 5, 6, 7, 8, 9, 10, 0] rfl ?_
        exact lF (by omega) 0 (by omega) _ rfl
    intro lv hlv
    refine wp_lv [0, 1, 2, 3, 4, 5, 6, 7, 8] hlv ?_
    refine wp_iload C 8 dX12_left_57 rfl ?_
    refine wp_bipush C 8 dX12_left_59 (by decide) ?_
    refine wp_icmp_ge C 160 dX12_left_61 (by decide) (fun c61 => ?_) (fun c61 => ?_)
    · have c61 : 8 ≤ ((x : Nat) : Int) := by have hcv := p_le c61; rw [nI_toInt (show x < 2 ^ 31 by omega)] at hcv; exact hcv
      have e8 : x = 8 := by omega
      subst e8
      rw [ps3_e, ps3_e]
      change WP E 11 0 0 T (u2 (u2 I m 1 0) m 0 0) J R 160 [(0, .ref m), (1, .int b), (2, .int p), (3, .int t), (4, .int f), (5, .int d), (6, .int (nI (pAll (rv p t f d d)))), (7, .int (nI (pFree a b d (rv p t f d d)))), (8, .int (nI 8))] []
      have hgp : 0 < Nat.gcd (pFree a b d (rv p t f d d)) (pAll (rv p t f d d)) := Nat.gcd_pos_of_pos_right _ pap.1
      have hgl : Nat.gcd (pFree a b d (rv p t f d d)) (pAll (rv p t f d d)) ≤ pAll (rv p t f d d) := Nat.gcd_le_right _ pap.1
      have hne174 : ¬ nI (Nat.gcd (pFree a b d (rv p t f d d)) (pAll (rv p t f d d))) = 0 := fun z => by have := p_eq z; rw [nI_toInt (by omega)] at this; have hz0 : ((0 : Int32)).toInt = 0 := rfl; omega
      have hne184 := hne174
      refine wp_iload C 7 dX12_left_160 rfl ?_
      refine wp_iload C 6 dX12_left_162 rfl ?_
      refine wp_cSi C (As := [.int (nI (pFree a b d (rv p t f d d))), .int (nI (pAll (rv p t f d d)))]) (rest := []) dX12_left_164 kX12_left_245 (m_common _ (F := pFree a b d (rv p t f d d)) (A := pAll (rv p t f d d)) (by omega) (by omega)) rfl (Nat.le_of_ble_eq_true rfl) (by decide) (by decide) ?_
      refine wp_istore C [(8, .int (nI (Nat.gcd (pFree a b d (rv p t f d d)) (pAll (rv p t f d d))))), (0, .ref m), (1, .int b), (2, .int p), (3, .int t), (4, .int f), (5, .int d), (6, .int (nI (pAll (rv p t f d d)))), (7, .int (nI (pFree a b d (rv p t f d d))))] dX12_left_167 (by decide) rfl ?_
      refine wp_aload_n C 1 dX12_left_169 rfl rfl ?_
      refine wp_iload C 8 dX12_left_170 rfl ?_
      refine wp_iload C 0 dX12_left_172 rfl ?_
      refine wp_idiv C dX12_left_174 hne174 ?_
      refine wp_eqi (pk_div (by omega) (by omega) (by omega) : _ = nI ((pFree a b d (rv p t f d d)) / (Nat.gcd (pFree a b d (rv p t f d d)) (pAll (rv p t f d d))))) ?_
      refine wp_i2l C dX12_left_175 ?_
      refine wp_putJ C dX12_left_176 pX12_left_248 (fun h => nomatch h) hM.ob ?_
      refine wp_aload_n C 1 dX12_left_179 rfl rfl ?_
      refine wp_iload C 7 dX12_left_180 rfl ?_
      refine wp_iload C 0 dX12_left_182 rfl ?_
      refine wp_idiv C dX12_left_184 hne184 ?_
      refine wp_eqi (pk_div (by omega) (by omega) (by omega) : _ = nI ((pAll (rv p t f d d)) / (Nat.gcd (pFree a b d (rv p t f d d)) (pAll (rv p t f d d))))) ?_
      refine wp_i2l C dX12_left_185 ?_
      refine wp_putJ C dX12_left_186 pX12_left_7 (fun h => nomatch h) hM.ob ?_
      refine wp_iconst C 1 dX12_left_189 (by decide) ?_
      exact wp_zret C Z dX12_left_190 (by decide) (by decide) (by decide) ⟨by rw [bI_t hst], rfl, rfl, by unfold nLe nFr; rw [if_pos hst, hst]; exact (((((MX.i hA).t hM 0).f hM 0 0).q hM 2 ((nI ((pFree a b d (rv p t f d d)) / (Nat.gcd (pFree a b d (rv p t f d d)) (pAll (rv p t f d d))))).toInt64)).q hM 3 ((nI ((pAll (rv p t f d d)) / (Nat.gcd (pFree a b d (rv p t f d d)) (pAll (rv p t f d d))))).toInt64))⟩
    · have c61 : ¬ 8 ≤ ((x : Nat) : Int) := by have hcv := n_le c61; rw [nI_toInt (show x < 2 ^ 31 by omega)] at hcv; exact hcv
      refine wp_iconst C 0 dX12_left_64 (by decide) ?_
      refine wp_istore C [(9, .int 0), (0, .ref m), (1, .int b), (2, .int p), (3, .int t), (4, .int f), (5, .int d), (6, .int (nI (ps3 (fun x y z => bt p x * bt t y * bt f z) x 0 0))), (7, .int (nI (ps3 (fun x y z => bt p x * bt t y * bt f z * (1 - clN a b (rc (nI x) (nI y) (nI z) d))) x 0 0))), (8, .int (nI x))] dX12_left_65 (by decide) rfl ?_
      refine wp_lv [1, 2, 3, 4, 5, 6, 7, 8, 9, 0] rfl ?_
      exact lT (by omega) 0 (by omega) _ rfl
  refine wp_aload_n C 0 dX12_left_0 rfl rfl ?_
  refine wp_iconst C 0 dX12_left_1 (by decide) ?_
  refine wp_putI C dX12_left_2 pX12_left_134 (fun h => nomatch h) hM.ob ?_
  refine wp_aload_n C 0 dX12_left_5 rfl rfl ?_
  refine wp_iconst C 0 dX12_left_6 (by decide) ?_
  refine wp_putI C dX12_left_7 pX12_left_137 (fun h => nomatch h) hM.ob ?_
  refine wp_aload_n C 0 dX12_left_10 rfl rfl ?_
  refine wp_iload_n C 1 dX12_left_11 rfl rfl ?_
  refine wp_cVi C (As := [.int b]) (rest := []) dX12_left_12 kX12_left_209 hM.ob (m_isBook _ hM b) rfl (Nat.le_of_ble_eq_true rfl) (by decide) (by decide) ?_
  refine wp_eqi (congrArg (fun z : Int32 => bI (0 ≤ b.toInt ∧ b.toInt < z.toInt)) (((u2_k _ _ _ _ (by decide) _).trans (u2_k _ _ _ _ (by decide) _)).trans (hA.1 21 (by decide)))) ?_
  refine wp_if_ne C 24 dX12_left_15 (by decide) (fun c15 => ?_) (fun c15 => ?_)
  · have c15 : (0 ≤ b.toInt ∧ b.toInt < (a 0 21).toInt) := Classical.byContradiction (fun z => c15 (bI_f z))
    refine wp_iload_n C 2 dX12_left_24 rfl rfl ?_
    refine wp_iload_n C 3 dX12_left_25 rfl rfl ?_
    refine wp_iload C 4 dX12_left_26 rfl ?_
    refine wp_cSi C (As := [.int p, .int t, .int f]) (rest := []) dX12_left_28 kX12_left_202 (m_areCells _ p t f) rfl (Nat.le_of_ble_eq_true rfl) (by decide) (by decide) ?_
    refine wp_if_eq C 42 dX12_left_31 (by decide) (fun c31 => ?_) (fun c31 => ?_)
    · have c31 : ¬ ((1 ≤ p.toInt ∧ p.toInt ≤ 255) ∧ (1 ≤ t.toInt ∧ t.toInt ≤ 15) ∧ (1 ≤ f.toInt ∧ f.toInt ≤ 15)) := fun z => absurd ((bI_t z).symm.trans c31) (by decide)
      refine wp_aload_n C 0 dX12_left_42 rfl rfl ?_
      refine wp_iconst C 2 dX12_left_43 (by decide) ?_
      refine wp_cVi C (As := [.int 2]) (rest := []) dX12_left_44 kX12_left_140 hM.ob (m_no _ hM 2) rfl (Nat.le_of_ble_eq_true rfl) (by decide) (by decide) ?_
      have hc0 := can_T (p := p) (t := t) (f := f) (d := d) (u := d)
      have hst : stLe a b (rv p t f d d) = 2 := by simp only [stLe, hc0]; (repeat' split) <;> omega
      have hs0 : ¬ stLe a b (rv p t f d d) = 0 := by rw [hst]; decide
      exact wp_zret C Z dX12_left_47 (by decide) (by decide) (by decide) ⟨by rw [bI_f hs0], rfl, rfl, by unfold nLe; rw [if_neg hs0, hst]; exact MX.no hA hM 2⟩
    · have c31 : ((1 ≤ p.toInt ∧ p.toInt ≤ 255) ∧ (1 ≤ t.toInt ∧ t.toInt ≤ 15) ∧ (1 ≤ f.toInt ∧ f.toInt ≤ 15)) := Classical.byContradiction (fun z => c31 (bI_f z))
      refine wp_iload C 5 dX12_left_34 rfl ?_
      refine wp_cSi C (As := [.int d]) (rest := []) dX12_left_36 kX12_left_206 (m_isDay _ d) rfl (Nat.le_of_ble_eq_true rfl) (by decide) (by decide) ?_
      refine wp_if_ne C 48 dX12_left_39 (by decide) (fun c39 => ?_) (fun c39 => ?_)
      · have c39 : (0 ≤ d.toInt ∧ d.toInt ≤ 9999) := Classical.byContradiction (fun z => c39 (bI_f z))
        refine wp_iconst C 0 dX12_left_48 (by decide) ?_
        refine wp_istore C [(6, .int 0), (0, .ref m), (1, .int b), (2, .int p), (3, .int t), (4, .int f), (5, .int d)] dX12_left_49 (by decide) rfl ?_
        refine wp_iconst C 0 dX12_left_51 (by decide) ?_
        refine wp_istore C [(7, .int 0), (6, .int 0), (0, .ref m), (1, .int b), (2, .int p), (3, .int t), (4, .int f), (5, .int d)] dX12_left_52 (by decide) rfl ?_
        refine wp_iconst C 0 dX12_left_54 (by decide) ?_
        refine wp_istore C [(8, .int 0), (7, .int 0), (6, .int 0), (0, .ref m), (1, .int b), (2, .int p), (3, .int t), (4, .int f), (5, .int d)] dX12_left_55 (by decide) rfl ?_
        refine wp_lv [3, 4, 5, 6, 7, 8, 2, 1, 0] rfl ?_
        have hc1 : can (rv p t f d d) = 1 := by rw [can_T]; split <;> omega
        exact lL hc1 (by simp only [stLe]; (repeat' split) <;> omega) 0 (by omega) _ rfl
      · have c39 : ¬ (0 ≤ d.toInt ∧ d.toInt ≤ 9999) := fun z => absurd ((bI_t z).symm.trans c39) (by decide)
        refine wp_aload_n C 0 dX12_left_42 rfl rfl ?_
        refine wp_iconst C 2 dX12_left_43 (by decide) ?_
        refine wp_cVi C (As := [.int 2]) (rest := []) dX12_left_44 kX12_left_140 hM.ob (m_no _ hM 2) rfl (Nat.le_of_ble_eq_true rfl) (by decide) (by decide) ?_
        have hc0 := can_T (p := p) (t := t) (f := f) (d := d) (u := d)
        have hst : stLe a b (rv p t f d d) = 2 := by simp only [stLe, hc0]; (repeat' split) <;> omega
        have hs0 : ¬ stLe a b (rv p t f d d) = 0 := by rw [hst]; decide
        exact wp_zret C Z dX12_left_47 (by decide) (by decide) (by decide) ⟨by rw [bI_f hs0], rfl, rfl, by unfold nLe; rw [if_neg hs0, hst]; exact MX.no hA hM 2⟩
  · have c15 : ¬ (0 ≤ b.toInt ∧ b.toInt < (a 0 21).toInt) := fun z => absurd ((bI_t z).symm.trans c15) (by decide)
    refine wp_aload_n C 0 dX12_left_18 rfl rfl ?_
    refine wp_iconst C 1 dX12_left_19 (by decide) ?_
    refine wp_cVi C (As := [.int 1]) (rest := []) dX12_left_20 kX12_left_140 hM.ob (m_no _ hM 1) rfl (Nat.le_of_ble_eq_true rfl) (by decide) (by decide) ?_
    have hc0 := can_T (p := p) (t := t) (f := f) (d := d) (u := d)
    have hst : stLe a b (rv p t f d d) = 1 := by simp only [stLe, hc0]; (repeat' split) <;> omega
    have hs0 : ¬ stLe a b (rv p t f d d) = 0 := by rw [hst]; decide
    exact wp_zret C Z dX12_left_23 (by decide) (by decide) (by decide) ⟨by rw [bI_f hs0], rfl, rfl, by unfold nLe; rw [if_neg hs0, hst]; exact MX.no hA hM 1⟩
