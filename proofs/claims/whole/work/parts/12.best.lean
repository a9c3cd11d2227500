/-! ===== the best set: weights, one step, one turn, filling ===== -/
theorem lc_0 (x : Int64) : ((lg_cmp x 0).toInt = 1 ∧ 0 < x.toInt) ∨ ((lg_cmp x 0).toInt = 0 ∧ x.toInt = 0) ∨ ((lg_cmp x 0).toInt = -1 ∧ x.toInt < 0) := by
  unfold lg_cmp
  by_cases h1 : x > 0
  · rw [if_pos h1]
    have h2 : (0 : Int64).toInt < x.toInt := Int64.lt_iff_toInt_lt.mp h1
    exact Or.inl ⟨rfl, h2⟩
  · rw [if_neg h1]
    by_cases h2 : x = 0
    · rw [if_pos h2]; subst h2; exact Or.inr (Or.inl ⟨rfl, rfl⟩)
    · rw [if_neg h2]
      have h3 : ¬ (0 : Int64).toInt < x.toInt := fun g => h1 (Int64.lt_iff_toInt_lt.mpr g)
      have h4 : ¬ x.toInt = (0 : Int64).toInt := fun g => h2 (Int64.toInt_inj.mp g)
      have h5 : (0 : Int64).toInt = 0 := rfl
      exact Or.inr (Or.inr ⟨rfl, by omega⟩)
/-- a gain: the high number first, then the low one -/
abbrev gai (h g : Int64) : Prop := 0 < h.toInt ∨ (h.toInt = 0 ∧ 0 < g.toInt)
/-- the weights of a pair, as whole numbers -/
def lwI (p : Nat) : Int := if p < 40 then 0 else 2 ^ (79 - p)
def hwI (w p : Nat) : Int := if w = 0 then -1 else (w : Int) * 2 ^ 42 + (if p < 40 then 2 ^ (39 - p) else 0)
def lw64 (p : Nat) : Int64 := if p < 40 then 0 else 1 <<< ((79 - nI p : Int32).toInt64 &&& 63)
def hb64 (p : Nat) : Int64 := if p < 40 then 1 <<< ((39 - nI p : Int32).toInt64 &&& 63) else 0
def hw64 (w p : Nat) : Int64 := if w = 0 then -1 else ((nI w).toInt64 <<< ((42 : Int32).toInt64 &&& 63)) + hb64 p
theorem lw64_I : ∀ p, p < 80 → (lw64 p).toInt = lwI p := by decide +kernel
theorem hb64_I : ∀ p, p < 80 → (hb64 p).toInt = (if p < 40 then 2 ^ (39 - p) else 0) := by decide +kernel
theorem hs64_I : ∀ w, w < 101 → ((nI w).toInt64 <<< ((42 : Int32).toInt64 &&& 63)).toInt = (w : Int) * 2 ^ 42 := by decide +kernel
theorem hb_le : ∀ p, p < 80 → (0 : Int) ≤ (if p < 40 then 2 ^ (39 - p) else 0) ∧ (if p < 40 then 2 ^ (39 - p) else 0 : Int) ≤ 2 ^ 39 := by decide +kernel
theorem add64 {x y : Int64} (h1 : -2 ^ 62 ≤ x.toInt ∧ x.toInt ≤ 2 ^ 62) (h2 : -2 ^ 62 ≤ y.toInt ∧ y.toInt < 2 ^ 62) : (x + y).toInt = x.toInt + y.toInt := by
  rw [Int64.toInt_add]
  exact Int.bmod_eq_of_le (by omega) (by omega)
theorem sub64 {x y : Int64} (h1 : -2 ^ 62 ≤ x.toInt ∧ x.toInt ≤ 2 ^ 62) (h2 : -2 ^ 62 < y.toInt ∧ y.toInt ≤ 2 ^ 62) : (x - y).toInt = x.toInt - y.toInt := by
  rw [Int64.toInt_sub]
  exact Int.bmod_eq_of_le (by omega) (by omega)
theorem neg64 {x : Int64} (h1 : -2 ^ 62 ≤ x.toInt ∧ x.toInt ≤ 2 ^ 62) : (-x).toInt = -x.toInt := by
  rw [Int64.toInt_neg]
  exact Int.bmod_eq_of_le (by omega) (by omega)
theorem hw64_I {w p : Nat} (hw : w ≤ 100) (hp : p < 80) : (hw64 w p).toInt = hwI w p := by
  unfold hw64 hwI
  by_cases h : w = 0
  · rw [if_pos h, if_pos h]; rfl
  · rw [if_neg h, if_neg h]
    have h1 := hs64_I w (by omega)
    have h2 := hb64_I p hp
    have h3 := hb_le p hp
    rw [add64 (by rw [h1]; omega) (by rw [h2]; omega), h1, h2]
theorem hwI_le {w p : Nat} (hw : w ≤ 100) (hp : p < 80) : -2 ^ 50 ≤ hwI w p ∧ hwI w p ≤ 2 ^ 50 := by
  unfold hwI
  have h3 := hb_le p hp
  by_cases h : w = 0
  · rw [if_pos h]; omega
  · rw [if_neg h]; omega
theorem lwI_le : ∀ p, p < 80 → 0 ≤ lwI p ∧ lwI p ≤ 2 ^ 39 := by decide +kernel
set_option maxRecDepth 100000 in
set_option maxHeartbeats 4000000 in
theorem c_isGain (l : Launch) {T : gSh} {I : gI} {J : gJ} {R : gR} (h g : Int64) : Con l yX1_isGain wsX1_isGain ({ frames := 0, cells := 0, slots := 0, locals := 0 }) [.long h, .long g] T I J R (gP (some (.int (bI (gai h g)))) T I J R) := by
  refine Con.mk (cc := cX1_isGain) (maxL := 4) (ret := (some .boolean)) (by decide) rfl (Nat.le_of_ble_eq_true rfl) ?_
  intro E hE C Z hnm
  subst hE
  change WP E 4 0 0 T I J R 0 [(0, .long h), (2, .long g)] []
  have e1 := lc_0 h
  have e2 := lc_0 g
  refine wp_lload_n C 0 dX1_isGain_0 rfl rfl ?_
  refine wp_lconst C 0 dX1_isGain_1 (by decide) ?_
  refine wp_lcmp C dX1_isGain_2 ?_
  refine wp_if_gt C 18 dX1_isGain_3 (by decide) (fun c3 => ?_) (fun c3 => ?_)
  · have c3 : 0 < (lg_cmp h 0).toInt := by have h := p_lt c3; exact h
    refine wp_iconst C 1 dX1_isGain_18 (by decide) ?_
    refine wp_goto C 23 dX1_isGain_19 (by decide) ?_
    exact wp_zret C Z dX1_isGain_23 (by decide) (by decide) (by decide) (by rw [bI_t (by omega)]; exact gP_rf)
  · have c3 : ¬ 0 < (lg_cmp h 0).toInt := by have h := n_lt c3; exact h
    refine wp_lload_n C 0 dX1_isGain_6 rfl rfl ?_
    refine wp_lconst C 0 dX1_isGain_7 (by decide) ?_
    refine wp_lcmp C dX1_isGain_8 ?_
    refine wp_if_ne C 22 dX1_isGain_9 (by decide) (fun c9 => ?_) (fun c9 => ?_)
    · have c9 : ¬ (lg_cmp h 0).toInt = 0 := by have h := n_eq c9; exact h
      refine wp_iconst C 0 dX1_isGain_22 (by decide) ?_
      exact wp_zret C Z dX1_isGain_23 (by decide) (by decide) (by decide) (by rw [bI_f (by omega)]; exact gP_rf)
    · have c9 : (lg_cmp h 0).toInt = 0 := by have h := p_eq c9; exact h
      refine wp_lload_n C 1 dX1_isGain_12 rfl rfl ?_
      refine wp_lconst C 0 dX1_isGain_13 (by decide) ?_
      refine wp_lcmp C dX1_isGain_14 ?_
      refine wp_if_le C 22 dX1_isGain_15 (by decide) (fun c15 => ?_) (fun c15 => ?_)
      · have c15 : (lg_cmp g 0).toInt ≤ 0 := by have h := p_le c15; exact h
        refine wp_iconst C 0 dX1_isGain_22 (by decide) ?_
        exact wp_zret C Z dX1_isGain_23 (by decide) (by decide) (by decide) (by rw [bI_f (by omega)]; exact gP_rf)
      · have c15 : ¬ (lg_cmp g 0).toInt ≤ 0 := by have h := n_le c15; exact h
        refine wp_iconst C 1 dX1_isGain_18 (by decide) ?_
        refine wp_goto C 23 dX1_isGain_19 (by decide) ?_
        exact wp_zret C Z dX1_isGain_23 (by decide) (by decide) (by decide) (by rw [bI_t (by omega)]; exact gP_rf)
set_option maxRecDepth 100000 in
set_option maxHeartbeats 4000000 in
theorem c_lowWeight (l : Launch) {T : gSh} {I : gI} {J : gJ} {R : gR} {p : Nat} (hp : p < 80) : Con l yX1_lowWeight wsX1_lowWeight ({ frames := 0, cells := 0, slots := 0, locals := 0 }) [.int (nI p)] T I J R (gP (some (.long (lw64 p))) T I J R) := by
  refine Con.mk (cc := cX1_lowWeight) (maxL := 1) (ret := (some .long)) (by decide) rfl (Nat.le_of_ble_eq_true rfl) ?_
  intro E hE C Z hnm
  subst hE
  change WP E 1 0 0 T I J R 0 [(0, .int (nI p))] []
  refine wp_iload_n C 0 dX1_lowWeight_0 rfl rfl ?_
  refine wp_bipush C 40 dX1_lowWeight_1 (by decide) ?_
  refine wp_icmp_ge C 10 dX1_lowWeight_3 (by decide) (fun c3 => ?_) (fun c3 => ?_)
  · have c3 : 40 ≤ ((p : Nat) : Int) := by have h := p_le c3; rw [nI_toInt (show p < 2 ^ 31 by omega)] at h; exact h
    refine wp_lconst C 1 dX1_lowWeight_10 (by decide) ?_
    refine wp_bipush C 79 dX1_lowWeight_11 (by decide) ?_
    refine wp_iload_n C 0 dX1_lowWeight_13 rfl rfl ?_
    refine wp_isub C dX1_lowWeight_14 ?_
    refine wp_lshl C dX1_lowWeight_15 ?_
    exact wp_lret C Z dX1_lowWeight_16 (by decide) (by decide) (by rw [show lw64 p = _ from if_neg (by omega)]; exact gP_rf)
  · have c3 : ¬ 40 ≤ ((p : Nat) : Int) := by have h := n_le c3; rw [nI_toInt (show p < 2 ^ 31 by omega)] at h; exact h
    refine wp_lconst C 0 dX1_lowWeight_6 (by decide) ?_
    refine wp_goto C 16 dX1_lowWeight_7 (by decide) ?_
    exact wp_lret C Z dX1_lowWeight_16 (by decide) (by decide) (by rw [show lw64 p = _ from if_pos (by omega)]; exact gP_rf)
set_option maxRecDepth 100000 in
set_option maxHeartbeats 4000000 in
theorem c_highWeight (l : Launch) {T : gSh} {I : gI} {J : gJ} {R : gR} {ca : Nat → Nat} (hC : CO T R ca) {p w : Nat} (hp : p < 80) (hw : I (ca 17) p = nI w) (hw1 : w ≤ 100) : Con l yX1_highWeight wsX1_highWeight ({ frames := 0, cells := 0, slots := 0, locals := 0 }) [.ref (ca 14), .int (nI p)] T I J R (gP (some (.long (hw64 w p))) T I J R) := by
  refine Con.mk (cc := cX1_highWeight) (maxL := 4) (ret := (some .long)) (by decide) rfl (Nat.le_of_ble_eq_true rfl) ?_
  intro E hE C Z hnm
  subst hE
  change WP E 4 0 0 T I J R 0 [(0, .ref (ca 14)), (1, .int (nI p))] []
  refine wp_aload_n C 0 dX1_highWeight_0 rfl rfl ?_
  refine wp_getR C dX1_highWeight_1 fX1_highWeight_19 (hC.ob 14 (by decide) rfl) (hC.rf 14 2 17 (by decide)) ?_
  refine wp_iload_n C 1 dX1_highWeight_4 rfl rfl ?_
  refine wp_iald C dX1_highWeight_5 (hC.ar 17 (by decide) rfl) (j := p) rfl (by omega) (by decide) ?_
  refine wp_eqi hw ?_
  refine wp_if_ne C 13 dX1_highWeight_6 (by decide) (fun c6 => ?_) (fun c6 => ?_)
  · have c6 : ¬ ((w : Nat) : Int) = 0 := by have h := n_eq c6; rw [nI_toInt (show w < 2 ^ 31 by omega)] at h; exact h
    refine wp_iload_n C 1 dX1_highWeight_13 rfl rfl ?_
    refine wp_bipush C 40 dX1_highWeight_14 (by decide) ?_
    refine wp_icmp_ge C 28 dX1_highWeight_16 (by decide) (fun c16 => ?_) (fun c16 => ?_)
    · have c16 : 40 ≤ ((p : Nat) : Int) := by have h := p_le c16; rw [nI_toInt (show p < 2 ^ 31 by omega)] at h; exact h
      refine wp_lconst C 0 dX1_highWeight_28 (by decide) ?_
      refine wp_lstore_n C [(2, .long 0), (0, .ref (ca 14)), (1, .int (nI p))] dX1_highWeight_29 rfl (by decide) rfl ?_
      refine wp_aload_n C 1 dX1_highWeight_30 rfl rfl ?_
      refine wp_getR C dX1_highWeight_31 fX1_highWeight_19 (hC.ob 14 (by decide) rfl) (hC.rf 14 2 17 (by decide)) ?_
      refine wp_iload_n C 2 dX1_highWeight_34 rfl rfl ?_
      refine wp_iald C dX1_highWeight_35 (hC.ar 17 (by decide) rfl) (j := p) rfl (by omega) (by decide) ?_
      refine wp_eqi hw ?_
      refine wp_i2l C dX1_highWeight_36 ?_
      refine wp_bipush C 42 dX1_highWeight_37 (by decide) ?_
      refine wp_lshl C dX1_highWeight_39 ?_
      refine wp_lload_n C 0 dX1_highWeight_40 rfl rfl ?_
      refine wp_ladd C dX1_highWeight_41 ?_
      exact wp_lret C Z dX1_highWeight_42 (by decide) (by decide) (by rw [show hw64 w p = _ from if_neg (by omega), show hb64 p = _ from if_neg (by omega)]; exact gP_rf)
    · have c16 : ¬ 40 ≤ ((p : Nat) : Int) := by have h := n_le c16; rw [nI_toInt (show p < 2 ^ 31 by omega)] at h; exact h
      refine wp_lconst C 1 dX1_highWeight_19 (by decide) ?_
      refine wp_bipush C 39 dX1_highWeight_20 (by decide) ?_
      refine wp_iload_n C 1 dX1_highWeight_22 rfl rfl ?_
      refine wp_isub C dX1_highWeight_23 ?_
      refine wp_lshl C dX1_highWeight_24 ?_
      refine wp_goto C 29 dX1_highWeight_25 (by decide) ?_
      refine wp_lstore_n C [(2, .long (1 <<< ((39 - (nI p) : Int32).toInt64 &&& 63))), (0, .ref (ca 14)), (1, .int (nI p))] dX1_highWeight_29 rfl (by decide) rfl ?_
      refine wp_aload_n C 1 dX1_highWeight_30 rfl rfl ?_
      refine wp_getR C dX1_highWeight_31 fX1_highWeight_19 (hC.ob 14 (by decide) rfl) (hC.rf 14 2 17 (by decide)) ?_
      refine wp_iload_n C 2 dX1_highWeight_34 rfl rfl ?_
      refine wp_iald C dX1_highWeight_35 (hC.ar 17 (by decide) rfl) (j := p) rfl (by omega) (by decide) ?_
      refine wp_eqi hw ?_
      refine wp_i2l C dX1_highWeight_36 ?_
      refine wp_bipush C 42 dX1_highWeight_37 (by decide) ?_
      refine wp_lshl C dX1_highWeight_39 ?_
      refine wp_lload_n C 0 dX1_highWeight_40 rfl rfl ?_
      refine wp_ladd C dX1_highWeight_41 ?_
      exact wp_lret C Z dX1_highWeight_42 (by decide) (by decide) (by rw [show hw64 w p = _ from if_neg (by omega), show hb64 p = _ from if_pos (by omega)]; exact gP_rf)
  · have c6 : ((w : Nat) : Int) = 0 := by have h := p_eq c6; rw [nI_toInt (show w < 2 ^ 31 by omega)] at h; exact h
    refine wp_ldc2 C (-1) dX1_highWeight_9 (by decide +kernel) ?_
    exact wp_lret C Z dX1_highWeight_12 (by decide) (by decide) (by rw [show hw64 w p = _ from if_pos (by omega)]; exact gP_rf)
/-- whether a step betters the gain of v -/
abbrev stC (I : gI) (J : gJ) (ca : Nat → Nat) (u v : Nat) (h g : Int64) : Prop := I (ca 21) v = -1 ∨ gai (J (ca 19) u + h - J (ca 19) v) (J (ca 20) u + g - J (ca 20) v)
def stI (I : gI) (J : gJ) (ca : Nat → Nat) (u v : Nat) (h g : Int64) : gI := if stC I J ca u v h g then u2 (u2 I (ca 21) v (nI u)) (ca 22) v 1 else I
def stJ (I : gI) (J : gJ) (ca : Nat → Nat) (u v : Nat) (h g : Int64) : gJ := if stC I J ca u v h g then u2 (u2 J (ca 19) v (J (ca 19) u + h)) (ca 20) v (J (ca 20) u + g) else J
set_option maxRecDepth 100000 in
set_option maxHeartbeats 4000000 in
theorem c_step (l : Launch) {T : gSh} {I : gI} {J : gJ} {R : gR} {ca : Nat → Nat} (hC : CO T R ca) {u v : Nat} (hu : u < 19) (hv : v < 19) (h g : Int64) : Con l yX1_step wsX1_step ({ frames := 1, cells := 0, slots := 0, locals := 26 }) [.ref (ca 14), .int (nI u), .int (nI v), .long h, .long g] T I J R (gP none T (stI I J ca u v h g) (stJ I J ca u v h g) R) := by
  refine Con.mk (cc := cX1_step) (maxL := 11) (ret := none) (by decide) rfl (Nat.le_of_ble_eq_true rfl) ?_
  intro E hE C Z hnm
  subst hE
  change WP E 11 0 0 T I J R 0 [(0, .ref (ca 14)), (1, .int (nI u)), (2, .int (nI v)), (3, .long h), (5, .long g)] []
  refine wp_aload_n C 0 dX1_step_0 rfl rfl ?_
  refine wp_getR C dX1_step_1 fX1_step_26 (hC.ob 14 (by decide) rfl) (hC.rf 14 4 19 (by decide)) ?_
  refine wp_iload_n C 1 dX1_step_4 rfl rfl ?_
  refine wp_lald C dX1_step_5 (hC.ar 19 (by decide) rfl) (j := u) rfl (by omega) (by decide) ?_
  refine wp_lload_n C 3 dX1_step_6 rfl rfl ?_
  refine wp_ladd C dX1_step_7 ?_
  refine wp_lstore C [(7, .long ((J (ca 19) u) + h)), (0, .ref (ca 14)), (1, .int (nI u)), (2, .int (nI v)), (3, .long h), (5, .long g)] dX1_step_8 (by decide) rfl ?_
  refine wp_aload_n C 1 dX1_step_10 rfl rfl ?_
  refine wp_getR C dX1_step_11 fX1_step_30 (hC.ob 14 (by decide) rfl) (hC.rf 14 5 20 (by decide)) ?_
  refine wp_iload_n C 2 dX1_step_14 rfl rfl ?_
  refine wp_lald C dX1_step_15 (hC.ar 20 (by decide) rfl) (j := u) rfl (by omega) (by decide) ?_
  refine wp_lload C 5 dX1_step_16 rfl ?_
  refine wp_ladd C dX1_step_18 ?_
  refine wp_lstore C [(9, .long ((J (ca 20) u) + g)), (7, .long ((J (ca 19) u) + h)), (0, .ref (ca 14)), (1, .int (nI u)), (2, .int (nI v)), (3, .long h), (5, .long g)] dX1_step_19 (by decide) rfl ?_
  refine wp_aload_n C 2 dX1_step_21 rfl rfl ?_
  refine wp_getR C dX1_step_22 fX1_step_33 (hC.ob 14 (by decide) rfl) (hC.rf 14 6 21 (by decide)) ?_
  refine wp_iload_n C 4 dX1_step_25 rfl rfl ?_
  refine wp_iald C dX1_step_26 (hC.ar 21 (by decide) rfl) (j := v) rfl (by omega) (by decide) ?_
  refine wp_iconst C (-1) dX1_step_27 (by decide) ?_
  refine wp_icmp_eq C 55 dX1_step_28 (by decide) (fun c28 => ?_) (fun c28 => ?_)
  · have hcd : stC I J ca u v h g := Or.inl c28
    refine wp_aload_n C 2 dX1_step_55 rfl rfl ?_
    refine wp_iload_n C 3 dX1_step_56 rfl rfl ?_
    refine wp_iload_n C 4 dX1_step_57 rfl rfl ?_
    refine wp_lload C 1 dX1_step_58 rfl ?_
    refine wp_lload C 0 dX1_step_60 rfl ?_
    refine wp_cVv C (As := [.int (nI u), .int (nI v), .long ((J (ca 19) u) + h), .long ((J (ca 20) u) + g)]) (rest := []) dX1_step_62 kX1_step_80 (hC.ob 14 (by decide) rfl) (c_reach _ hC hu hv _ _) rfl (Nat.le_of_ble_eq_true rfl) (by decide) (by decide) ?_
    exact wp_vret C Z dX1_step_65 (by decide) (by decide) ⟨rfl, rfl, (if_pos hcd).symm, (if_pos hcd).symm, rfl⟩
  · refine wp_lload C 1 dX1_step_31 rfl ?_
    refine wp_aload_n C 2 dX1_step_33 rfl rfl ?_
    refine wp_getR C dX1_step_34 fX1_step_26 (hC.ob 14 (by decide) rfl) (hC.rf 14 4 19 (by decide)) ?_
    refine wp_iload_n C 4 dX1_step_37 rfl rfl ?_
    refine wp_lald C dX1_step_38 (hC.ar 19 (by decide) rfl) (j := v) rfl (by omega) (by decide) ?_
    refine wp_lsub C dX1_step_39 ?_
    refine wp_lload C 0 dX1_step_40 rfl ?_
    refine wp_aload_n C 2 dX1_step_42 rfl rfl ?_
    refine wp_getR C dX1_step_43 fX1_step_30 (hC.ob 14 (by decide) rfl) (hC.rf 14 5 20 (by decide)) ?_
    refine wp_iload_n C 4 dX1_step_46 rfl rfl ?_
    refine wp_lald C dX1_step_47 (hC.ar 20 (by decide) rfl) (j := v) rfl (by omega) (by decide) ?_
    refine wp_lsub C dX1_step_48 ?_
    refine wp_cSi C (As := [.long (((J (ca 19) u) + h) - (J (ca 19) v)), .long (((J (ca 20) u) + g) - (J (ca 20) v))]) (rest := []) dX1_step_49 kX1_step_71 (c_isGain _ (((J (ca 19) u) + h) - (J (ca 19) v)) (((J (ca 20) u) + g) - (J (ca 20) v))) rfl (Nat.le_of_ble_eq_true rfl) (by decide) (by decide) ?_
    refine wp_if_eq C 65 dX1_step_52 (by decide) (fun c52 => ?_) (fun c52 => ?_)
    · have hcd : ¬ stC I J ca u v h g := fun q => q.elim c28 (fun q => absurd (p_eq c52) (by rw [bI_t q]; decide))
      exact wp_vret C Z dX1_step_65 (by decide) (by decide) ⟨rfl, rfl, (if_neg hcd).symm, (if_neg hcd).symm, rfl⟩
    · have hcd : stC I J ca u v h g := Or.inr (Classical.byContradiction fun q => c52 (bI_f q))
      refine wp_aload_n C 2 dX1_step_55 rfl rfl ?_
      refine wp_iload_n C 3 dX1_step_56 rfl rfl ?_
      refine wp_iload_n C 4 dX1_step_57 rfl rfl ?_
      refine wp_lload C 1 dX1_step_58 rfl ?_
      refine wp_lload C 0 dX1_step_60 rfl ?_
      refine wp_cVv C (As := [.int (nI u), .int (nI v), .long ((J (ca 19) u) + h), .long ((J (ca 20) u) + g)]) (rest := []) dX1_step_62 kX1_step_80 (hC.ob 14 (by decide) rfl) (c_reach _ hC hu hv _ _) rfl (Nat.le_of_ble_eq_true rfl) (by decide) (by decide) ?_
      exact wp_vret C Z dX1_step_65 (by decide) (by decide) ⟨rfl, rfl, (if_pos hcd).symm, (if_pos hcd).symm, rfl⟩
