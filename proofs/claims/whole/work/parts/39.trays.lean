/-! ===== trays ===== -/
/-- zeros in the first c places of the tray t -/
def zr (t c : Nat) (f : Nat → Int64) : Nat → Int64 := fun q => if 40 * t ≤ q ∧ q < 40 * t + c then 0 else f q
def stTray (t s c : Int32) : Nat := if 0 ≤ t.toInt ∧ t.toInt < 4 ∧ 0 ≤ s.toInt ∧ s.toInt < 4 then (if 40 < c.toInt then 2 else if c.toInt < 0 then 6 else 0) else 1
def aTray (a : gI) (t s c : Int32) : gI := if stTray t s c = 0 then u2 (u2 (u2 a 0 0 0) 4 t.toInt.toNat s) 5 t.toInt.toNat c else u2 a 0 0 (nI (stTray t s c))
def nTray (n : gJ) (t s c : Int32) : gJ := if stTray t s c = 0 then va_up n 6 (zr t.toInt.toNat c.toInt.toNat (n 6)) else n
def stPlace (a : gI) (t k : Int32) : Nat := if 0 ≤ t.toInt ∧ t.toInt < 4 then (if (a 5 t.toInt.toNat).toInt < 0 then 4 else if 0 ≤ k.toInt ∧ k.toInt < (a 5 t.toInt.toNat).toInt then 0 else 5) else 1
def cutJ (s : Int32) (v : Int64) : Int64 := if s.toInt = 0 then v.toInt32.toInt8.toInt32.toInt64 else if s.toInt = 1 then v.toInt32.toInt16.toInt32.toInt64 else if s.toInt = 2 then v.toInt32.toInt64 else v
def aPlace (a : gI) (t k : Int32) : gI := u2 a 0 0 (nI (stPlace a t k))
def nWrite (a : gI) (n : gJ) (t k : Int32) (v : Int64) : gJ := if stPlace a t k = 0 then u2 n 6 (40 * t.toInt.toNat + k.toInt.toNat) (cutJ (a 4 t.toInt.toNat) v) else n
def stPour (a : gI) (t i u j c : Int32) : Nat := if 0 ≤ t.toInt ∧ t.toInt < 4 ∧ 0 ≤ u.toInt ∧ u.toInt < 4 then (if (a 5 t.toInt.toNat).toInt < 0 ∨ (a 5 u.toInt.toNat).toInt < 0 then 4 else if (a 4 t.toInt.toNat).toInt = (a 4 u.toInt.toNat).toInt then (if c.toInt < 0 then 6 else if 0 ≤ i.toInt ∧ 0 ≤ j.toInt ∧ i.toInt + c.toInt ≤ (a 5 t.toInt.toNat).toInt ∧ j.toInt + c.toInt ≤ (a 5 u.toInt.toNat).toInt then 0 else 5) else 11) else 1
def aPour (a : gI) (t i u j c : Int32) : gI := u2 a 0 0 (nI (stPour a t i u j c))
def nPour (a : gI) (n : gJ) (t i u j c : Int32) : gJ := if stPour a t i u j c = 0 then va_up n 6 (va_cpy (n 6) (n 6) (40 * t.toInt.toNat + i.toInt.toNat) (40 * u.toInt.toNat + j.toInt.toNat) c.toInt.toNat) else n
theorem KT.ar {I : gI} {J : gJ} {ca : Nat → Nat} {a : gI} {n : gJ} (k : KT I J ca a n) {t : Nat} (ht : t < 4) : ((I (ca (5 + t)) 0).toInt = 1 ∧ (a 5 t).toInt = -1) ∨ ((I (ca (5 + t)) 0).toInt = 0 ∧ 0 ≤ (a 5 t).toInt ∧ (a 5 t).toInt ≤ 40 ∧ (I (ca (5 + t)) 2).toInt = (a 5 t).toInt ∧ (I (ca (5 + t)) 1).toInt = (a 4 t).toInt ∧ 0 ≤ (a 4 t).toInt ∧ (a 4 t).toInt < 4) := by
  rcases k t ht with ⟨h1, h2⟩ | ⟨h1, c, s, h2, h3, h4, h5, h6, h7, -⟩
  · rw [h1, h2]; exact Or.inl ⟨rfl, rfl⟩
  · rw [h1, h4, h5, h6, h7, nI_toInt (by omega), nI_toInt (by omega)]; exact Or.inr ⟨rfl, by omega, by omega, rfl, rfl, by omega, by omega⟩
theorem KT.nm {I : gI} {J : gJ} {ca : Nat → Nat} {a : gI} {n : gJ} (k : KT I J ca a n) {t : Nat} (ht : t < 4) (h : 0 ≤ (a 5 t).toInt) {j : Nat} (hj : (j : Int) < (a 5 t).toInt) : J (ca (9 + t)) j = n 6 (40 * t + j) := by
  rcases k t ht with ⟨h1, h2⟩ | ⟨h1, c, s, h2, h3, h4, h5, h6, h7, h8⟩
  · rw [h2] at h; exact absurd h (by decide)
  · rw [h4, nI_toInt (by omega)] at hj; exact h8 j (by omega)
theorem KA.nm9 {T : gSh} {R : gR} {ca : Nat → Nat} (hC : CO T R ca) {t u : Nat} (ht : t < 4) (hu : u < 4) (h : t ≠ u) : ca (9 + t) ≠ ca (9 + u) := hC.ne (9 + t) (9 + u) (by omega) (by omega) (by omega)
/-- a tray is laid out -/
theorem KA.tray {T : gSh} {I : gI} {J : gJ} {R : gR} {ca : Nat → Nat} {a : gI} {n : gJ} (k : KA T I J R ca a n) {t s c : Nat} (ht : t < 4) (hs : s < 4) (hc : c ≤ 40) : KA T (u2 (u2 (u2 I (ca (5 + t)) 0 0) (ca (5 + t)) 1 (nI s)) (ca (5 + t)) 2 (nI c)) (va_up J (ca (9 + t)) (fl (J (ca (9 + t))) 0 40)) R ca (u2 (u2 a 4 t (nI s)) 5 t (nI c)) (va_up n 6 (zr t c (n 6))) := by
  have hC := k.1
  have h : ExL T T I (u2 (u2 (u2 I (ca (5 + t)) 0 0) (ca (5 + t)) 1 (nI s)) (ca (5 + t)) 2 (nI c)) J (va_up J (ca (9 + t)) (fl (J (ca (9 + t))) 0 40)) R R ca [5 + t, 9 + t] :=
    ((((ExL.rf (fun i hi => by simp at hi; omega)).pI (by simp) 0 0).pI (by simp) 1 _).pI (by simp) 2 _).vJ (by simp) _
  refine k.onT h (fun j hj => by simp at hj; omega) (fun u hu => ?_) (by rw [u2_rown _ _ _ _ (by decide), u2_rown _ _ _ _ (by decide)]) (fun r hr => by rw [u2_rown _ _ _ _ (by omega), u2_rown _ _ _ _ (by omega)]) (vu_n _ _ (by decide))
  by_cases e : u = t
  · subst e
    refine Or.inr ⟨by rw [u2_k _ _ _ _ (by decide), u2_k _ _ _ _ (by decide), u2_s], c, s, hc, hs, u2_s _ _ _ _, u2_s _ _ _ _, by rw [u2_a _ _ _ _ (by decide), u2_s], by rw [u2_k _ _ _ _ (by decide), u2_s], fun j hj => ?_⟩
    rw [vu_s, vu_s]
    show (if j < 40 then (0 : Int64) else _) = if 40 * u ≤ 40 * u + j ∧ 40 * u + j < 40 * u + c then 0 else _
    rw [if_pos (by omega), if_pos (by omega)]
  · have n5 : ca (5 + u) ≠ ca (5 + t) := hC.ne (5 + u) (5 + t) (by omega) (by omega) (by omega)
    have n9 : ca (9 + u) ≠ ca (9 + t) := hC.ne (9 + u) (9 + t) (by omega) (by omega) (by omega)
    rw [u2_rown _ _ _ _ n5, u2_rown _ _ _ _ n5, u2_rown _ _ _ _ n5, vu_n _ _ n9, u2_k _ _ _ _ e, u2_a _ _ _ _ (by decide), u2_a _ _ _ _ (by decide), u2_k _ _ _ _ e, vu_s]
    rcases k.2.2.2.1 u hu with z | ⟨z1, c2, s2, z2, z3, z4, z5, z6, z7, z8⟩
    · exact Or.inl z
    · refine Or.inr ⟨z1, c2, s2, z2, z3, z4, z5, z6, z7, fun j hj => ?_⟩
      rw [z8 j hj]
      show _ = if _ then _ else _
      rw [if_neg (by omega)]
/-- numbers of a tray change -/
theorem KA.nums {T : gSh} {I : gI} {J : gJ} {R : gR} {ca : Nat → Nat} {a : gI} {n : gJ} (k : KA T I J R ca a n) {t : Nat} (ht : t < 4) {f g : Nat → Int64} (hf : ∀ j : Nat, (j : Int) < (a 5 t).toInt → f j = g (40 * t + j)) (hg : ∀ q, ¬ (40 * t ≤ q ∧ q < 40 * t + 40) → g q = n 6 q) : KA T I (va_up J (ca (9 + t)) f) R ca a (va_up n 6 g) := by
  have hC := k.1
  have h : ExL T T I I J (va_up J (ca (9 + t)) f) R R ca [9 + t] := (ExL.rf (fun i hi => by simp at hi; omega)).vJ (by simp) _
  refine k.onT h (fun j hj => by simp at hj; omega) (fun u hu => ?_) rfl (fun r hr => rfl) (vu_n _ _ (by decide))
  rcases k.2.2.2.1 u hu with z | ⟨z1, c2, s2, z2, z3, z4, z5, z6, z7, z8⟩
  · exact Or.inl z
  · refine Or.inr ⟨z1, c2, s2, z2, z3, z4, z5, z6, z7, fun j hj => ?_⟩
    rw [vu_s]
    by_cases e : u = t
    · subst e; rw [vu_s]; exact hf j (by rw [z4, nI_toInt (by omega)]; omega)
    · rw [vu_n _ _ (hC.ne (9 + u) (9 + t) (by omega) (by omega) (by omega)), hg _ (by omega)]; exact z8 j hj
set_option maxRecDepth 100000 in
set_option maxHeartbeats 4000000 in
theorem c_statusOfNewTray (l : Launch) {T : gSh} {I : gI} {J : gJ} {R : gR} (t s c : Int32) : Con l yX11_statusOfNewTray wsX11_statusOfNewTray ({ frames := 1, cells := 0, slots := 0, locals := 20 }) [.int t, .int s, .int c] T I J R (gP (some (.int (nI (stTray t s c)))) T I J R) := by
  refine Con.mk (cc := cX11_statusOfNewTray) (maxL := 3) (ret := (some .int)) (by decide) rfl (Nat.le_of_ble_eq_true rfl) ?_
  intro E hE C Z hnm
  subst hE
  change WP E 3 0 0 T I J R 0 [(0, .int t), (1, .int s), (2, .int c)] []
  refine wp_iload_n C 0 dX11_statusOfNewTray_0 rfl rfl ?_
  refine wp_cSi C (As := [.int t]) (rest := []) dX11_statusOfNewTray_1 kX11_statusOfNewTray_60 (c_isTray _ t) rfl (Nat.le_of_ble_eq_true rfl) (by decide) (by decide) ?_
  refine wp_if_eq C 16 dX11_statusOfNewTray_4 (by decide) (fun c4 => ?_) (fun c4 => ?_)
  · have c4 : ¬ (0 ≤ t.toInt ∧ t.toInt < 4) := fun z => absurd ((bI_t z).symm.trans c4) (by decide)
    refine wp_iconst C 1 dX11_statusOfNewTray_16 (by decide) ?_
    exact wp_iret C Z dX11_statusOfNewTray_17 (by decide) (by decide) (by rw [show stTray t s c = 1 from by simp only [stTray]; (repeat' split) <;> omega]; exact gP_rf)
  · have c4 : (0 ≤ t.toInt ∧ t.toInt < 4) := Classical.byContradiction (fun z => c4 (bI_f z))
    refine wp_iload_n C 1 dX11_statusOfNewTray_7 rfl rfl ?_
    refine wp_if_lt C 16 dX11_statusOfNewTray_8 (by decide) (fun c8 => ?_) (fun c8 => ?_)
    · have c8 : s.toInt < 0 := by have hcv := p_lt c8; exact hcv
      refine wp_iconst C 1 dX11_statusOfNewTray_16 (by decide) ?_
      exact wp_iret C Z dX11_statusOfNewTray_17 (by decide) (by decide) (by rw [show stTray t s c = 1 from by simp only [stTray]; (repeat' split) <;> omega]; exact gP_rf)
    · have c8 : ¬ s.toInt < 0 := by have hcv := n_lt c8; exact hcv
      refine wp_iload_n C 1 dX11_statusOfNewTray_11 rfl rfl ?_
      refine wp_iconst C 4 dX11_statusOfNewTray_12 (by decide) ?_
      refine wp_icmp_lt C 18 dX11_statusOfNewTray_13 (by decide) (fun c13 => ?_) (fun c13 => ?_)
      · have c13 : s.toInt < 4 := by have hcv := p_lt c13; exact hcv
        refine wp_iload_n C 2 dX11_statusOfNewTray_18 rfl rfl ?_
        refine wp_bipush C 40 dX11_statusOfNewTray_19 (by decide) ?_
        refine wp_icmp_le C 26 dX11_statusOfNewTray_21 (by decide) (fun c21 => ?_) (fun c21 => ?_)
        · have c21 : c.toInt ≤ 40 := by have hcv := p_le c21; exact hcv
          refine wp_iload_n C 2 dX11_statusOfNewTray_26 rfl rfl ?_
          refine wp_if_ge C 35 dX11_statusOfNewTray_27 (by decide) (fun c27 => ?_) (fun c27 => ?_)
          · have c27 : 0 ≤ c.toInt := by have hcv := p_le c27; exact hcv
            refine wp_iconst C 0 dX11_statusOfNewTray_35 (by decide) ?_
            exact wp_iret C Z dX11_statusOfNewTray_36 (by decide) (by decide) (by rw [show stTray t s c = 0 from by simp only [stTray]; (repeat' split) <;> omega]; exact gP_rf)
          · have c27 : ¬ 0 ≤ c.toInt := by have hcv := n_le c27; exact hcv
            refine wp_bipush C 6 dX11_statusOfNewTray_30 (by decide) ?_
            refine wp_goto C 36 dX11_statusOfNewTray_32 (by decide) ?_
            exact wp_iret C Z dX11_statusOfNewTray_36 (by decide) (by decide) (by rw [show stTray t s c = 6 from by simp only [stTray]; (repeat' split) <;> omega]; exact gP_rf)
        · have c21 : ¬ c.toInt ≤ 40 := by have hcv := n_le c21; exact hcv
          refine wp_iconst C 2 dX11_statusOfNewTray_24 (by decide) ?_
          exact wp_iret C Z dX11_statusOfNewTray_25 (by decide) (by decide) (by rw [show stTray t s c = 2 from by simp only [stTray]; (repeat' split) <;> omega]; exact gP_rf)
      · have c13 : ¬ s.toInt < 4 := by have hcv := n_lt c13; exact hcv
        refine wp_iconst C 1 dX11_statusOfNewTray_16 (by decide) ?_
        exact wp_iret C Z dX11_statusOfNewTray_17 (by decide) (by decide) (by rw [show stTray t s c = 1 from by simp only [stTray]; (repeat' split) <;> omega]; exact gP_rf)
set_option maxRecDepth 100000 in
set_option maxHeartbeats 4000000 in
theorem c_hasPlace (l : Launch) {T : gSh} {I : gI} {J : gJ} {R : gR} {x : Nat} (hx : OB T x 10) (k : Int32) : Con l yX10_hasPlace wsX10_hasPlace ({ frames := 0, cells := 0, slots := 0, locals := 0 }) [.ref x, .int k] T I J R (gP (some (.int (bI (0 ≤ k.toInt ∧ k.toInt < (I x 2).toInt)))) T I J R) := by
  refine Con.mk (cc := cX10_hasPlace) (maxL := 2) (ret := (some .boolean)) (by decide) rfl (Nat.le_of_ble_eq_true rfl) ?_
  intro E hE C Z hnm
  subst hE
  change WP E 2 0 0 T I J R 0 [(0, .ref x), (1, .int k)] []
  refine wp_iload_n C 1 dX10_hasPlace_0 rfl rfl ?_
  refine wp_if_lt C 16 dX10_hasPlace_1 (by decide) (fun c1 => ?_) (fun c1 => ?_)
  · have c1 : k.toInt < 0 := by have hcv := p_lt c1; exact hcv
    refine wp_iconst C 0 dX10_hasPlace_16 (by decide) ?_
    exact wp_zret C Z dX10_hasPlace_17 (by decide) (by decide) (by decide) (by rw [bI_f (by omega)]; exact gP_rf)
  · have c1 : ¬ k.toInt < 0 := by have hcv := n_lt c1; exact hcv
    refine wp_iload_n C 1 dX10_hasPlace_4 rfl rfl ?_
    refine wp_aload_n C 0 dX10_hasPlace_5 rfl rfl ?_
    refine wp_getI C dX10_hasPlace_6 fX10_hasPlace_19 hx ?_
    refine wp_icmp_ge C 16 dX10_hasPlace_9 (by decide) (fun c9 => ?_) (fun c9 => ?_)
    · have c9 : (I x 2).toInt ≤ k.toInt := by have hcv := p_le c9; exact hcv
      refine wp_iconst C 0 dX10_hasPlace_16 (by decide) ?_
      exact wp_zret C Z dX10_hasPlace_17 (by decide) (by decide) (by decide) (by rw [bI_f (by omega)]; exact gP_rf)
    · have c9 : ¬ (I x 2).toInt ≤ k.toInt := by have hcv := n_le c9; exact hcv
      refine wp_iconst C 1 dX10_hasPlace_12 (by decide) ?_
      refine wp_goto C 17 dX10_hasPlace_13 (by decide) ?_
      exact wp_zret C Z dX10_hasPlace_17 (by decide) (by decide) (by decide) (by rw [bI_t (by omega)]; exact gP_rf)
set_option maxRecDepth 100000 in
set_option maxHeartbeats 4000000 in
theorem c_hasPlaces (l : Launch) {T : gSh} {I : gI} {J : gJ} {R : gR} {x : Nat} (hx : OB T x 10) (hl : 0 ≤ (I x 2).toInt ∧ (I x 2).toInt ≤ 40) (k c : Int32) : Con l yX10_hasPlaces wsX10_hasPlaces ({ frames := 0, cells := 0, slots := 0, locals := 0 }) [.ref x, .int k, .int c] T I J R (gP (some (.int (bI (0 ≤ k.toInt ∧ k.toInt ≤ (I x 2).toInt ∧ c.toInt ≤ (I x 2).toInt - k.toInt)))) T I J R) := by
  refine Con.mk (cc := cX10_hasPlaces) (maxL := 3) (ret := (some .boolean)) (by decide) rfl (Nat.le_of_ble_eq_true rfl) ?_
  intro E hE C Z hnm
  subst hE
  change WP E 3 0 0 T I J R 0 [(0, .ref x), (1, .int k), (2, .int c)] []
  refine wp_iload_n C 1 dX10_hasPlaces_0 rfl rfl ?_
  refine wp_if_lt C 26 dX10_hasPlaces_1 (by decide) (fun c1 => ?_) (fun c1 => ?_)
  · have c1 : k.toInt < 0 := by have hcv := p_lt c1; exact hcv
    refine wp_iconst C 0 dX10_hasPlaces_26 (by decide) ?_
    exact wp_zret C Z dX10_hasPlaces_27 (by decide) (by decide) (by decide) (by rw [bI_f (by omega)]; exact gP_rf)
  · have c1 : ¬ k.toInt < 0 := by have hcv := n_lt c1; exact hcv
    refine wp_iload_n C 1 dX10_hasPlaces_4 rfl rfl ?_
    refine wp_aload_n C 0 dX10_hasPlaces_5 rfl rfl ?_
    refine wp_getI C dX10_hasPlaces_6 fX10_hasPlaces_19 hx ?_
    refine wp_icmp_gt C 26 dX10_hasPlaces_9 (by decide) (fun c9 => ?_) (fun c9 => ?_)
    · have c9 : (I x 2).toInt < k.toInt := by have hcv := p_lt c9; exact hcv
      refine wp_iconst C 0 dX10_hasPlaces_26 (by decide) ?_
      exact wp_zret C Z dX10_hasPlaces_27 (by decide) (by decide) (by decide) (by rw [bI_f (by omega)]; exact gP_rf)
    · have c9 : ¬ (I x 2).toInt < k.toInt := by have hcv := n_lt c9; exact hcv
      refine wp_iload_n C 2 dX10_hasPlaces_12 rfl rfl ?_
      refine wp_aload_n C 0 dX10_hasPlaces_13 rfl rfl ?_
      refine wp_getI C dX10_hasPlaces_14 fX10_hasPlaces_19 hx ?_
      refine wp_iload_n C 1 dX10_hasPlaces_17 rfl rfl ?_
      refine wp_isub C dX10_hasPlaces_18 ?_
      refine wp_icmp_gt C 26 dX10_hasPlaces_19 (by decide) (fun c19 => ?_) (fun c19 => ?_)
      · have c19 : (I x 2).toInt - k.toInt < c.toInt := by have hcv := p_lt c19; rw [sub32 (by omega) (by omega)] at hcv; exact hcv
        refine wp_iconst C 0 dX10_hasPlaces_26 (by decide) ?_
        exact wp_zret C Z dX10_hasPlaces_27 (by decide) (by decide) (by decide) (by rw [bI_f (by omega)]; exact gP_rf)
      · have c19 : ¬ (I x 2).toInt - k.toInt < c.toInt := by have hcv := n_lt c19; rw [sub32 (by omega) (by omega)] at hcv; exact hcv
        refine wp_iconst C 1 dX10_hasPlaces_22 (by decide) ?_
        refine wp_goto C 27 dX10_hasPlaces_23 (by decide) ?_
        exact wp_zret C Z dX10_hasPlaces_27 (by decide) (by decide) (by decide) (by rw [bI_t (by omega)]; exact gP_rf)
set_option maxRecDepth 100000 in
set_option maxHeartbeats 4000000 in
theorem c_layOut (l : Launch) {T : gSh} {I : gI} {J : gJ} {R : gR} {ca : Nat → Nat} (hC : CO T R ca) {t : Nat} (ht : t < 4) (s c : Int32) : Con l yX10_layOut wsX10_layOut ({ frames := 1, cells := 0, slots := 0, locals := 24 }) [.ref (ca (5 + t)), .int s, .int c] T I J R (gP none T (u2 (u2 (u2 I (ca (5 + t)) 0 0) (ca (5 + t)) 1 s) (ca (5 + t)) 2 c) (va_up J (ca (9 + t)) (fl (J (ca (9 + t))) 0 40)) R) := by
  refine Con.mk (cc := cX10_layOut) (maxL := 3) (ret := none) (by decide) rfl (Nat.le_of_ble_eq_true rfl) ?_
  intro E hE C Z hnm
  subst hE
  change WP E 3 0 0 T I J R 0 [(0, .ref (ca (5 + t))), (1, .int s), (2, .int c)] []
  refine wp_aload_n C 0 dX10_layOut_0 rfl rfl ?_
  refine wp_iconst C 0 dX10_layOut_1 (by decide) ?_
  refine wp_putZ C dX10_layOut_2 pX10_layOut_9 (fun h => nomatch h) (hC.tob ht) (by decide) ?_
  refine wp_aload_n C 0 dX10_layOut_5 rfl rfl ?_
  refine wp_iload_n C 1 dX10_layOut_6 rfl rfl ?_
  refine wp_putI C dX10_layOut_7 pX10_layOut_15 (fun h => nomatch h) (hC.tob ht) ?_
  refine wp_aload_n C 0 dX10_layOut_10 rfl rfl ?_
  refine wp_iload_n C 2 dX10_layOut_11 rfl rfl ?_
  refine wp_putI C dX10_layOut_12 pX10_layOut_19 (fun h => nomatch h) (hC.tob ht) ?_
  refine wp_aload_n C 0 dX10_layOut_15 rfl rfl ?_
  refine wp_getR C dX10_layOut_16 fX10_layOut_22 (hC.tob ht) (hC.tnum ht) ?_
  refine wp_lconst C 0 dX10_layOut_19 (by decide) ?_
  refine wp_cSv C (As := [.ref (ca (9 + t)), .long 0]) (rest := []) dX10_layOut_20 kX10_layOut_26 (c_fillJ _ (hC.tar ht) (by decide) 0) rfl (Nat.le_of_ble_eq_true rfl) (by decide) (by decide) ?_
  exact wp_vret C Z dX10_layOut_23 (by decide) (by decide) gP_rf
set_option maxRecDepth 100000 in
set_option maxHeartbeats 4000000 in
theorem c_statusOfPlace (l : Launch) {T : gSh} {I : gI} {J : gJ} {R : gR} {ca : Nat → Nat} {a : gI} {n : gJ} (hK : KA T I J R ca a n) (t k : Int32) : Con l yX11_statusOfPlace wsX11_statusOfPlace ({ frames := 1, cells := 0, slots := 0, locals := 21 }) [.ref (ca 0), .int t, .int k] T I J R (gP (some (.int (nI (stPlace a t k)))) T I J R) := by
  refine Con.mk (cc := cX11_statusOfPlace) (maxL := 3) (ret := (some .int)) (by decide) rfl (Nat.le_of_ble_eq_true rfl) ?_
  intro E hE C Z hnm
  subst hE
  change WP E 3 0 0 T I J R 0 [(0, .ref (ca 0)), (1, .int t), (2, .int k)] []
  refine wp_iload_n C 1 dX11_statusOfPlace_0 rfl rfl ?_
  refine wp_cSi C (As := [.int t]) (rest := []) dX11_statusOfPlace_1 kX11_statusOfPlace_60 (c_isTray _ t) rfl (Nat.le_of_ble_eq_true rfl) (by decide) (by decide) ?_
  refine wp_if_ne C 9 dX11_statusOfPlace_4 (by decide) (fun c4 => ?_) (fun c4 => ?_)
  · have c4 : (0 ≤ t.toInt ∧ t.toInt < 4) := Classical.byContradiction (fun z => c4 (bI_f z))
    have ktt := hK.2.2.2.1.ar (t := t.toInt.toNat) (by omega)
    refine wp_aload_n C 0 dX11_statusOfPlace_9 rfl rfl ?_
    refine wp_getR C dX11_statusOfPlace_10 fX11_statusOfPlace_11 (hK.1.ob 0 (by decide) rfl) (hK.1.rf 0 0 1 (by decide)) ?_
    refine wp_iload_n C 1 dX11_statusOfPlace_13 rfl rfl ?_
    refine wp_aald C RX10 dX11_statusOfPlace_14 (hK.1.ar 1 (by decide) rfl) (by decide) rfl (j := t.toInt.toNat) (nI_nat (by omega)) (by omega) (by decide) (hK.1.tray (by omega)) ?_
    refine wp_getI C dX11_statusOfPlace_15 fX11_statusOfPlace_78 (hK.1.tob (by omega)) ?_
    refine wp_if_eq C 23 dX11_statusOfPlace_18 (by decide) (fun c18 => ?_) (fun c18 => ?_)
    · have c18 : (I (ca (5 + t.toInt.toNat)) 0).toInt = 0 := by have hcv := p_eq c18; exact hcv
      refine wp_aload_n C 0 dX11_statusOfPlace_23 rfl rfl ?_
      refine wp_getR C dX11_statusOfPlace_24 fX11_statusOfPlace_11 (hK.1.ob 0 (by decide) rfl) (hK.1.rf 0 0 1 (by decide)) ?_
      refine wp_iload_n C 1 dX11_statusOfPlace_27 rfl rfl ?_
      refine wp_aald C RX10 dX11_statusOfPlace_28 (hK.1.ar 1 (by decide) rfl) (by decide) rfl (j := t.toInt.toNat) (nI_nat (by omega)) (by omega) (by decide) (hK.1.tray (by omega)) ?_
      refine wp_iload_n C 2 dX11_statusOfPlace_29 rfl rfl ?_
      refine wp_cVi C (As := [.int k]) (rest := []) dX11_statusOfPlace_30 kX11_statusOfPlace_82 (hK.1.tob (by omega)) (c_hasPlace _ (hK.1.tob (by omega)) k) rfl (Nat.le_of_ble_eq_true rfl) (by decide) (by decide) ?_
      refine wp_if_eq C 40 dX11_statusOfPlace_33 (by decide) (fun c33 => ?_) (fun c33 => ?_)
      · have c33 : ¬ (0 ≤ k.toInt ∧ k.toInt < (I (ca (5 + t.toInt.toNat)) 2).toInt) := fun z => absurd ((bI_t z).symm.trans c33) (by decide)
        refine wp_iconst C 5 dX11_statusOfPlace_40 (by decide) ?_
        exact wp_iret C Z dX11_statusOfPlace_41 (by decide) (by decide) (by rw [show stPlace a t k = 5 from by simp only [stPlace]; (repeat' split) <;> omega]; exact gP_rf)
      · have c33 : (0 ≤ k.toInt ∧ k.toInt < (I (ca (5 + t.toInt.toNat)) 2).toInt) := Classical.byContradiction (fun z => c33 (bI_f z))
        refine wp_iconst C 0 dX11_statusOfPlace_36 (by decide) ?_
        refine wp_goto C 41 dX11_statusOfPlace_37 (by decide) ?_
        exact wp_iret C Z dX11_statusOfPlace_41 (by decide) (by decide) (by rw [show stPlace a t k = 0 from by simp only [stPlace]; (repeat' split) <;> omega]; exact gP_rf)
    · have c18 : ¬ (I (ca (5 + t.toInt.toNat)) 0).toInt = 0 := by have hcv := n_eq c18; exact hcv
      refine wp_iconst C 4 dX11_statusOfPlace_21 (by decide) ?_
      exact wp_iret C Z dX11_statusOfPlace_22 (by decide) (by decide) (by rw [show stPlace a t k = 4 from by simp only [stPlace]; (repeat' split) <;> omega]; exact gP_rf)
  · have c4 : ¬ (0 ≤ t.toInt ∧ t.toInt < 4) := fun z => absurd ((bI_t z).symm.trans c4) (by decide)
    refine wp_iconst C 1 dX11_statusOfPlace_7 (by decide) ?_
    exact wp_iret C Z dX11_statusOfPlace_8 (by decide) (by decide) (by rw [show stPlace a t k = 1 from by simp only [stPlace]; (repeat' split) <;> omega]; exact gP_rf)
set_option maxRecDepth 100000 in
set_option maxHeartbeats 4000000 in
theorem c_statusOfPour (l : Launch) {T : gSh} {I : gI} {J : gJ} {R : gR} {ca : Nat → Nat} {a : gI} {n : gJ} (hK : KA T I J R ca a n) (t i u j c : Int32) : Con l yX11_statusOfPour wsX11_statusOfPour ({ frames := 1, cells := 0, slots := 0, locals := 22 }) [.ref (ca 0), .int t, .int i, .int u, .int j, .int c] T I J R (gP (some (.int (nI (stPour a t i u j c)))) T I J R) := by
  refine Con.mk (cc := cX11_statusOfPour) (maxL := 8) (ret := (some .int)) (by decide) rfl (Nat.le_of_ble_eq_true rfl) ?_
  intro E hE C Z hnm
  subst hE
  change WP E 8 0 0 T I J R 0 [(0, .ref (ca 0)), (1, .int t), (2, .int i), (3, .int u), (4, .int j), (5, .int c)] []
  have bi := i_bd i
  have bj := i_bd j
  have bc := i_bd c
  refine wp_iload_n C 1 dX11_statusOfPour_0 rfl rfl ?_
  refine wp_cSi C (As := [.int t]) (rest := []) dX11_statusOfPour_1 kX11_statusOfPour_60 (c_isTray _ t) rfl (Nat.le_of_ble_eq_true rfl) (by decide) (by decide) ?_
  refine wp_if_eq C 14 dX11_statusOfPour_4 (by decide) (fun c4 => ?_) (fun c4 => ?_)
  · have c4 : ¬ (0 ≤ t.toInt ∧ t.toInt < 4) := fun z => absurd ((bI_t z).symm.trans c4) (by decide)
    refine wp_iconst C 1 dX11_statusOfPour_14 (by decide) ?_
    exact wp_iret C Z dX11_statusOfPour_15 (by decide) (by decide) (by rw [show stPour a t i u j c = 1 from by simp only [stPour]; (repeat' split) <;> omega]; exact gP_rf)
  · have c4 : (0 ≤ t.toInt ∧ t.toInt < 4) := Classical.byContradiction (fun z => c4 (bI_f z))
    refine wp_iload_n C 3 dX11_statusOfPour_7 rfl rfl ?_
    refine wp_cSi C (As := [.int u]) (rest := []) dX11_statusOfPour_8 kX11_statusOfPour_60 (c_isTray _ u) rfl (Nat.le_of_ble_eq_true rfl) (by decide) (by decide) ?_
    refine wp_if_ne C 16 dX11_statusOfPour_11 (by decide) (fun c11 => ?_) (fun c11 => ?_)
    · have c11 : (0 ≤ u.toInt ∧ u.toInt < 4) := Classical.byContradiction (fun z => c11 (bI_f z))
      have ktt := hK.2.2.2.1.ar (t := t.toInt.toNat) (by omega)
      have ktu := hK.2.2.2.1.ar (t := u.toInt.toNat) (by omega)
      refine wp_aload_n C 0 dX11_statusOfPour_16 rfl rfl ?_
      refine wp_getR C dX11_statusOfPour_17 fX11_statusOfPour_11 (hK.1.ob 0 (by decide) rfl) (hK.1.rf 0 0 1 (by decide)) ?_
      refine wp_iload_n C 1 dX11_statusOfPour_20 rfl rfl ?_
      refine wp_aald C RX10 dX11_statusOfPour_21 (hK.1.ar 1 (by decide) rfl) (by decide) rfl (j := t.toInt.toNat) (nI_nat (by omega)) (by omega) (by decide) (hK.1.tray (by omega)) ?_
      refine wp_astore C [(6, .ref (ca (5 + t.toInt.toNat))), (0, .ref (ca 0)), (1, .int t), (2, .int i), (3, .int u), (4, .int j), (5, .int c)] dX11_statusOfPour_22 (by decide) rfl ?_
      refine wp_aload_n C 1 dX11_statusOfPour_24 rfl rfl ?_
      refine wp_getR C dX11_statusOfPour_25 fX11_statusOfPour_11 (hK.1.ob 0 (by decide) rfl) (hK.1.rf 0 0 1 (by decide)) ?_
      refine wp_iload_n C 4 dX11_statusOfPour_28 rfl rfl ?_
      refine wp_aald C RX10 dX11_statusOfPour_29 (hK.1.ar 1 (by decide) rfl) (by decide) rfl (j := u.toInt.toNat) (nI_nat (by omega)) (by omega) (by decide) (hK.1.tray (by omega)) ?_
      refine wp_astore C [(7, .ref (ca (5 + u.toInt.toNat))), (6, .ref (ca (5 + t.toInt.toNat))), (0, .ref (ca 0)), (1, .int t), (2, .int i), (3, .int u), (4, .int j), (5, .int c)] dX11_statusOfPour_30 (by decide) rfl ?_
      refine wp_aload C 1 dX11_statusOfPour_32 rfl ?_
      refine wp_getI C dX11_statusOfPour_34 fX11_statusOfPour_78 (hK.1.tob (by omega)) ?_
      refine wp_if_ne C 48 dX11_statusOfPour_37 (by decide) (fun c37 => ?_) (fun c37 => ?_)
      · have c37 : ¬ (I (ca (5 + t.toInt.toNat)) 0).toInt = 0 := by have hcv := n_eq c37; exact hcv
        refine wp_iconst C 4 dX11_statusOfPour_48 (by decide) ?_
        exact wp_iret C Z dX11_statusOfPour_49 (by decide) (by decide) (by rw [show stPour a t i u j c = 4 from by simp only [stPour]; (repeat' split) <;> omega]; exact gP_rf)
      · have c37 : (I (ca (5 + t.toInt.toNat)) 0).toInt = 0 := by have hcv := p_eq c37; exact hcv
        refine wp_aload C 0 dX11_statusOfPour_40 rfl ?_
        refine wp_getI C dX11_statusOfPour_42 fX11_statusOfPour_78 (hK.1.tob (by omega)) ?_
        refine wp_if_eq C 50 dX11_statusOfPour_45 (by decide) (fun c45 => ?_) (fun c45 => ?_)
        · have c45 : (I (ca (5 + u.toInt.toNat)) 0).toInt = 0 := by have hcv := p_eq c45; exact hcv
          refine wp_aload C 1 dX11_statusOfPour_50 rfl ?_
          refine wp_getI C dX11_statusOfPour_52 fX11_statusOfPour_95 (hK.1.tob (by omega)) ?_
          refine wp_aload C 0 dX11_statusOfPour_55 rfl ?_
          refine wp_getI C dX11_statusOfPour_57 fX11_statusOfPour_95 (hK.1.tob (by omega)) ?_
          refine wp_icmp_eq C 66 dX11_statusOfPour_60 (by decide) (fun c60 => ?_) (fun c60 => ?_)
          · have c60 : (I (ca (5 + t.toInt.toNat)) 1).toInt = (I (ca (5 + u.toInt.toNat)) 1).toInt := by have hcv := p_eq c60; exact hcv
            refine wp_iload C 7 dX11_statusOfPour_66 rfl ?_
            refine wp_if_ge C 74 dX11_statusOfPour_68 (by decide) (fun c68 => ?_) (fun c68 => ?_)
            · have c68 : 0 ≤ c.toInt := by have hcv := p_le c68; exact hcv
              refine wp_aload C 1 dX11_statusOfPour_74 rfl ?_
              refine wp_iload_n C 4 dX11_statusOfPour_76 rfl rfl ?_
              refine wp_iload C 7 dX11_statusOfPour_77 rfl ?_
              refine wp_cVi C (As := [.int i, .int c]) (rest := []) dX11_statusOfPour_79 kX11_statusOfPour_98 (hK.1.tob (by omega)) (c_hasPlaces _ (hK.1.tob (by omega)) (by omega) i c) rfl (Nat.le_of_ble_eq_true rfl) (by decide) (by decide) ?_
              refine wp_if_eq C 101 dX11_statusOfPour_82 (by decide) (fun c82 => ?_) (fun c82 => ?_)
              · have c82 : ¬ (0 ≤ i.toInt ∧ i.toInt ≤ (I (ca (5 + t.toInt.toNat)) 2).toInt ∧ c.toInt ≤ (I (ca (5 + t.toInt.toNat)) 2).toInt - i.toInt) := fun z => absurd ((bI_t z).symm.trans c82) (by decide)
                refine wp_iconst C 5 dX11_statusOfPour_101 (by decide) ?_
                exact wp_iret C Z dX11_statusOfPour_102 (by decide) (by decide) (by rw [show stPour a t i u j c = 5 from by simp only [stPour]; (repeat' split) <;> omega]; exact gP_rf)
              · have c82 : (0 ≤ i.toInt ∧ i.toInt ≤ (I (ca (5 + t.toInt.toNat)) 2).toInt ∧ c.toInt ≤ (I (ca (5 + t.toInt.toNat)) 2).toInt - i.toInt) := Classical.byContradiction (fun z => c82 (bI_f z))
                refine wp_aload C 0 dX11_statusOfPour_85 rfl ?_
                refine wp_iload C 6 dX11_statusOfPour_87 rfl ?_
                refine wp_iload C 7 dX11_statusOfPour_89 rfl ?_
                refine wp_cVi C (As := [.int j, .int c]) (rest := []) dX11_statusOfPour_91 kX11_statusOfPour_98 (hK.1.tob (by omega)) (c_hasPlaces _ (hK.1.tob (by omega)) (by omega) j c) rfl (Nat.le_of_ble_eq_true rfl) (by decide) (by decide) ?_
                refine wp_if_eq C 101 dX11_statusOfPour_94 (by decide) (fun c94 => ?_) (fun c94 => ?_)
                · have c94 : ¬ (0 ≤ j.toInt ∧ j.toInt ≤ (I (ca (5 + u.toInt.toNat)) 2).toInt ∧ c.toInt ≤ (I (ca (5 + u.toInt.toNat)) 2).toInt - j.toInt) := fun z => absurd ((bI_t z).symm.trans c94) (by decide)
                  refine wp_iconst C 5 dX11_statusOfPour_101 (by decide) ?_
                  exact wp_iret C Z dX11_statusOfPour_102 (by decide) (by decide) (by rw [show stPour a t i u j c = 5 from by simp only [stPour]; (repeat' split) <;> omega]; exact gP_rf)
                · have c94 : (0 ≤ j.toInt ∧ j.toInt ≤ (I (ca (5 + u.toInt.toNat)) 2).toInt ∧ c.toInt ≤ (I (ca (5 + u.toInt.toNat)) 2).toInt - j.toInt) := Classical.byContradiction (fun z => c94 (bI_f z))
                  refine wp_iconst C 0 dX11_statusOfPour_97 (by decide) ?_
                  refine wp_goto C 102 dX11_statusOfPour_98 (by decide) ?_
                  exact wp_iret C Z dX11_statusOfPour_102 (by decide) (by decide) (by rw [show stPour a t i u j c = 0 from by simp only [stPour]; (repeat' split) <;> omega]; exact gP_rf)
            · have c68 : ¬ 0 ≤ c.toInt := by have hcv := n_le c68; exact hcv
              refine wp_bipush C 6 dX11_statusOfPour_71 (by decide) ?_
              exact wp_iret C Z dX11_statusOfPour_73 (by decide) (by decide) (by rw [show stPour a t i u j c = 6 from by simp only [stPour]; (repeat' split) <;> omega]; exact gP_rf)
          · have c60 : ¬ (I (ca (5 + t.toInt.toNat)) 1).toInt = (I (ca (5 + u.toInt.toNat)) 1).toInt := by have hcv := n_eq c60; exact hcv
            refine wp_bipush C 11 dX11_statusOfPour_63 (by decide) ?_
            exact wp_iret C Z dX11_statusOfPour_65 (by decide) (by decide) (by rw [show stPour a t i u j c = 11 from by simp only [stPour]; (repeat' split) <;> omega]; exact gP_rf)
        · have c45 : ¬ (I (ca (5 + u.toInt.toNat)) 0).toInt = 0 := by have hcv := n_eq c45; exact hcv
          refine wp_iconst C 4 dX11_statusOfPour_48 (by decide) ?_
          exact wp_iret C Z dX11_statusOfPour_49 (by decide) (by decide) (by rw [show stPour a t i u j c = 4 from by simp only [stPour]; (repeat' split) <;> omega]; exact gP_rf)
    · have c11 : ¬ (0 ≤ u.toInt ∧ u.toInt < 4) := fun z => absurd ((bI_t z).symm.trans c11) (by decide)
      refine wp_iconst C 1 dX11_statusOfPour_14 (by decide) ?_
      exact wp_iret C Z dX11_statusOfPour_15 (by decide) (by decide) (by rw [show stPour a t i u j c = 1 from by simp only [stPour]; (repeat' split) <;> omega]; exact gP_rf)
theorem stTray_le (t s c : Int32) : stTray t s c ≤ 6 := by simp only [stTray]; (repeat' split) <;> omega
theorem stPlace_le (a : gI) (t k : Int32) : stPlace a t k ≤ 5 := by simp only [stPlace]; (repeat' split) <;> omega
theorem stPour_le (a : gI) (t i u j c : Int32) : stPour a t i u j c ≤ 11 := by simp only [stPour]; (repeat' split) <;> omega
set_option maxRecDepth 100000 in
set_option maxHeartbeats 4000000 in
theorem c_tray (l : Launch) {T : gSh} {I : gI} {J : gJ} {R : gR} {ca : Nat → Nat} {a : gI} {n : gJ} (hK : KA T I J R ca a n) (t s c : Int32) : Con l yX11_tray wsX11_tray ({ frames := 2, cells := 0, slots := 0, locals := 46 }) [.ref (ca 0), .int t, .int s, .int c] T I J R (PQ T I J R ca (.int (bI (stTray t s c = 0))) (aTray a t s c) (nTray n t s c)) := by
  refine Con.mk (cc := cX11_tray) (maxL := 4) (ret := (some .boolean)) (by decide) rfl (Nat.le_of_ble_eq_true rfl) ?_
  intro E hE C Z hnm
  subst hE
  change WP E 4 0 0 T I J R 0 [(0, .ref (ca 0)), (1, .int t), (2, .int s), (3, .int c)] []
  refine wp_aload_n C 0 dX11_tray_0 rfl rfl ?_
  refine wp_iload_n C 1 dX11_tray_1 rfl rfl ?_
  refine wp_iload_n C 2 dX11_tray_2 rfl rfl ?_
  refine wp_iload_n C 3 dX11_tray_3 rfl rfl ?_
  refine wp_cSi C (As := [.int t, .int s, .int c]) (rest := [.ref (ca 0)]) dX11_tray_4 kX11_tray_52 (c_statusOfNewTray _ t s c) rfl (Nat.le_of_ble_eq_true rfl) (by decide) (by decide) ?_
  refine wp_putI C dX11_tray_7 pX11_tray_41 (fun h => nomatch h) (hK.1.ob 0 (by decide) rfl) ?_
  refine wp_aload_n C 0 dX11_tray_10 rfl rfl ?_
  refine wp_getI C dX11_tray_11 fX11_tray_41 (hK.1.ob 0 (by decide) rfl) ?_
  refine wp_eqi (u2_s _ _ _ _) ?_
  refine wp_if_eq C 19 dX11_tray_14 (by decide) (fun c14 => ?_) (fun c14 => ?_)
  · have c14 : stTray t s c = 0 := by have hcv := p_eq c14; rw [nI_toInt (show stTray t s c < 2 ^ 31 by have := stTray_le t s c; omega)] at hcv; have hz0 : ((0 : Int32)).toInt = 0 := rfl; omega
    have hsu : (0 ≤ t.toInt ∧ t.toInt < 4) ∧ (0 ≤ s.toInt ∧ s.toInt < 4) ∧ (0 ≤ c.toInt ∧ c.toInt ≤ 40) := by have z := c14; simp only [stTray] at z; (repeat' split at z) <;> omega
    refine wp_aload_n C 0 dX11_tray_19 rfl rfl ?_
    refine wp_getR C dX11_tray_20 fX11_tray_11 (hK.1.ob 0 (by decide) rfl) (hK.1.rf 0 0 1 (by decide)) ?_
    refine wp_iload_n C 1 dX11_tray_23 rfl rfl ?_
    refine wp_aald C RX10 dX11_tray_24 (hK.1.ar 1 (by decide) rfl) (by decide) rfl (j := t.toInt.toNat) (nI_nat (by omega)) (by omega) (by decide) (hK.1.tray (by omega)) ?_
    refine wp_iload_n C 2 dX11_tray_25 rfl rfl ?_
    refine wp_iload_n C 3 dX11_tray_26 rfl rfl ?_
    refine wp_cVv C (As := [.int s, .int c]) (rest := []) dX11_tray_27 kX11_tray_56 (hK.1.tob (by omega)) (c_layOut _ hK.1 (by omega) s c) rfl (Nat.le_of_ble_eq_true rfl) (by decide) (by decide) ?_
    refine wp_iconst C 1 dX11_tray_30 (by decide) ?_
    have e0 : nI (stTray t s c) = 0 := by rw [c14]; rfl
    have kt := (hK.st (0 : Int32)).tray (t := t.toInt.toNat) (s := s.toInt.toNat) (c := c.toInt.toNat) (by omega) (by omega) (by omega)
    rw [← nI_nat hsu.2.1.1, ← nI_nat hsu.2.2.1] at kt
    refine wp_zret C Z dX11_tray_31 (by decide) (by decide) (by decide) ⟨by rw [bI_t c14], ?_, by unfold aTray nTray; rw [if_pos c14, if_pos c14, e0]; exact kt⟩
    exact (((((FrC.rf T I J R ca).pI (i := 0) (by omega) 5 _).pI (i := 5 + t.toInt.toNat) (by omega) 0 _).pI (i := 5 + t.toInt.toNat) (by omega) 1 _).pI (i := 5 + t.toInt.toNat) (by omega) 2 _).vJ (i := 9 + t.toInt.toNat) (by omega) _
  · have c14 : ¬ stTray t s c = 0 := fun z => c14 (by rw [z]; rfl)
    refine wp_iconst C 0 dX11_tray_17 (by decide) ?_
    exact wp_zret C Z dX11_tray_18 (by decide) (by decide) (by decide) ⟨by rw [bI_f c14], (FrC.rf T I J R ca).pI (by decide) 5 _, by unfold aTray nTray; rw [if_neg c14, if_neg c14]; exact hK.st _⟩
theorem nI_sb {x y : Nat} (h : y ≤ x) : nI x - nI y = nI (x - y) := by
  obtain ⟨d, rfl⟩ : ∃ d, x = d + y := ⟨x - y, by omega⟩
  rw [← nI_add, Int32.add_sub_cancel, Nat.add_sub_cancel]
theorem zr_s (t i : Nat) (f : Nat → Int64) : (fun j => if j = 40 * t + i then (0 : Int64) else zr t i f j) = zr t (i + 1) f := by
  funext j
  unfold zr
  by_cases h : j = 40 * t + i
  · rw [if_pos h, if_pos (by omega)]
  · rw [if_neg h]
    by_cases h2 : 40 * t ≤ j ∧ j < 40 * t + i
    · rw [if_pos h2, if_pos (by omega)]
    · rw [if_neg h2, if_neg (by omega)]
theorem zr_0 (t : Nat) (f : Nat → Int64) : zr t 0 f = f := by
  funext j
  unfold zr
  rw [if_neg (by omega)]
/-- copied from s on to d on, of the places lo to hi -/
def cpw (f : Nat → Int64) (s d lo hi : Nat) : Nat → Int64 := fun q => if d + lo ≤ q ∧ q < d + hi then f (s + (q - d)) else f q
theorem cpw_n {f : Nat → Int64} {s d lo hi q : Nat} (h : ¬ (d + lo ≤ q ∧ q < d + hi)) : cpw f s d lo hi q = f q := by unfold cpw; rw [if_neg h]
theorem cpw_e {f : Nat → Int64} {s d lo : Nat} : cpw f s d lo lo = f := by
  funext q; exact cpw_n (by omega)
theorem cpw_all {f : Nat → Int64} {s d c : Nat} : cpw f s d 0 c = va_cpy f f s d c := rfl
theorem cpw_up {f : Nat → Int64} {s d k : Nat} : (fun j => if j = d + k then f (s + k) else cpw f s d 0 k j) = cpw f s d 0 (k + 1) := by
  funext j
  unfold cpw
  by_cases h : j = d + k
  · rw [if_pos h, if_pos (by omega)]; congr 1; omega
  · rw [if_neg h]
    by_cases h2 : d + 0 ≤ j ∧ j < d + k
    · rw [if_pos h2, if_pos (by omega)]
    · rw [if_neg h2, if_neg (by omega)]
theorem cpw_dn {f : Nat → Int64} {s d k c : Nat} (hk : k < c) : (fun j => if j = d + (c - 1 - k) then f (s + (c - 1 - k)) else cpw f s d (c - k) c j) = cpw f s d (c - (k + 1)) c := by
  funext j
  unfold cpw
  by_cases h : j = d + (c - 1 - k)
  · rw [if_pos h, if_pos (by omega)]; congr 1; omega
  · rw [if_neg h]
    by_cases h2 : d + (c - k) ≤ j ∧ j < d + c
    · rw [if_pos h2, if_pos (by omega)]
    · rw [if_neg h2, if_neg (by omega)]
set_option maxRecDepth 100000 in
set_option maxHeartbeats 4000000 in
theorem c_put (l : Launch) {T : gSh} {I : gI} {J : gJ} {R : gR} {ca : Nat → Nat} (hC : CO T R ca) {t k s : Nat} (ht : t < 4) (hk : k < 40) (hs : I (ca (5 + t)) 1 = nI s) (h4 : s < 4) (v : Int64) : Con l yX10_put wsX10_put ({ frames := 0, cells := 0, slots := 0, locals := 0 }) [.ref (ca (5 + t)), .int (nI k), .long v] T I J R (gP none T I (u2 J (ca (9 + t)) k (cutJ (I (ca (5 + t)) 1) v)) R) := by
  refine Con.mk (cc := cX10_put) (maxL := 4) (ret := none) (by decide) rfl (Nat.le_of_ble_eq_true rfl) ?_
  intro E hE C Z hnm
  subst hE
  change WP E 4 0 0 T I J R 0 [(0, .ref (ca (5 + t))), (1, .int (nI k)), (2, .long v)] []
  obtain z | z | z | z : s = 0 ∨ s = 1 ∨ s = 2 ∨ s = 3 := by omega
  · subst z
    have hs : I (ca (5 + t)) 1 = 0 := hs
    refine wp_aload_n C 0 dX10_put_0 rfl rfl ?_
    refine wp_getI C dX10_put_1 fX10_put_15 (hC.tob ht) ?_
    refine wp_eqi hs ?_
    refine wp_tableIn C 32 dX10_put_4 (by decide) (by decide) rfl (by decide) ?_
    refine wp_aload_n C 0 dX10_put_32 rfl rfl ?_
    refine wp_getR C dX10_put_33 fX10_put_22 (hC.tob ht) (hC.tnum ht) ?_
    refine wp_iload_n C 1 dX10_put_36 rfl rfl ?_
    refine wp_lload_n C 2 dX10_put_37 rfl rfl ?_
    refine wp_l2i C dX10_put_38 ?_
    refine wp_i2b C dX10_put_39 ?_
    refine wp_i2l C dX10_put_40 ?_
    refine wp_last C dX10_put_41 (hC.tar ht) (j := k) rfl (by omega) (by decide) ?_
    refine wp_goto C 77 dX10_put_42 (by decide) ?_
    exact wp_vret C Z dX10_put_77 (by decide) (by decide) (by rw [hs]; exact gP_rf)
  · subst z
    have hs : I (ca (5 + t)) 1 = 1 := hs
    refine wp_aload_n C 0 dX10_put_0 rfl rfl ?_
    refine wp_getI C dX10_put_1 fX10_put_15 (hC.tob ht) ?_
    refine wp_eqi hs ?_
    refine wp_tableIn C 45 dX10_put_4 (by decide) (by decide) rfl (by decide) ?_
    refine wp_aload_n C 0 dX10_put_45 rfl rfl ?_
    refine wp_getR C dX10_put_46 fX10_put_22 (hC.tob ht) (hC.tnum ht) ?_
    refine wp_iload_n C 1 dX10_put_49 rfl rfl ?_
    refine wp_lload_n C 2 dX10_put_50 rfl rfl ?_
    refine wp_l2i C dX10_put_51 ?_
    refine wp_i2s C dX10_put_52 ?_
    refine wp_i2l C dX10_put_53 ?_
    refine wp_last C dX10_put_54 (hC.tar ht) (j := k) rfl (by omega) (by decide) ?_
    refine wp_goto C 77 dX10_put_55 (by decide) ?_
    exact wp_vret C Z dX10_put_77 (by decide) (by decide) (by rw [hs]; exact gP_rf)
  · subst z
    have hs : I (ca (5 + t)) 1 = 2 := hs
    refine wp_aload_n C 0 dX10_put_0 rfl rfl ?_
    refine wp_getI C dX10_put_1 fX10_put_15 (hC.tob ht) ?_
    refine wp_eqi hs ?_
    refine wp_tableIn C 58 dX10_put_4 (by decide) (by decide) rfl (by decide) ?_
    refine wp_aload_n C 0 dX10_put_58 rfl rfl ?_
    refine wp_getR C dX10_put_59 fX10_put_22 (hC.tob ht) (hC.tnum ht) ?_
    refine wp_iload_n C 1 dX10_put_62 rfl rfl ?_
    refine wp_lload_n C 2 dX10_put_63 rfl rfl ?_
    refine wp_l2i C dX10_put_64 ?_
    refine wp_i2l C dX10_put_65 ?_
    refine wp_last C dX10_put_66 (hC.tar ht) (j := k) rfl (by omega) (by decide) ?_
    refine wp_goto C 77 dX10_put_67 (by decide) ?_
    exact wp_vret C Z dX10_put_77 (by decide) (by decide) (by rw [hs]; exact gP_rf)
  · subst z
    have hs : I (ca (5 + t)) 1 = 3 := hs
    refine wp_aload_n C 0 dX10_put_0 rfl rfl ?_
    refine wp_getI C dX10_put_1 fX10_put_15 (hC.tob ht) ?_
    refine wp_eqi hs ?_
    refine wp_tableOut C 70 dX10_put_4 (by decide) (by decide) ?_
    refine wp_aload_n C 0 dX10_put_70 rfl rfl ?_
    refine wp_getR C dX10_put_71 fX10_put_22 (hC.tob ht) (hC.tnum ht) ?_
    refine wp_iload_n C 1 dX10_put_74 rfl rfl ?_
    refine wp_lload_n C 2 dX10_put_75 rfl rfl ?_
    refine wp_last C dX10_put_76 (hC.tar ht) (j := k) rfl (by omega) (by decide) ?_
    exact wp_vret C Z dX10_put_77 (by decide) (by decide) (by rw [hs]; exact gP_rf)
theorem wp_eqi2 {E : gEnv} {nL cells slots : Nat} {T : gSh} {I : gI} {J : gJ} {R : gR} {pc : Nat} {lv : List (Nat × Value)} {st : List Value} {x y : Int32} {w : Value} (h : x = y) (k : WP E nL cells slots T I J R pc lv (w :: .int y :: st)) : WP E nL cells slots T I J R pc lv (w :: .int x :: st) := h ▸ k
set_option maxRecDepth 100000 in
set_option maxHeartbeats 4000000 in
theorem c_write (l : Launch) {T : gSh} {I : gI} {J : gJ} {R : gR} {ca : Nat → Nat} {a : gI} {n : gJ} (hK : KA T I J R ca a n) (t k : Int32) (v : Int64) : Con l yX11_write wsX11_write ({ frames := 2, cells := 0, slots := 0, locals := 43 }) [.ref (ca 0), .int t, .int k, .long v] T I J R (PQ T I J R ca (.int (bI (stPlace a t k = 0))) (aPlace a t k) (nWrite a n t k v)) := by
  refine Con.mk (cc := cX11_write) (maxL := 5) (ret := (some .boolean)) (by decide) rfl (Nat.le_of_ble_eq_true rfl) ?_
  intro E hE C Z hnm
  subst hE
  change WP E 5 0 0 T I J R 0 [(0, .ref (ca 0)), (1, .int t), (2, .int k), (3, .long v)] []
  refine wp_aload_n C 0 dX11_write_0 rfl rfl ?_
  refine wp_aload_n C 0 dX11_write_1 rfl rfl ?_
  refine wp_iload_n C 1 dX11_write_2 rfl rfl ?_
  refine wp_iload_n C 2 dX11_write_3 rfl rfl ?_
  refine wp_cVi C (As := [.int t, .int k]) (rest := [.ref (ca 0)]) dX11_write_4 kX11_write_64 (hK.1.ob 0 (by decide) rfl) (c_statusOfPlace _ hK t k) rfl (Nat.le_of_ble_eq_true rfl) (by decide) (by decide) ?_
  refine wp_putI C dX11_write_7 pX11_write_41 (fun h => nomatch h) (hK.1.ob 0 (by decide) rfl) ?_
  refine wp_aload_n C 0 dX11_write_10 rfl rfl ?_
  refine wp_getI C dX11_write_11 fX11_write_41 (hK.1.ob 0 (by decide) rfl) ?_
  refine wp_eqi (u2_s _ _ _ _) ?_
  refine wp_if_eq C 19 dX11_write_14 (by decide) (fun c14 => ?_) (fun c14 => ?_)
  · have c14 : stPlace a t k = 0 := by have hcv := p_eq c14; rw [nI_toInt (show stPlace a t k < 2 ^ 31 by have := stPlace_le a t k; omega)] at hcv; have hz0 : ((0 : Int32)).toInt = 0 := rfl; omega
    have hsu : (0 ≤ t.toInt ∧ t.toInt < 4) ∧ (0 ≤ k.toInt ∧ k.toInt < (a 5 t.toInt.toNat).toInt) := by have z := c14; simp only [stPlace] at z; (repeat' split at z) <;> omega
    have kt := hK.2.2.2.1.ar (t := t.toInt.toNat) (by omega)
    refine wp_aload_n C 0 dX11_write_19 rfl rfl ?_
    refine wp_getR C dX11_write_20 fX11_write_11 (hK.1.ob 0 (by decide) rfl) (hK.1.rf 0 0 1 (by decide)) ?_
    refine wp_iload_n C 1 dX11_write_23 rfl rfl ?_
    refine wp_aald C RX10 dX11_write_24 (hK.1.ar 1 (by decide) rfl) (by decide) rfl (j := t.toInt.toNat) (nI_nat (by omega)) (by omega) (by decide) (hK.1.tray (by omega)) ?_
    refine wp_iload_n C 2 dX11_write_25 rfl rfl ?_
    refine wp_lload_n C 3 dX11_write_26 rfl rfl ?_
    obtain ⟨sn, hsn, es⟩ := natOf (show 0 ≤ (I (ca (5 + t.toInt.toNat)) 1).toInt by omega)
    have ek : k = nI k.toInt.toNat := nI_nat (by omega)
    have es1 : u2 I (ca 0) 5 (nI (stPlace a t k)) (ca (5 + t.toInt.toNat)) 1 = nI sn := by rw [u2_rown _ _ _ _ (hK.1.ne (5 + t.toInt.toNat) 0 (by omega) (by omega) (by omega))]; exact es
    refine wp_eqi2 ek ?_
    refine wp_cVv C (As := [.int (nI k.toInt.toNat), .long v]) (rest := []) dX11_write_27 kX11_write_68 (hK.1.tob (by omega)) (c_put _ hK.1 (t := t.toInt.toNat) (k := k.toInt.toNat) (s := sn) (by omega) (by omega) es1 (by omega) v) rfl (Nat.le_of_ble_eq_true rfl) (by decide) (by decide) ?_
    refine wp_iconst C 1 dX11_write_30 (by decide) ?_
    have ecut : cutJ (u2 I (ca 0) 5 (nI (stPlace a t k)) (ca (5 + t.toInt.toNat)) 1) v = cutJ (a 4 t.toInt.toNat) v := by
      rw [u2_rown _ _ _ _ (hK.1.ne (5 + t.toInt.toNat) 0 (by omega) (by omega) (by omega))]
      have e4 : I (ca (5 + t.toInt.toNat)) 1 = a 4 t.toInt.toNat := (i_eq _ _).mpr (by omega)
      rw [e4]
    refine wp_zret C Z dX11_write_31 (by decide) (by decide) (by decide) ⟨by rw [bI_t c14], (((FrC.rf T I J R ca).pI (i := 0) (by omega) 5 _).pJ (i := 9 + t.toInt.toNat) (by omega) _ _), ?_⟩
    unfold nWrite aPlace
    rw [if_pos c14, ecut, u2_vu J, u2_vu n]
    refine (hK.nums (t := t.toInt.toNat) (by omega) (fun j hj => ?_) (fun q hq => if_neg (by omega))).st _
    show (if j = k.toInt.toNat then _ else _) = if 40 * t.toInt.toNat + j = 40 * t.toInt.toNat + k.toInt.toNat then _ else _
    by_cases e : j = k.toInt.toNat
    · rw [if_pos e, if_pos (by omega)]
    · rw [if_neg e, if_neg (by omega)]; exact hK.2.2.2.1.nm (by omega) (by omega) hj
  · have c14 : ¬ stPlace a t k = 0 := fun z => c14 (by rw [z]; rfl)
    refine wp_iconst C 0 dX11_write_17 (by decide) ?_
    exact wp_zret C Z dX11_write_18 (by decide) (by decide) (by decide) ⟨by rw [bI_f c14], (FrC.rf T I J R ca).pI (by decide) 5 _, by unfold nWrite; rw [if_neg c14]; exact hK.st _⟩
def vRead (a : gI) (n : gJ) (t k : Int32) : Int64 := if stPlace a t k = 0 then n 6 (40 * t.toInt.toNat + k.toInt.toNat) else -1
set_option maxRecDepth 100000 in
set_option maxHeartbeats 4000000 in
theorem c_read (l : Launch) {T : gSh} {I : gI} {J : gJ} {R : gR} {ca : Nat → Nat} {a : gI} {n : gJ} (hK : KA T I J R ca a n) (t k : Int32) : Con l yX11_read wsX11_read ({ frames := 2, cells := 0, slots := 0, locals := 43 }) [.ref (ca 0), .int t, .int k] T I J R (PQ T I J R ca (.long (vRead a n t k)) (aPlace a t k) n) := by
  refine Con.mk (cc := cX11_read) (maxL := 3) (ret := (some .long)) (by decide) rfl (Nat.le_of_ble_eq_true rfl) ?_
  intro E hE C Z hnm
  subst hE
  change WP E 3 0 0 T I J R 0 [(0, .ref (ca 0)), (1, .int t), (2, .int k)] []
  refine wp_aload_n C 0 dX11_read_0 rfl rfl ?_
  refine wp_aload_n C 0 dX11_read_1 rfl rfl ?_
  refine wp_iload_n C 1 dX11_read_2 rfl rfl ?_
  refine wp_iload_n C 2 dX11_read_3 rfl rfl ?_
  refine wp_cVi C (As := [.int t, .int k]) (rest := [.ref (ca 0)]) dX11_read_4 kX11_read_64 (hK.1.ob 0 (by decide) rfl) (c_statusOfPlace _ hK t k) rfl (Nat.le_of_ble_eq_true rfl) (by decide) (by decide) ?_
  refine wp_putI C dX11_read_7 pX11_read_41 (fun h => nomatch h) (hK.1.ob 0 (by decide) rfl) ?_
  refine wp_aload_n C 0 dX11_read_10 rfl rfl ?_
  refine wp_getI C dX11_read_11 fX11_read_41 (hK.1.ob 0 (by decide) rfl) ?_
  refine wp_eqi (u2_s _ _ _ _) ?_
  refine wp_if_ne C 31 dX11_read_14 (by decide) (fun c14 => ?_) (fun c14 => ?_)
  · have c14 : ¬ stPlace a t k = 0 := fun z => c14 (by rw [z]; rfl)
    refine wp_ldc2 C (-1) dX11_read_31 (by decide +kernel) ?_
    exact wp_lret C Z dX11_read_34 (by decide) (by decide) ⟨by unfold vRead; rw [if_neg c14], (FrC.rf T I J R ca).pI (by decide) 5 _, hK.st _⟩
  · have c14 : stPlace a t k = 0 := by have hcv := p_eq c14; rw [nI_toInt (show stPlace a t k < 2 ^ 31 by have := stPlace_le a t k; omega)] at hcv; have hz0 : ((0 : Int32)).toInt = 0 := rfl; omega
    have hsu : (0 ≤ t.toInt ∧ t.toInt < 4) ∧ (0 ≤ k.toInt ∧ k.toInt < (a 5 t.toInt.toNat).toInt) := by have z := c14; simp only [stPlace] at z; (repeat' split at z) <;> omega
    have kt := hK.2.2.2.1.ar (t := t.toInt.toNat) (by omega)
    refine wp_aload_n C 0 dX11_read_17 rfl rfl ?_
    refine wp_getR C dX11_read_18 fX11_read_11 (hK.1.ob 0 (by decide) rfl) (hK.1.rf 0 0 1 (by decide)) ?_
    refine wp_iload_n C 1 dX11_read_21 rfl rfl ?_
    refine wp_aald C RX10 dX11_read_22 (hK.1.ar 1 (by decide) rfl) (by decide) rfl (j := t.toInt.toNat) (nI_nat (by omega)) (by omega) (by decide) (hK.1.tray (by omega)) ?_
    refine wp_getR C dX11_read_23 fX11_read_72 (hK.1.tob (by omega)) (hK.1.tnum (by omega)) ?_
    refine wp_iload_n C 2 dX11_read_26 rfl rfl ?_
    refine wp_lald C dX11_read_27 (hK.1.tar (by omega)) (j := k.toInt.toNat) (nI_nat (by omega)) (by omega) (by decide) ?_
    refine wp_goto C 34 dX11_read_28 (by decide) ?_
    exact wp_lret C Z dX11_read_34 (by decide) (by decide) ⟨by unfold vRead; rw [if_pos c14, hK.2.2.2.1.nm (t := t.toInt.toNat) (by omega) (by omega) (by omega)], (FrC.rf T I J R ca).pI (by decide) 5 _, hK.st _⟩
set_option maxRecDepth 100000 in
set_option maxHeartbeats 4000000 in
theorem c_pour (l : Launch) {T : gSh} {I : gI} {J : gJ} {R : gR} {ca : Nat → Nat} {a : gI} {n : gJ} (hK : KA T I J R ca a n) (t i u j c : Int32) : Con l yX11_pour wsX11_pour ({ frames := 2, cells := 0, slots := 0, locals := 49 }) [.ref (ca 0), .int t, .int i, .int u, .int j, .int c] T I J R (PQ T I J R ca (.int (bI (stPour a t i u j c = 0))) (aPour a t i u j c) (nPour a n t i u j c)) := by
  refine Con.mk (cc := cX11_pour) (maxL := 6) (ret := (some .boolean)) (by decide) rfl (Nat.le_of_ble_eq_true rfl) ?_
  intro E hE C Z hnm
  subst hE
  change WP E 6 0 0 T I J R 0 [(0, .ref (ca 0)), (1, .int t), (2, .int i), (3, .int u), (4, .int j), (5, .int c)] []
  refine wp_aload_n C 0 dX11_pour_0 rfl rfl ?_
  refine wp_aload_n C 0 dX11_pour_1 rfl rfl ?_
  refine wp_iload_n C 1 dX11_pour_2 rfl rfl ?_
  refine wp_iload_n C 2 dX11_pour_3 rfl rfl ?_
  refine wp_iload_n C 3 dX11_pour_4 rfl rfl ?_
  refine wp_iload C 4 dX11_pour_5 rfl ?_
  refine wp_iload C 5 dX11_pour_7 rfl ?_
  refine wp_cVi C (As := [.int t, .int i, .int u, .int j, .int c]) (rest := [.ref (ca 0)]) dX11_pour_9 kX11_pour_85 (hK.1.ob 0 (by decide) rfl) (c_statusOfPour _ hK t i u j c) rfl (Nat.le_of_ble_eq_true rfl) (by decide) (by decide) ?_
  refine wp_putI C dX11_pour_12 pX11_pour_41 (fun h => nomatch h) (hK.1.ob 0 (by decide) rfl) ?_
  refine wp_aload_n C 0 dX11_pour_15 rfl rfl ?_
  refine wp_getI C dX11_pour_16 fX11_pour_41 (hK.1.ob 0 (by decide) rfl) ?_
  refine wp_eqi (u2_s _ _ _ _) ?_
  refine wp_if_eq C 24 dX11_pour_19 (by decide) (fun c19 => ?_) (fun c19 => ?_)
  · have c19 : stPour a t i u j c = 0 := by have hcv := p_eq c19; rw [nI_toInt (show stPour a t i u j c < 2 ^ 31 by have := stPour_le a t i u j c; omega)] at hcv; have hz0 : ((0 : Int32)).toInt = 0 := rfl; omega
    have hsu : (0 ≤ t.toInt ∧ t.toInt < 4) ∧ (0 ≤ u.toInt ∧ u.toInt < 4) ∧ 0 ≤ c.toInt ∧ 0 ≤ i.toInt ∧ 0 ≤ j.toInt ∧ i.toInt + c.toInt ≤ (a 5 t.toInt.toNat).toInt ∧ j.toInt + c.toInt ≤ (a 5 u.toInt.toNat).toInt := by have z := c19; simp only [stPour] at z; (repeat' split at z) <;> omega
    have kt := hK.2.2.2.1.ar (t := t.toInt.toNat) (by omega)
    have ku := hK.2.2.2.1.ar (t := u.toInt.toNat) (by omega)
    refine wp_aload_n C 0 dX11_pour_24 rfl rfl ?_
    refine wp_getR C dX11_pour_25 fX11_pour_11 (hK.1.ob 0 (by decide) rfl) (hK.1.rf 0 0 1 (by decide)) ?_
    refine wp_iload_n C 1 dX11_pour_28 rfl rfl ?_
    refine wp_aald C RX10 dX11_pour_29 (hK.1.ar 1 (by decide) rfl) (by decide) rfl (j := t.toInt.toNat) (nI_nat (by omega)) (by omega) (by decide) (hK.1.tray (by omega)) ?_
    refine wp_getR C dX11_pour_30 fX11_pour_72 (hK.1.tob (by omega)) (hK.1.tnum (by omega)) ?_
    refine wp_iload_n C 2 dX11_pour_33 rfl rfl ?_
    refine wp_aload_n C 0 dX11_pour_34 rfl rfl ?_
    refine wp_getR C dX11_pour_35 fX11_pour_11 (hK.1.ob 0 (by decide) rfl) (hK.1.rf 0 0 1 (by decide)) ?_
    refine wp_iload_n C 3 dX11_pour_38 rfl rfl ?_
    refine wp_aald C RX10 dX11_pour_39 (hK.1.ar 1 (by decide) rfl) (by decide) rfl (j := u.toInt.toNat) (nI_nat (by omega)) (by omega) (by decide) (hK.1.tray (by omega)) ?_
    refine wp_getR C dX11_pour_40 fX11_pour_72 (hK.1.tob (by omega)) (hK.1.tnum (by omega)) ?_
    refine wp_iload C 4 dX11_pour_43 rfl ?_
    refine wp_iload C 5 dX11_pour_45 rfl ?_
    refine wp_copyJ C dX11_pour_47 (by decide +kernel) (by decide +kernel) (by decide +kernel) (by decide +kernel) (hK.1.tar (by omega)) (hK.1.tar (by omega)) (nI_nat (by omega)) (nI_nat (by omega)) (nI_nat (by omega)) (by omega) (by omega) (by decide) (Nat.le_of_ble_eq_true rfl) (by decide +kernel) ?_
    refine wp_iconst C 1 dX11_pour_50 (by decide) ?_
    refine wp_zret C Z dX11_pour_51 (by decide) (by decide) (by decide) ⟨by rw [bI_t c19], (((FrC.rf T I J R ca).pI (i := 0) (by omega) 5 _).vJ (i := 9 + u.toInt.toNat) (by omega) _), ?_⟩
    unfold nPour aPour
    rw [if_pos c19]
    refine (hK.nums (t := u.toInt.toNat) (by omega) (fun q hq => ?_) (fun q hq => if_neg (by omega))).st _
    show (if j.toInt.toNat ≤ q ∧ q < j.toInt.toNat + c.toInt.toNat then _ else _) = if 40 * u.toInt.toNat + j.toInt.toNat ≤ 40 * u.toInt.toNat + q ∧ 40 * u.toInt.toNat + q < 40 * u.toInt.toNat + j.toInt.toNat + c.toInt.toNat then _ else _
    by_cases e : j.toInt.toNat ≤ q ∧ q < j.toInt.toNat + c.toInt.toNat
    · rw [if_pos e, if_pos (by omega), hK.2.2.2.1.nm (t := t.toInt.toNat) (by omega) (by omega) (by omega)]; congr 1; omega
    · rw [if_neg e, if_neg (by omega)]; exact hK.2.2.2.1.nm (by omega) (by omega) hq
  · have c19 : ¬ stPour a t i u j c = 0 := fun z => c19 (by rw [z]; rfl)
    refine wp_iconst C 0 dX11_pour_22 (by decide) ?_
    exact wp_zret C Z dX11_pour_23 (by decide) (by decide) (by decide) ⟨by rw [bI_f c19], (FrC.rf T I J R ca).pI (by decide) 5 _, by unfold nPour; rw [if_neg c19]; exact hK.st _⟩
