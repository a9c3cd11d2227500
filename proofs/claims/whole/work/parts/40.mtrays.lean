/-! ===== trays of the reference ===== -/
set_option maxRecDepth 100000 in
set_option maxHeartbeats 4000000 in
theorem m_cut (l : Launch) {T : gSh} {I : gI} {J : gJ} {R : gR} (s : Int32) (v : Int64) : Con l yX12_cut wsX12_cut ({ frames := 0, cells := 0, slots := 0, locals := 0 }) [.int s, .long v] T I J R (gP (some (.long (cutJ s v))) T I J R) := by
  refine Con.mk (cc := cX12_cut) (maxL := 3) (ret := (some .long)) (by decide) rfl (Nat.le_of_ble_eq_true rfl) ?_
  intro E hE C Z hnm
  subst hE
  change WP E 3 0 0 T I J R 0 [(0, .int s), (1, .long v)] []
  refine wp_iload_n C 0 dX12_cut_0 rfl rfl ?_
  refine wp_if_ne C 11 dX12_cut_1 (by decide) (fun c1 => ?_) (fun c1 => ?_)
  · have c1 : ¬ s.toInt = 0 := by have hcv := n_eq c1; exact hcv
    refine wp_iload_n C 0 dX12_cut_11 rfl rfl ?_
    refine wp_iconst C 1 dX12_cut_12 (by decide) ?_
    refine wp_icmp_ne C 23 dX12_cut_13 (by decide) (fun c13 => ?_) (fun c13 => ?_)
    · have c13 : ¬ s.toInt = 1 := by have hcv := n_eq c13; exact hcv
      refine wp_iload_n C 0 dX12_cut_23 rfl rfl ?_
      refine wp_iconst C 2 dX12_cut_24 (by decide) ?_
      refine wp_icmp_ne C 34 dX12_cut_25 (by decide) (fun c25 => ?_) (fun c25 => ?_)
      · have c25 : ¬ s.toInt = 2 := by have hcv := n_eq c25; exact hcv
        refine wp_lload_n C 1 dX12_cut_34 rfl rfl ?_
        exact wp_lret C Z dX12_cut_35 (by decide) (by decide) (by unfold cutJ; (repeat' split) <;> first | exact gP_rf | omega)
      · have c25 : s.toInt = 2 := by have hcv := p_eq c25; exact hcv
        refine wp_lload_n C 1 dX12_cut_28 rfl rfl ?_
        refine wp_l2i C dX12_cut_29 ?_
        refine wp_i2l C dX12_cut_30 ?_
        refine wp_goto C 35 dX12_cut_31 (by decide) ?_
        exact wp_lret C Z dX12_cut_35 (by decide) (by decide) (by unfold cutJ; (repeat' split) <;> first | exact gP_rf | omega)
    · have c13 : s.toInt = 1 := by have hcv := p_eq c13; exact hcv
      refine wp_lload_n C 1 dX12_cut_16 rfl rfl ?_
      refine wp_l2i C dX12_cut_17 ?_
      refine wp_i2s C dX12_cut_18 ?_
      refine wp_i2l C dX12_cut_19 ?_
      refine wp_goto C 35 dX12_cut_20 (by decide) ?_
      exact wp_lret C Z dX12_cut_35 (by decide) (by decide) (by unfold cutJ; (repeat' split) <;> first | exact gP_rf | omega)
  · have c1 : s.toInt = 0 := by have hcv := p_eq c1; exact hcv
    refine wp_lload_n C 1 dX12_cut_4 rfl rfl ?_
    refine wp_l2i C dX12_cut_5 ?_
    refine wp_i2b C dX12_cut_6 ?_
    refine wp_i2l C dX12_cut_7 ?_
    refine wp_goto C 35 dX12_cut_8 (by decide) ?_
    exact wp_lret C Z dX12_cut_35 (by decide) (by decide) (by unfold cutJ; (repeat' split) <;> first | exact gP_rf | omega)
def stTd (a : gI) (t : Int32) : Nat := if 0 ≤ t.toInt ∧ t.toInt < 4 then (if (a 5 t.toInt.toNat).toInt < 0 then 4 else 0) else 1
theorem stTd_le (a : gI) (t : Int32) : stTd a t ≤ 4 := by simp only [stTd]; (repeat' split) <;> omega
/-- the counts of the trays are small -/
theorem stTd_place {a : gI} {t k : Int32} (h : stTd a t ≠ 0) : stPlace a t k = stTd a t := by
  unfold stPlace
  unfold stTd at h ⊢
  by_cases h1 : 0 ≤ t.toInt ∧ t.toInt < 4
  · rw [if_pos h1] at h ⊢
    rw [if_pos h1]
    by_cases h2 : (a 5 t.toInt.toNat).toInt < 0
    · rw [if_pos h2, if_pos h2]
    · rw [if_neg h2] at h; exact absurd rfl h
  · rw [if_neg h1, if_neg h1]
theorem stPlace_ok {a : gI} {t k : Int32} (h : stPlace a t k = 0) : (0 ≤ t.toInt ∧ t.toInt < 4) ∧ (0 ≤ k.toInt ∧ k.toInt < (a 5 t.toInt.toNat).toInt) := by
  have z := h
  simp only [stPlace] at z; (repeat' split at z) <;> omega
def okT (a : gI) : Prop := ∀ t : Nat, t < 4 → -1 ≤ (a 5 t).toInt ∧ (a 5 t).toInt ≤ 40
set_option maxRecDepth 100000 in
set_option maxHeartbeats 4000000 in
theorem m_trayed (l : Launch) {T : gSh} {I : gI} {J : gJ} {R : gR} {m : Nat} {ad : Nat → Nat} (hM : MO T R m ad) {a : gI} {n : gJ} (hA : MA I J m ad a n) (t : Int32) : Con l yX12_trayed wsX12_trayed ({ frames := 0, cells := 0, slots := 0, locals := 0 }) [.ref m, .int t] T I J R (gP (some (.int (nI (stTd a t)))) T I J R) := by
  refine Con.mk (cc := cX12_trayed) (maxL := 2) (ret := (some .int)) (by decide) rfl (Nat.le_of_ble_eq_true rfl) ?_
  intro E hE C Z hnm
  subst hE
  change WP E 2 0 0 T I J R 0 [(0, .ref m), (1, .int t)] []
  refine wp_iload_n C 1 dX12_trayed_0 rfl rfl ?_
  refine wp_if_lt C 9 dX12_trayed_1 (by decide) (fun c1 => ?_) (fun c1 => ?_)
  · have c1 : t.toInt < 0 := by have hcv := p_lt c1; exact hcv
    refine wp_iconst C 1 dX12_trayed_9 (by decide) ?_
    refine wp_goto C 27 dX12_trayed_10 (by decide) ?_
    exact wp_iret C Z dX12_trayed_27 (by decide) (by decide) (by rw [show stTd a t = 1 from by simp only [stTd]; (repeat' split) <;> omega]; exact gP_rf)
  · have c1 : ¬ t.toInt < 0 := by have hcv := n_lt c1; exact hcv
    refine wp_iload_n C 1 dX12_trayed_4 rfl rfl ?_
    refine wp_iconst C 4 dX12_trayed_5 (by decide) ?_
    refine wp_icmp_lt C 13 dX12_trayed_6 (by decide) (fun c6 => ?_) (fun c6 => ?_)
    · have c6 : t.toInt < 4 := by have hcv := p_lt c6; exact hcv
      refine wp_aload_n C 0 dX12_trayed_13 rfl rfl ?_
      refine wp_getR C dX12_trayed_14 fX12_trayed_17 hM.ob (hM.rf 5 rfl) ?_
      refine wp_iload_n C 1 dX12_trayed_17 rfl rfl ?_
      refine wp_iald C dX12_trayed_18 (hM.ar 5 rfl rfl) (j := t.toInt.toNat) (nI_nat (by omega)) (by omega) (by decide) ?_
      refine wp_eqi (congrFun (hA.2.1 5 (by unfold mR; omega)) _) ?_
      refine wp_if_ge C 26 dX12_trayed_19 (by decide) (fun c19 => ?_) (fun c19 => ?_)
      · have c19 : 0 ≤ (a 5 t.toInt.toNat).toInt := by have hcv := p_le c19; exact hcv
        refine wp_iconst C 0 dX12_trayed_26 (by decide) ?_
        exact wp_iret C Z dX12_trayed_27 (by decide) (by decide) (by rw [show stTd a t = 0 from by simp only [stTd]; (repeat' split) <;> omega]; exact gP_rf)
      · have c19 : ¬ 0 ≤ (a 5 t.toInt.toNat).toInt := by have hcv := n_le c19; exact hcv
        refine wp_iconst C 4 dX12_trayed_22 (by decide) ?_
        refine wp_goto C 27 dX12_trayed_23 (by decide) ?_
        exact wp_iret C Z dX12_trayed_27 (by decide) (by decide) (by rw [show stTd a t = 4 from by simp only [stTd]; (repeat' split) <;> omega]; exact gP_rf)
    · have c6 : ¬ t.toInt < 4 := by have hcv := n_lt c6; exact hcv
      refine wp_iconst C 1 dX12_trayed_9 (by decide) ?_
      refine wp_goto C 27 dX12_trayed_10 (by decide) ?_
      exact wp_iret C Z dX12_trayed_27 (by decide) (by decide) (by rw [show stTd a t = 1 from by simp only [stTd]; (repeat' split) <;> omega]; exact gP_rf)
set_option maxRecDepth 100000 in
set_option maxHeartbeats 4000000 in
theorem m_placed (l : Launch) {T : gSh} {I : gI} {J : gJ} {R : gR} {m : Nat} {ad : Nat → Nat} (hM : MO T R m ad) {a : gI} {n : gJ} (hA : MA I J m ad a n) (hT : okT a) (t k : Int32) : Con l yX12_placed wsX12_placed ({ frames := 1, cells := 0, slots := 0, locals := 21 }) [.ref m, .int t, .int k] T I J R (gP (some (.int (nI (stPlace a t k)))) T I J R) := by
  refine Con.mk (cc := cX12_placed) (maxL := 4) (ret := (some .int)) (by decide) rfl (Nat.le_of_ble_eq_true rfl) ?_
  intro E hE C Z hnm
  subst hE
  change WP E 4 0 0 T I J R 0 [(0, .ref m), (1, .int t), (2, .int k)] []
  have hle := stTd_le a t
  refine wp_aload_n C 0 dX12_placed_0 rfl rfl ?_
  refine wp_iload_n C 1 dX12_placed_1 rfl rfl ?_
  refine wp_cVi C (As := [.int t]) (rest := []) dX12_placed_2 kX12_placed_144 hM.ob (m_trayed _ hM hA t) rfl (Nat.le_of_ble_eq_true rfl) (by decide) (by decide) ?_
  refine wp_istore_n C [(3, .int (nI (stTd a t))), (0, .ref m), (1, .int t), (2, .int k)] dX12_placed_5 rfl (by decide) rfl ?_
  refine wp_iload_n C 0 dX12_placed_6 rfl rfl ?_
  refine wp_if_le C 14 dX12_placed_7 (by decide) (fun c7 => ?_) (fun c7 => ?_)
  · have c7 : ((stTd a t : Nat) : Int) ≤ 0 := by have hcv := p_le c7; rw [nI_toInt (show stTd a t < 2 ^ 31 by omega)] at hcv; exact hcv
    have htd : (0 ≤ t.toInt ∧ t.toInt < 4) ∧ 0 ≤ (a 5 t.toInt.toNat).toInt := by have z := c7; simp only [stTd] at z; (repeat' split at z) <;> omega
    refine wp_iload_n C 3 dX12_placed_14 rfl rfl ?_
    refine wp_if_lt C 28 dX12_placed_15 (by decide) (fun c15 => ?_) (fun c15 => ?_)
    · have c15 : k.toInt < 0 := by have hcv := p_lt c15; exact hcv
      refine wp_iconst C 5 dX12_placed_28 (by decide) ?_
      refine wp_goto C 33 dX12_placed_29 (by decide) ?_
      exact wp_iret C Z dX12_placed_33 (by decide) (by decide) (by rw [show stPlace a t k = 5 from by simp only [stPlace]; (repeat' split) <;> omega]; exact gP_rf)
    · have c15 : ¬ k.toInt < 0 := by have hcv := n_lt c15; exact hcv
      refine wp_iload_n C 3 dX12_placed_18 rfl rfl ?_
      refine wp_aload_n C 1 dX12_placed_19 rfl rfl ?_
      refine wp_getR C dX12_placed_20 fX12_placed_17 hM.ob (hM.rf 5 rfl) ?_
      refine wp_iload_n C 2 dX12_placed_23 rfl rfl ?_
      refine wp_iald C dX12_placed_24 (hM.ar 5 rfl rfl) (j := t.toInt.toNat) (nI_nat (by omega)) (by omega) (by decide) ?_
      refine wp_eqi (congrFun (hA.2.1 5 (by unfold mR; omega)) _) ?_
      refine wp_icmp_lt C 32 dX12_placed_25 (by decide) (fun c25 => ?_) (fun c25 => ?_)
      · have c25 : k.toInt < (a 5 t.toInt.toNat).toInt := by have hcv := p_lt c25; exact hcv
        refine wp_iconst C 0 dX12_placed_32 (by decide) ?_
        exact wp_iret C Z dX12_placed_33 (by decide) (by decide) (by rw [show stPlace a t k = 0 from by simp only [stPlace]; (repeat' split) <;> omega]; exact gP_rf)
      · have c25 : ¬ k.toInt < (a 5 t.toInt.toNat).toInt := by have hcv := n_lt c25; exact hcv
        refine wp_iconst C 5 dX12_placed_28 (by decide) ?_
        refine wp_goto C 33 dX12_placed_29 (by decide) ?_
        exact wp_iret C Z dX12_placed_33 (by decide) (by decide) (by rw [show stPlace a t k = 5 from by simp only [stPlace]; (repeat' split) <;> omega]; exact gP_rf)
  · have c7 : ¬ ((stTd a t : Nat) : Int) ≤ 0 := by have hcv := n_le c7; rw [nI_toInt (show stTd a t < 2 ^ 31 by omega)] at hcv; exact hcv
    refine wp_iload_n C 0 dX12_placed_10 rfl rfl ?_
    refine wp_goto C 33 dX12_placed_11 (by decide) ?_
    exact wp_iret C Z dX12_placed_33 (by decide) (by decide) (by rw [stTd_place (by omega)]; exact gP_rf)
set_option maxRecDepth 100000 in
set_option maxHeartbeats 4000000 in
theorem m_write (l : Launch) {T : gSh} {I : gI} {J : gJ} {R : gR} {m : Nat} {ad : Nat → Nat} (hM : MO T R m ad) {a : gI} {n : gJ} (hA : MA I J m ad a n) (hT : okT a) (t k : Int32) (v : Int64) : Con l yX12_write wsX12_write ({ frames := 2, cells := 0, slots := 0, locals := 44 }) [.ref m, .int t, .int k, .long v] T I J R (PZ T I J R m ad (.int (bI (stPlace a t k = 0))) (aPlace a t k) (nWrite a n t k v)) := by
  refine Con.mk (cc := cX12_write) (maxL := 5) (ret := (some .boolean)) (by decide) rfl (Nat.le_of_ble_eq_true rfl) ?_
  intro E hE C Z hnm
  subst hE
  change WP E 5 0 0 T I J R 0 [(0, .ref m), (1, .int t), (2, .int k), (3, .long v)] []
  have hle := stPlace_le a t k
  refine wp_aload_n C 0 dX12_write_0 rfl rfl ?_
  refine wp_iconst C 0 dX12_write_1 (by decide) ?_
  refine wp_putI C dX12_write_2 pX12_write_134 (fun h => nomatch h) hM.ob ?_
  refine wp_aload_n C 0 dX12_write_5 rfl rfl ?_
  refine wp_aload_n C 0 dX12_write_6 rfl rfl ?_
  refine wp_iload_n C 1 dX12_write_7 rfl rfl ?_
  refine wp_iload_n C 2 dX12_write_8 rfl rfl ?_
  refine wp_cVi C (As := [.int t, .int k]) (rest := [.ref m]) dX12_write_9 kX12_write_148 hM.ob (m_placed _ hM ((MX.i hA).t hM 0).2 hT t k) rfl (Nat.le_of_ble_eq_true rfl) (by decide) (by decide) ?_
  refine wp_putI C dX12_write_12 pX12_write_137 (fun h => nomatch h) hM.ob ?_
  refine wp_aload_n C 0 dX12_write_15 rfl rfl ?_
  refine wp_getI C dX12_write_16 fX12_write_137 hM.ob ?_
  refine wp_eqi (u2_s _ _ _ _) ?_
  refine wp_if_le C 24 dX12_write_19 (by decide) (fun c19 => ?_) (fun c19 => ?_)
  · have c19 : (((stPlace a t k) : Nat) : Int) ≤ 0 := by have hcv := p_le c19; rw [nI_toInt (show (stPlace a t k) < 2 ^ 31 by omega)] at hcv; exact hcv
    have hsu := stPlace_ok (show stPlace a t k = 0 by omega)
    have h40 := hT t.toInt.toNat (by omega)
    refine wp_aload_n C 0 dX12_write_24 rfl rfl ?_
    refine wp_getR C dX12_write_25 fX12_write_20 hM.ob (hM.rf 6 rfl) ?_
    refine wp_bipush C 40 dX12_write_28 (by decide) ?_
    refine wp_iload_n C 1 dX12_write_30 rfl rfl ?_
    refine wp_imul C dX12_write_31 ?_
    refine wp_iload_n C 2 dX12_write_32 rfl rfl ?_
    refine wp_iadd C dX12_write_33 ?_
    refine wp_aload_n C 0 dX12_write_34 rfl rfl ?_
    refine wp_getR C dX12_write_35 fX12_write_13 hM.ob (hM.rf 4 rfl) ?_
    refine wp_iload_n C 1 dX12_write_38 rfl rfl ?_
    refine wp_iald C dX12_write_39 (hM.ar 4 rfl rfl) (j := t.toInt.toNat) (nI_nat (by omega)) (by omega) (by decide) ?_
    refine wp_eqi (((u2_a _ _ _ _ (hM.nm 4 rfl) _).trans (u2_a _ _ _ _ (hM.nm 4 rfl) _)).trans (congrFun (hA.2.1 4 (by unfold mR; omega)) _)) ?_
    refine wp_lload_n C 3 dX12_write_40 rfl rfl ?_
    refine wp_cSl C (As := [.int (a 4 t.toInt.toNat), .long v]) (rest := [.int ((40 * t) + k), .ref (ad 6)]) dX12_write_41 kX12_write_152 (m_cut _ (a 4 t.toInt.toNat) v) rfl (Nat.le_of_ble_eq_true rfl) (by decide) (by decide) ?_
    refine wp_last C dX12_write_44 (hM.ar 6 rfl rfl) (j := 40 * t.toInt.toNat + k.toInt.toNat) (ix40 (by omega) (by omega)) (by omega) (by decide) ?_
    refine wp_iconst C 1 dX12_write_45 (by decide) ?_
    have hs0 : stPlace a t k = 0 := by omega
    exact wp_zret C Z dX12_write_46 (by decide) (by decide) (by decide) ⟨by rw [bI_t hs0], rfl, rfl, by unfold nWrite; rw [if_pos hs0]; exact ((((MX.i hA).t hM 0).f hM 0 (nI (stPlace a t k))).nu hM (40 * t.toInt.toNat + k.toInt.toNat) (cutJ (a 4 t.toInt.toNat) v))⟩
  · have c19 : ¬ (((stPlace a t k) : Nat) : Int) ≤ 0 := by have hcv := n_le c19; rw [nI_toInt (show (stPlace a t k) < 2 ^ 31 by omega)] at hcv; exact hcv
    refine wp_iconst C 0 dX12_write_22 (by decide) ?_
    have hs0 : ¬ stPlace a t k = 0 := by omega
    exact wp_zret C Z dX12_write_23 (by decide) (by decide) (by decide) ⟨by rw [bI_f hs0], rfl, rfl, by unfold nWrite; rw [if_neg hs0]; exact (((MX.i hA).t hM 0).f hM 0 (nI (stPlace a t k)))⟩
set_option maxRecDepth 100000 in
set_option maxHeartbeats 4000000 in
theorem m_read (l : Launch) {T : gSh} {I : gI} {J : gJ} {R : gR} {m : Nat} {ad : Nat → Nat} (hM : MO T R m ad) {a : gI} {n : gJ} (hA : MA I J m ad a n) (hT : okT a) (t k : Int32) : Con l yX12_read wsX12_read ({ frames := 2, cells := 0, slots := 0, locals := 44 }) [.ref m, .int t, .int k] T I J R (PZ T I J R m ad (.long (vRead a n t k)) (aPlace a t k) n) := by
  refine Con.mk (cc := cX12_read) (maxL := 3) (ret := (some .long)) (by decide) rfl (Nat.le_of_ble_eq_true rfl) ?_
  intro E hE C Z hnm
  subst hE
  change WP E 3 0 0 T I J R 0 [(0, .ref m), (1, .int t), (2, .int k)] []
  have hle := stPlace_le a t k
  refine wp_aload_n C 0 dX12_read_0 rfl rfl ?_
  refine wp_iconst C 0 dX12_read_1 (by decide) ?_
  refine wp_putI C dX12_read_2 pX12_read_134 (fun h => nomatch h) hM.ob ?_
  refine wp_aload_n C 0 dX12_read_5 rfl rfl ?_
  refine wp_aload_n C 0 dX12_read_6 rfl rfl ?_
  refine wp_iload_n C 1 dX12_read_7 rfl rfl ?_
  refine wp_iload_n C 2 dX12_read_8 rfl rfl ?_
  refine wp_cVi C (As := [.int t, .int k]) (rest := [.ref m]) dX12_read_9 kX12_read_148 hM.ob (m_placed _ hM ((MX.i hA).t hM 0).2 hT t k) rfl (Nat.le_of_ble_eq_true rfl) (by decide) (by decide) ?_
  refine wp_putI C dX12_read_12 pX12_read_137 (fun h => nomatch h) hM.ob ?_
  refine wp_aload_n C 0 dX12_read_15 rfl rfl ?_
  refine wp_getI C dX12_read_16 fX12_read_137 hM.ob ?_
  refine wp_eqi (u2_s _ _ _ _) ?_
  refine wp_if_le C 28 dX12_read_19 (by decide) (fun c19 => ?_) (fun c19 => ?_)
  · have c19 : (((stPlace a t k) : Nat) : Int) ≤ 0 := by have hcv := p_le c19; rw [nI_toInt (show (stPlace a t k) < 2 ^ 31 by omega)] at hcv; exact hcv
    have hsu := stPlace_ok (show stPlace a t k = 0 by omega)
    have h40 := hT t.toInt.toNat (by omega)
    refine wp_aload_n C 0 dX12_read_28 rfl rfl ?_
    refine wp_getR C dX12_read_29 fX12_read_20 hM.ob (hM.rf 6 rfl) ?_
    refine wp_bipush C 40 dX12_read_32 (by decide) ?_
    refine wp_iload_n C 1 dX12_read_34 rfl rfl ?_
    refine wp_imul C dX12_read_35 ?_
    refine wp_iload_n C 2 dX12_read_36 rfl rfl ?_
    refine wp_iadd C dX12_read_37 ?_
    refine wp_lald C dX12_read_38 (hM.ar 6 rfl rfl) (j := 40 * t.toInt.toNat + k.toInt.toNat) (ix40 (by omega) (by omega)) (by omega) (by decide) ?_
    refine wp_eql (congrFun hA.2.2.2 _) ?_
    have hs0 : stPlace a t k = 0 := by omega
    exact wp_lret C Z dX12_read_39 (by decide) (by decide) ⟨by unfold vRead; rw [if_pos hs0], rfl, rfl, (((MX.i hA).t hM 0).f hM 0 (nI (stPlace a t k)))⟩
  · have c19 : ¬ (((stPlace a t k) : Nat) : Int) ≤ 0 := by have hcv := n_le c19; rw [nI_toInt (show (stPlace a t k) < 2 ^ 31 by omega)] at hcv; exact hcv
    refine wp_ldc2 C (-1) dX12_read_22 (by decide +kernel) ?_
    refine wp_goto C 39 dX12_read_25 (by decide) ?_
    have hs0 : ¬ stPlace a t k = 0 := by omega
    exact wp_lret C Z dX12_read_39 (by decide) (by decide) ⟨by unfold vRead; rw [if_neg hs0], rfl, rfl, (((MX.i hA).t hM 0).f hM 0 (nI (stPlace a t k)))⟩
theorem stTray_ok {t s c : Int32} (h : stTray t s c = 0) : (0 ≤ t.toInt ∧ t.toInt < 4) ∧ (0 ≤ s.toInt ∧ s.toInt < 4) ∧ (0 ≤ c.toInt ∧ c.toInt ≤ 40) := by
  have z := h
  simp only [stTray] at z; (repeat' split at z) <;> omega
set_option maxRecDepth 100000 in
set_option maxHeartbeats 4000000 in
theorem m_tray (l : Launch) {T : gSh} {I : gI} {J : gJ} {R : gR} {m : Nat} {ad : Nat → Nat} (hM : MO T R m ad) {a : gI} {n : gJ} (hA : MA I J m ad a n) (t s c : Int32) : Con l yX12_tray wsX12_tray ({ frames := 1, cells := 0, slots := 0, locals := 21 }) [.ref m, .int t, .int s, .int c] T I J R (PZ T I J R m ad (.int (bI (stTray t s c = 0))) (aTray a t s c) (nTray n t s c)) := by
  refine Con.mk (cc := cX12_tray) (maxL := 5) (ret := (some .boolean)) (by decide) rfl (Nat.le_of_ble_eq_true rfl) ?_
  intro E hE C Z hnm
  subst hE
  change WP E 5 0 0 T I J R 0 [(0, .ref m), (1, .int t), (2, .int s), (3, .int c)] []
  refine wp_aload_n C 0 dX12_tray_0 rfl rfl ?_
  refine wp_iconst C 0 dX12_tray_1 (by decide) ?_
  refine wp_putI C dX12_tray_2 pX12_tray_134 (fun h => nomatch h) hM.ob ?_
  refine wp_aload_n C 0 dX12_tray_5 rfl rfl ?_
  refine wp_iconst C 0 dX12_tray_6 (by decide) ?_
  refine wp_putI C dX12_tray_7 pX12_tray_137 (fun h => nomatch h) hM.ob ?_
  refine wp_iload_n C 1 dX12_tray_10 rfl rfl ?_
  refine wp_if_lt C 28 dX12_tray_11 (by decide) (fun c11 => ?_) (fun c11 => ?_)
  · have c11 : t.toInt < 0 := by have hcv := p_lt c11; exact hcv
    refine wp_aload_n C 0 dX12_tray_28 rfl rfl ?_
    refine wp_iconst C 1 dX12_tray_29 (by decide) ?_
    refine wp_cVi C (As := [.int 1]) (rest := []) dX12_tray_30 kX12_tray_140 hM.ob (m_no _ hM 1) rfl (Nat.le_of_ble_eq_true rfl) (by decide) (by decide) ?_
    have hst : stTray t s c = 1 := by simp only [stTray]; (repeat' split) <;> omega
    have hs0 : ¬ stTray t s c = 0 := by rw [hst]; decide
    exact wp_zret C Z dX12_tray_33 (by decide) (by decide) (by decide) ⟨by rw [bI_f hs0], rfl, rfl, by unfold aTray nTray; rw [if_neg hs0, if_neg hs0, hst]; exact MX.no hA hM 1⟩
  · have c11 : ¬ t.toInt < 0 := by have hcv := n_lt c11; exact hcv
    refine wp_iload_n C 1 dX12_tray_14 rfl rfl ?_
    refine wp_iconst C 4 dX12_tray_15 (by decide) ?_
    refine wp_icmp_ge C 28 dX12_tray_16 (by decide) (fun c16 => ?_) (fun c16 => ?_)
    · have c16 : 4 ≤ t.toInt := by have hcv := p_le c16; exact hcv
      refine wp_aload_n C 0 dX12_tray_28 rfl rfl ?_
      refine wp_iconst C 1 dX12_tray_29 (by decide) ?_
      refine wp_cVi C (As := [.int 1]) (rest := []) dX12_tray_30 kX12_tray_140 hM.ob (m_no _ hM 1) rfl (Nat.le_of_ble_eq_true rfl) (by decide) (by decide) ?_
      have hst : stTray t s c = 1 := by simp only [stTray]; (repeat' split) <;> omega
      have hs0 : ¬ stTray t s c = 0 := by rw [hst]; decide
      exact wp_zret C Z dX12_tray_33 (by decide) (by decide) (by decide) ⟨by rw [bI_f hs0], rfl, rfl, by unfold aTray nTray; rw [if_neg hs0, if_neg hs0, hst]; exact MX.no hA hM 1⟩
    · have c16 : ¬ 4 ≤ t.toInt := by have hcv := n_le c16; exact hcv
      refine wp_iload_n C 2 dX12_tray_19 rfl rfl ?_
      refine wp_if_lt C 28 dX12_tray_20 (by decide) (fun c20 => ?_) (fun c20 => ?_)
      · have c20 : s.toInt < 0 := by have hcv := p_lt c20; exact hcv
        refine wp_aload_n C 0 dX12_tray_28 rfl rfl ?_
        refine wp_iconst C 1 dX12_tray_29 (by decide) ?_
        refine wp_cVi C (As := [.int 1]) (rest := []) dX12_tray_30 kX12_tray_140 hM.ob (m_no _ hM 1) rfl (Nat.le_of_ble_eq_true rfl) (by decide) (by decide) ?_
        have hst : stTray t s c = 1 := by simp only [stTray]; (repeat' split) <;> omega
        have hs0 : ¬ stTray t s c = 0 := by rw [hst]; decide
        exact wp_zret C Z dX12_tray_33 (by decide) (by decide) (by decide) ⟨by rw [bI_f hs0], rfl, rfl, by unfold aTray nTray; rw [if_neg hs0, if_neg hs0, hst]; exact MX.no hA hM 1⟩
      · have c20 : ¬ s.toInt < 0 := by have hcv := n_lt c20; exact hcv
        refine wp_iload_n C 2 dX12_tray_23 rfl rfl ?_
        refine wp_iconst C 3 dX12_tray_24 (by decide) ?_
        refine wp_icmp_le C 34 dX12_tray_25 (by decide) (fun c25 => ?_) (fun c25 => ?_)
        · have c25 : s.toInt ≤ 3 := by have hcv := p_le c25; exact hcv
          refine wp_iload_n C 3 dX12_tray_34 rfl rfl ?_
          refine wp_bipush C 40 dX12_tray_35 (by decide) ?_
          refine wp_icmp_le C 46 dX12_tray_37 (by decide) (fun c37 => ?_) (fun c37 => ?_)
          · have c37 : c.toInt ≤ 40 := by have hcv := p_le c37; exact hcv
            refine wp_iload_n C 3 dX12_tray_46 rfl rfl ?_
            refine wp_if_ge C 57 dX12_tray_47 (by decide) (fun c47 => ?_) (fun c47 => ?_)
            · have c47 : 0 ≤ c.toInt := by have hcv := p_le c47; exact hcv
              have hs0 : stTray t s c = 0 := by simp only [stTray]; (repeat' split) <;> omega
              obtain ⟨tn, htn, rfl⟩ := natOf (show 0 ≤ t.toInt by omega)
              obtain ⟨cn, hcn, rfl⟩ := natOf (show 0 ≤ c.toInt by omega)
              have en : (nI tn).toInt.toNat = tn := by omega
              have ec : (nI cn).toInt.toNat = cn := by omega
              refine wp_aload_n C 0 dX12_tray_57 rfl rfl ?_
              refine wp_getR C dX12_tray_58 fX12_tray_13 hM.ob (hM.rf 4 rfl) ?_
              refine wp_iload_n C 1 dX12_tray_61 rfl rfl ?_
              refine wp_iload_n C 2 dX12_tray_62 rfl rfl ?_
              refine wp_iast C dX12_tray_63 (hM.ar 4 rfl rfl) (j := tn) rfl (by omega) (by decide) ?_
              refine wp_aload_n C 0 dX12_tray_64 rfl rfl ?_
              refine wp_getR C dX12_tray_65 fX12_tray_17 hM.ob (hM.rf 5 rfl) ?_
              refine wp_iload_n C 1 dX12_tray_68 rfl rfl ?_
              refine wp_iload_n C 3 dX12_tray_69 rfl rfl ?_
              refine wp_iast C dX12_tray_70 (hM.ar 5 rfl rfl) (j := tn) rfl (by omega) (by decide) ?_
              refine wp_iconst C 0 dX12_tray_71 (by decide) ?_
              refine wp_istore C [(4, .int 0), (0, .ref m), (1, .int (nI tn)), (2, .int s), (3, .int (nI cn))] dX12_tray_72 (by decide) rfl ?_
              have loop : ∀ i, i ≤ cn → ∀ lv, lv_pick lv [0, 1, 2, 3, 4] = [(0, .ref m), (1, .int (nI tn)), (2, .int s), (3, .int (nI cn)), (4, .int (nI i))] → WP E 5 0 0 T (u2 (u2 (u2 (u2 I m 1 0) m 0 0) (ad 4) tn s) (ad 5) tn (nI cn)) (va_up J (ad 6) (zr tn i (J (ad 6)))) R 74 lv [] := by
                refine loopN cn (fun i hi ih => ?_)
                intro lv hlv
                refine wp_lv [0, 1, 2, 3, 4] hlv ?_
                refine wp_iload C 4 dX12_tray_74 rfl ?_
                refine wp_iload_n C 3 dX12_tray_76 rfl rfl ?_
                refine wp_icmp_ge C 99 dX12_tray_77 (by decide) (fun c77 => ?_) (fun c77 => ?_)
                · have c77 : ((cn : Nat) : Int) ≤ ((i : Nat) : Int) := by have hcv := p_le c77; rw [nI_toInt (show cn < 2 ^ 31 by omega), nI_toInt (show i < 2 ^ 31 by omega)] at hcv; exact hcv
                  refine wp_iconst C 1 dX12_tray_99 (by decide) ?_
                  have e9 : cn = i := by omega
                  subst e9
                  exact wp_zret C Z dX12_tray_100 (by decide) (by decide) (by decide) ⟨by rw [bI_t hs0], rfl, rfl, by unfold aTray nTray; rw [if_pos hs0, if_pos hs0, en, ec, show J (ad 6) = n 6 from hA.2.2.2]; exact (((((MX.i hA).t hM 0).f hM 0 0).r hM 4 (by unfold mR; omega) tn s).r hM 5 (by unfold mR; omega) tn (nI cn)).nv hM⟩
                · have c77 : ¬ ((cn : Nat) : Int) ≤ ((i : Nat) : Int) := by have hcv := n_le c77; rw [nI_toInt (show cn < 2 ^ 31 by omega), nI_toInt (show i < 2 ^ 31 by omega)] at hcv; exact hcv
                  refine wp_aload_n C 0 dX12_tray_80 rfl rfl ?_
                  refine wp_getR C dX12_tray_81 fX12_tray_20 hM.ob (hM.rf 6 rfl) ?_
                  refine wp_bipush C 40 dX12_tray_84 (by decide) ?_
                  refine wp_iload_n C 1 dX12_tray_86 rfl rfl ?_
                  refine wp_imul C dX12_tray_87 ?_
                  refine wp_eqi (pk_mul 40 tn) ?_
                  refine wp_iload C 4 dX12_tray_88 rfl ?_
                  refine wp_iadd C dX12_tray_90 ?_
                  refine wp_eqi (nI_add (40 * tn) i) ?_
                  refine wp_lconst C 0 dX12_tray_91 (by decide) ?_
                  refine wp_last C dX12_tray_92 (hM.ar 6 rfl rfl) (j := (40 * tn) + i) rfl (by omega) (by decide) ?_
                  refine wp_iinc C 4 (nI (i + 1)) [(4, .int (nI (i + 1))), (0, .ref m), (1, .int (nI tn)), (2, .int s), (3, .int (nI cn))] dX12_tray_93 rfl (nI_1 i) (by decide) rfl ?_
                  refine wp_goto C 74 dX12_tray_96 (by decide) ?_
                  refine wp_lv [1, 2, 3, 4, 0] rfl ?_
                  refine wp_eJ (u2_in _ _ _ _ _) ?_
                  rw [zr_s]
                  exact ih (i + 1) (by omega) (by omega) _ rfl
              refine wp_lv [1, 2, 3, 4, 0] rfl ?_
              refine wp_eJ (J2 := va_up J (ad 6) (zr tn 0 (J (ad 6)))) (by rw [zr_0, vu_id]) ?_
              exact loop 0 (by omega) _ rfl
            · have c47 : ¬ 0 ≤ c.toInt := by have hcv := n_le c47; exact hcv
              refine wp_aload_n C 0 dX12_tray_50 rfl rfl ?_
              refine wp_bipush C 6 dX12_tray_51 (by decide) ?_
              refine wp_cVi C (As := [.int 6]) (rest := []) dX12_tray_53 kX12_tray_140 hM.ob (m_no _ hM 6) rfl (Nat.le_of_ble_eq_true rfl) (by decide) (by decide) ?_
              have hst : stTray t s c = 6 := by simp only [stTray]; (repeat' split) <;> omega
              have hs0 : ¬ stTray t s c = 0 := by rw [hst]; decide
              exact wp_zret C Z dX12_tray_56 (by decide) (by decide) (by decide) ⟨by rw [bI_f hs0], rfl, rfl, by unfold aTray nTray; rw [if_neg hs0, if_neg hs0, hst]; exact MX.no hA hM 6⟩
          · have c37 : ¬ c.toInt ≤ 40 := by have hcv := n_le c37; exact hcv
            refine wp_aload_n C 0 dX12_tray_40 rfl rfl ?_
            refine wp_iconst C 2 dX12_tray_41 (by decide) ?_
            refine wp_cVi C (As := [.int 2]) (rest := []) dX12_tray_42 kX12_tray_140 hM.ob (m_no _ hM 2) rfl (Nat.le_of_ble_eq_true rfl) (by decide) (by decide) ?_
            have hst : stTray t s c = 2 := by simp only [stTray]; (repeat' split) <;> omega
            have hs0 : ¬ stTray t s c = 0 := by rw [hst]; decide
            exact wp_zret C Z dX12_tray_45 (by decide) (by decide) (by decide) ⟨by rw [bI_f hs0], rfl, rfl, by unfold aTray nTray; rw [if_neg hs0, if_neg hs0, hst]; exact MX.no hA hM 2⟩
        · have c25 : ¬ s.toInt ≤ 3 := by have hcv := n_le c25; exact hcv
          refine wp_aload_n C 0 dX12_tray_28 rfl rfl ?_
          refine wp_iconst C 1 dX12_tray_29 (by decide) ?_
          refine wp_cVi C (As := [.int 1]) (rest := []) dX12_tray_30 kX12_tray_140 hM.ob (m_no _ hM 1) rfl (Nat.le_of_ble_eq_true rfl) (by decide) (by decide) ?_
          have hst : stTray t s c = 1 := by simp only [stTray]; (repeat' split) <;> omega
          have hs0 : ¬ stTray t s c = 0 := by rw [hst]; decide
          exact wp_zret C Z dX12_tray_33 (by decide) (by decide) (by decide) ⟨by rw [bI_f hs0], rfl, rfl, by unfold aTray nTray; rw [if_neg hs0, if_neg hs0, hst]; exact MX.no hA hM 1⟩
set_option maxRecDepth 100000 in
set_option maxHeartbeats 4000000 in
theorem m_pour (l : Launch) {T : gSh} {I : gI} {J : gJ} {R : gR} {m : Nat} {ad : Nat → Nat} (hM : MO T R m ad) {a : gI} {n : gJ} (hA : MA I J m ad a n) (hT : okT a) (t i u j c : Int32) : Con l yX12_pour wsX12_pour ({ frames := 1, cells := 0, slots := 0, locals := 21 }) [.ref m, .int t, .int i, .int u, .int j, .int c] T I J R (PZ T I J R m ad (.int (bI (stPour a t i u j c = 0))) (aPour a t i u j c) (nPour a n t i u j c)) := by
  refine Con.mk (cc := cX12_pour) (maxL := 9) (ret := (some .boolean)) (by decide) rfl (Nat.le_of_ble_eq_true rfl) ?_
  intro E hE C Z hnm
  subst hE
  change WP E 9 0 0 T I J R 0 [(0, .ref m), (1, .int t), (2, .int i), (3, .int u), (4, .int j), (5, .int c)] []
  have bi := i_bd i
  have bj := i_bd j
  have bc := i_bd c
  refine wp_aload_n C 0 dX12_pour_0 rfl rfl ?_
  refine wp_iconst C 0 dX12_pour_1 (by decide) ?_
  refine wp_putI C dX12_pour_2 pX12_pour_134 (fun h => nomatch h) hM.ob ?_
  refine wp_aload_n C 0 dX12_pour_5 rfl rfl ?_
  refine wp_iconst C 0 dX12_pour_6 (by decide) ?_
  refine wp_putI C dX12_pour_7 pX12_pour_137 (fun h => nomatch h) hM.ob ?_
  refine wp_iload_n C 1 dX12_pour_10 rfl rfl ?_
  refine wp_if_lt C 28 dX12_pour_11 (by decide) (fun c11 => ?_) (fun c11 => ?_)
  · have c11 : t.toInt < 0 := by have hcv := p_lt c11; exact hcv
    refine wp_aload_n C 0 dX12_pour_28 rfl rfl ?_
    refine wp_iconst C 1 dX12_pour_29 (by decide) ?_
    refine wp_cVi C (As := [.int 1]) (rest := []) dX12_pour_30 kX12_pour_140 hM.ob (m_no _ hM 1) rfl (Nat.le_of_ble_eq_true rfl) (by decide) (by decide) ?_
    have hst : stPour a t i u j c = 1 := by simp only [stPour]; (repeat' split) <;> omega
    have hs0 : ¬ stPour a t i u j c = 0 := by rw [hst]; decide
    exact wp_zret C Z dX12_pour_33 (by decide) (by decide) (by decide) ⟨by rw [bI_f hs0], rfl, rfl, by unfold aPour nPour; rw [if_neg hs0, hst]; exact MX.no hA hM 1⟩
  · have c11 : ¬ t.toInt < 0 := by have hcv := n_lt c11; exact hcv
    refine wp_iload_n C 1 dX12_pour_14 rfl rfl ?_
    refine wp_iconst C 4 dX12_pour_15 (by decide) ?_
    refine wp_icmp_ge C 28 dX12_pour_16 (by decide) (fun c16 => ?_) (fun c16 => ?_)
    · have c16 : 4 ≤ t.toInt := by have hcv := p_le c16; exact hcv
      refine wp_aload_n C 0 dX12_pour_28 rfl rfl ?_
      refine wp_iconst C 1 dX12_pour_29 (by decide) ?_
      refine wp_cVi C (As := [.int 1]) (rest := []) dX12_pour_30 kX12_pour_140 hM.ob (m_no _ hM 1) rfl (Nat.le_of_ble_eq_true rfl) (by decide) (by decide) ?_
      have hst : stPour a t i u j c = 1 := by simp only [stPour]; (repeat' split) <;> omega
      have hs0 : ¬ stPour a t i u j c = 0 := by rw [hst]; decide
      exact wp_zret C Z dX12_pour_33 (by decide) (by decide) (by decide) ⟨by rw [bI_f hs0], rfl, rfl, by unfold aPour nPour; rw [if_neg hs0, hst]; exact MX.no hA hM 1⟩
    · have c16 : ¬ 4 ≤ t.toInt := by have hcv := n_le c16; exact hcv
      refine wp_iload_n C 3 dX12_pour_19 rfl rfl ?_
      refine wp_if_lt C 28 dX12_pour_20 (by decide) (fun c20 => ?_) (fun c20 => ?_)
      · have c20 : u.toInt < 0 := by have hcv := p_lt c20; exact hcv
        refine wp_aload_n C 0 dX12_pour_28 rfl rfl ?_
        refine wp_iconst C 1 dX12_pour_29 (by decide) ?_
        refine wp_cVi C (As := [.int 1]) (rest := []) dX12_pour_30 kX12_pour_140 hM.ob (m_no _ hM 1) rfl (Nat.le_of_ble_eq_true rfl) (by decide) (by decide) ?_
        have hst : stPour a t i u j c = 1 := by simp only [stPour]; (repeat' split) <;> omega
        have hs0 : ¬ stPour a t i u j c = 0 := by rw [hst]; decide
        exact wp_zret C Z dX12_pour_33 (by decide) (by decide) (by decide) ⟨by rw [bI_f hs0], rfl, rfl, by unfold aPour nPour; rw [if_neg hs0, hst]; exact MX.no hA hM 1⟩
      · have c20 : ¬ u.toInt < 0 := by have hcv := n_lt c20; exact hcv
        refine wp_iload_n C 3 dX12_pour_23 rfl rfl ?_
        refine wp_iconst C 4 dX12_pour_24 (by decide) ?_
        refine wp_icmp_lt C 34 dX12_pour_25 (by decide) (fun c25 => ?_) (fun c25 => ?_)
        · have c25 : u.toInt < 4 := by have hcv := p_lt c25; exact hcv
          have hb5 : (-1 ≤ (a 5 t.toInt.toNat).toInt ∧ (a 5 t.toInt.toNat).toInt ≤ 40) ∧ (-1 ≤ (a 5 u.toInt.toNat).toInt ∧ (a 5 u.toInt.toNat).toInt ≤ 40) := ⟨hT _ (by omega), hT _ (by omega)⟩
          refine wp_aload_n C 0 dX12_pour_34 rfl rfl ?_
          refine wp_getR C dX12_pour_35 fX12_pour_17 hM.ob (hM.rf 5 rfl) ?_
          refine wp_iload_n C 1 dX12_pour_38 rfl rfl ?_
          refine wp_iald C dX12_pour_39 (hM.ar 5 rfl rfl) (j := t.toInt.toNat) (nI_nat (by omega)) (by omega) (by decide) ?_
          refine wp_eqi (((u2_a _ _ _ _ (hM.nm 5 rfl) _).trans (u2_a _ _ _ _ (hM.nm 5 rfl) _)).trans (congrFun (hA.2.1 5 (by unfold mR; omega)) _)) ?_
          refine wp_if_lt C 52 dX12_pour_40 (by decide) (fun c40 => ?_) (fun c40 => ?_)
          · have c40 : (a 5 t.toInt.toNat).toInt < 0 := by have hcv := p_lt c40; exact hcv
            refine wp_aload_n C 0 dX12_pour_52 rfl rfl ?_
            refine wp_iconst C 4 dX12_pour_53 (by decide) ?_
            refine wp_cVi C (As := [.int 4]) (rest := []) dX12_pour_54 kX12_pour_140 hM.ob (m_no _ hM 4) rfl (Nat.le_of_ble_eq_true rfl) (by decide) (by decide) ?_
            have hst : stPour a t i u j c = 4 := by simp only [stPour]; (repeat' split) <;> omega
            have hs0 : ¬ stPour a t i u j c = 0 := by rw [hst]; decide
            exact wp_zret C Z dX12_pour_57 (by decide) (by decide) (by decide) ⟨by rw [bI_f hs0], rfl, rfl, by unfold aPour nPour; rw [if_neg hs0, hst]; exact MX.no hA hM 4⟩
          · have c40 : ¬ (a 5 t.toInt.toNat).toInt < 0 := by have hcv := n_lt c40; exact hcv
            refine wp_aload_n C 0 dX12_pour_43 rfl rfl ?_
            refine wp_getR C dX12_pour_44 fX12_pour_17 hM.ob (hM.rf 5 rfl) ?_
            refine wp_iload_n C 3 dX12_pour_47 rfl rfl ?_
            refine wp_iald C dX12_pour_48 (hM.ar 5 rfl rfl) (j := u.toInt.toNat) (nI_nat (by omega)) (by omega) (by decide) ?_
            refine wp_eqi (((u2_a _ _ _ _ (hM.nm 5 rfl) _).trans (u2_a _ _ _ _ (hM.nm 5 rfl) _)).trans (congrFun (hA.2.1 5 (by unfold mR; omega)) _)) ?_
            refine wp_if_ge C 58 dX12_pour_49 (by decide) (fun c49 => ?_) (fun c49 => ?_)
            · have c49 : 0 ≤ (a 5 u.toInt.toNat).toInt := by have hcv := p_le c49; exact hcv
              refine wp_aload_n C 0 dX12_pour_58 rfl rfl ?_
              refine wp_getR C dX12_pour_59 fX12_pour_13 hM.ob (hM.rf 4 rfl) ?_
              refine wp_iload_n C 1 dX12_pour_62 rfl rfl ?_
              refine wp_iald C dX12_pour_63 (hM.ar 4 rfl rfl) (j := t.toInt.toNat) (nI_nat (by omega)) (by omega) (by decide) ?_
              refine wp_eqi (((u2_a _ _ _ _ (hM.nm 4 rfl) _).trans (u2_a _ _ _ _ (hM.nm 4 rfl) _)).trans (congrFun (hA.2.1 4 (by unfold mR; omega)) _)) ?_
              refine wp_aload_n C 0 dX12_pour_64 rfl rfl ?_
              refine wp_getR C dX12_pour_65 fX12_pour_13 hM.ob (hM.rf 4 rfl) ?_
              refine wp_iload_n C 3 dX12_pour_68 rfl rfl ?_
              refine wp_iald C dX12_pour_69 (hM.ar 4 rfl rfl) (j := u.toInt.toNat) (nI_nat (by omega)) (by omega) (by decide) ?_
              refine wp_eqi (((u2_a _ _ _ _ (hM.nm 4 rfl) _).trans (u2_a _ _ _ _ (hM.nm 4 rfl) _)).trans (congrFun (hA.2.1 4 (by unfold mR; omega)) _)) ?_
              refine wp_icmp_eq C 80 dX12_pour_70 (by decide) (fun c70 => ?_) (fun c70 => ?_)
              · have c70 : (a 4 t.toInt.toNat).toInt = (a 4 u.toInt.toNat).toInt := by have hcv := p_eq c70; exact hcv
                refine wp_iload C 5 dX12_pour_80 rfl ?_
                refine wp_if_ge C 92 dX12_pour_82 (by decide) (fun c82 => ?_) (fun c82 => ?_)
                · have c82 : 0 ≤ c.toInt := by have hcv := p_le c82; exact hcv
                  refine wp_iload_n C 2 dX12_pour_92 rfl rfl ?_
                  refine wp_if_lt C 136 dX12_pour_93 (by decide) (fun c93 => ?_) (fun c93 => ?_)
                  · have c93 : i.toInt < 0 := by have hcv := p_lt c93; exact hcv
                    refine wp_aload_n C 0 dX12_pour_136 rfl rfl ?_
                    refine wp_iconst C 5 dX12_pour_137 (by decide) ?_
                    refine wp_cVi C (As := [.int 5]) (rest := []) dX12_pour_138 kX12_pour_140 hM.ob (m_no _ hM 5) rfl (Nat.le_of_ble_eq_true rfl) (by decide) (by decide) ?_
                    have hst : stPour a t i u j c = 5 := by simp only [stPour]; (repeat' split) <;> omega
                    have hs0 : ¬ stPour a t i u j c = 0 := by rw [hst]; decide
                    exact wp_zret C Z dX12_pour_141 (by decide) (by decide) (by decide) ⟨by rw [bI_f hs0], rfl, rfl, by unfold aPour nPour; rw [if_neg hs0, hst]; exact MX.no hA hM 5⟩
                  · have c93 : ¬ i.toInt < 0 := by have hcv := n_lt c93; exact hcv
                    refine wp_iload C 4 dX12_pour_96 rfl ?_
                    refine wp_if_lt C 136 dX12_pour_98 (by decide) (fun c98 => ?_) (fun c98 => ?_)
                    · have c98 : j.toInt < 0 := by have hcv := p_lt c98; exact hcv
                      refine wp_aload_n C 0 dX12_pour_136 rfl rfl ?_
                      refine wp_iconst C 5 dX12_pour_137 (by decide) ?_
                      refine wp_cVi C (As := [.int 5]) (rest := []) dX12_pour_138 kX12_pour_140 hM.ob (m_no _ hM 5) rfl (Nat.le_of_ble_eq_true rfl) (by decide) (by decide) ?_
                      have hst : stPour a t i u j c = 5 := by simp only [stPour]; (repeat' split) <;> omega
                      have hs0 : ¬ stPour a t i u j c = 0 := by rw [hst]; decide
                      exact wp_zret C Z dX12_pour_141 (by decide) (by decide) (by decide) ⟨by rw [bI_f hs0], rfl, rfl, by unfold aPour nPour; rw [if_neg hs0, hst]; exact MX.no hA hM 5⟩
                    · have c98 : ¬ j.toInt < 0 := by have hcv := n_lt c98; exact hcv
                      refine wp_iload_n C 2 dX12_pour_101 rfl rfl ?_
                      refine wp_i2l C dX12_pour_102 ?_
                      refine wp_iload C 5 dX12_pour_103 rfl ?_
                      refine wp_i2l C dX12_pour_105 ?_
                      refine wp_ladd C dX12_pour_106 ?_
                      refine wp_aload_n C 0 dX12_pour_107 rfl rfl ?_
                      refine wp_getR C dX12_pour_108 fX12_pour_17 hM.ob (hM.rf 5 rfl) ?_
                      refine wp_iload_n C 1 dX12_pour_111 rfl rfl ?_
                      refine wp_iald C dX12_pour_112 (hM.ar 5 rfl rfl) (j := t.toInt.toNat) (nI_nat (by omega)) (by omega) (by decide) ?_
                      refine wp_eqi (((u2_a _ _ _ _ (hM.nm 5 rfl) _).trans (u2_a _ _ _ _ (hM.nm 5 rfl) _)).trans (congrFun (hA.2.1 5 (by unfold mR; omega)) _)) ?_
                      refine wp_i2l C dX12_pour_113 ?_
                      refine wp_lcmp C dX12_pour_114 ?_
                      refine wp_if_gt C 136 dX12_pour_115 (by decide) (fun c115 => ?_) (fun c115 => ?_)
                      · have c115 : (a 5 t.toInt.toNat).toInt < (i.toInt + c.toInt) := by have hcv : 0 < (lg_cmp (i.toInt64 + c.toInt64) ((a 5 t.toInt.toNat).toInt64)).toInt := p_lt c115; have hz := lc_s (i.toInt64 + c.toInt64) ((a 5 t.toInt.toNat).toInt64); rw [(lj_sum (i2l_T i) (i2l_T c) (by omega) (by omega))] at hz; rw [(i2l_T (a 5 t.toInt.toNat))] at hz; omega
                        refine wp_aload_n C 0 dX12_pour_136 rfl rfl ?_
                        refine wp_iconst C 5 dX12_pour_137 (by decide) ?_
                        refine wp_cVi C (As := [.int 5]) (rest := []) dX12_pour_138 kX12_pour_140 hM.ob (m_no _ hM 5) rfl (Nat.le_of_ble_eq_true rfl) (by decide) (by decide) ?_
                        have hst : stPour a t i u j c = 5 := by simp only [stPour]; (repeat' split) <;> omega
                        have hs0 : ¬ stPour a t i u j c = 0 := by rw [hst]; decide
                        exact wp_zret C Z dX12_pour_141 (by decide) (by decide) (by decide) ⟨by rw [bI_f hs0], rfl, rfl, by unfold aPour nPour; rw [if_neg hs0, hst]; exact MX.no hA hM 5⟩
                      · have c115 : ¬ (a 5 t.toInt.toNat).toInt < (i.toInt + c.toInt) := by have hcv : ¬ 0 < (lg_cmp (i.toInt64 + c.toInt64) ((a 5 t.toInt.toNat).toInt64)).toInt := n_lt c115; have hz := lc_s (i.toInt64 + c.toInt64) ((a 5 t.toInt.toNat).toInt64); rw [(lj_sum (i2l_T i) (i2l_T c) (by omega) (by omega))] at hz; rw [(i2l_T (a 5 t.toInt.toNat))] at hz; omega
                        refine wp_iload C 4 dX12_pour_118 rfl ?_
                        refine wp_i2l C dX12_pour_120 ?_
                        refine wp_iload C 5 dX12_pour_121 rfl ?_
                        refine wp_i2l C dX12_pour_123 ?_
                        refine wp_ladd C dX12_pour_124 ?_
                        refine wp_aload_n C 0 dX12_pour_125 rfl rfl ?_
                        refine wp_getR C dX12_pour_126 fX12_pour_17 hM.ob (hM.rf 5 rfl) ?_
                        refine wp_iload_n C 3 dX12_pour_129 rfl rfl ?_
                        refine wp_iald C dX12_pour_130 (hM.ar 5 rfl rfl) (j := u.toInt.toNat) (nI_nat (by omega)) (by omega) (by decide) ?_
                        refine wp_eqi (((u2_a _ _ _ _ (hM.nm 5 rfl) _).trans (u2_a _ _ _ _ (hM.nm 5 rfl) _)).trans (congrFun (hA.2.1 5 (by unfold mR; omega)) _)) ?_
                        refine wp_i2l C dX12_pour_131 ?_
                        refine wp_lcmp C dX12_pour_132 ?_
                        refine wp_if_le C 142 dX12_pour_133 (by decide) (fun c133 => ?_) (fun c133 => ?_)
                        · have c133 : (j.toInt + c.toInt) ≤ (a 5 u.toInt.toNat).toInt := by have hcv : (lg_cmp (j.toInt64 + c.toInt64) ((a 5 u.toInt.toNat).toInt64)).toInt ≤ 0 := p_le c133; have hz := lc_s (j.toInt64 + c.toInt64) ((a 5 u.toInt.toNat).toInt64); rw [(lj_sum (i2l_T j) (i2l_T c) (by omega) (by omega))] at hz; rw [(i2l_T (a 5 u.toInt.toNat))] at hz; omega
                          have hs0 : stPour a t i u j c = 0 := by simp only [stPour]; (repeat' split) <;> omega
                          have hq : i.toInt + c.toInt ≤ 40 ∧ j.toInt + c.toInt ≤ 40 := by omega
                          clear hb5
                          obtain ⟨tn, htn, rfl⟩ := natOf (show 0 ≤ t.toInt by omega)
                          obtain ⟨iN, hiN, rfl⟩ := natOf (show 0 ≤ i.toInt by omega)
                          obtain ⟨un, hun, rfl⟩ := natOf (show 0 ≤ u.toInt by omega)
                          obtain ⟨jn, hjn, rfl⟩ := natOf (show 0 ≤ j.toInt by omega)
                          obtain ⟨cn, hcn, rfl⟩ := natOf (show 0 ≤ c.toInt by omega)
                          have et : (nI tn).toInt.toNat = tn := by omega
                          have ei : (nI iN).toInt.toNat = iN := by omega
                          have eu : (nI un).toInt.toNat = un := by omega
                          have ej : (nI jn).toInt.toNat = jn := by omega
                          have ec : (nI cn).toInt.toNat = cn := by omega
                          refine wp_iload_n C 2 dX12_pour_142 rfl rfl ?_
                          refine wp_iload C 4 dX12_pour_143 rfl ?_
                          refine wp_icmp_ge C 152 dX12_pour_145 (by decide) (fun c145 => ?_) (fun c145 => ?_)
                          · have c145 : ((jn : Nat) : Int) ≤ ((iN : Nat) : Int) := by have hcv := p_le c145; rw [nI_toInt (show jn < 2 ^ 31 by omega), nI_toInt (show iN < 2 ^ 31 by omega)] at hcv; exact hcv
                            refine wp_iconst C 0 dX12_pour_152 (by decide) ?_
                            refine wp_istore C [(6, .int 0), (0, .ref m), (1, .int (nI tn)), (2, .int (nI iN)), (3, .int (nI un)), (4, .int (nI jn)), (5, .int (nI cn))] dX12_pour_153 (by decide) rfl ?_
                            refine wp_iconst C 0 dX12_pour_155 (by decide) ?_
                            refine wp_istore C [(7, .int 0), (6, .int 0), (0, .ref m), (1, .int (nI tn)), (2, .int (nI iN)), (3, .int (nI un)), (4, .int (nI jn)), (5, .int (nI cn))] dX12_pour_156 (by decide) rfl ?_
                            have loop : ∀ k, k ≤ cn → ∀ lv, lv_pick lv [0, 1, 2, 3, 4, 5, 6, 7] = [(0, .ref m), (1, .int (nI tn)), (2, .int (nI iN)), (3, .int (nI un)), (4, .int (nI jn)), (5, .int (nI cn)), (6, .int 0), (7, .int (nI k))] → WP E 9 0 0 T (u2 (u2 I m 1 0) m 0 0) (va_up J (ad 6) (cpw (J (ad 6)) (40 * tn + iN) (40 * un + jn) 0 k)) R 158 lv [] := by
                              refine loopN cn (fun k hk ih => ?_)
                              intro lv hlv
                              refine wp_lv [0, 1, 2, 3, 4, 5, 6, 7] hlv ?_
                              refine wp_iload C 7 dX12_pour_158 rfl ?_
                              refine wp_iload C 5 dX12_pour_160 rfl ?_
                              refine wp_icmp_ge C 219 dX12_pour_162 (by decide) (fun c162 => ?_) (fun c162 => ?_)
                              · have c162 : ((cn : Nat) : Int) ≤ ((k : Nat) : Int) := by have hcv := p_le c162; rw [nI_toInt (show cn < 2 ^ 31 by omega), nI_toInt (show k < 2 ^ 31 by omega)] at hcv; exact hcv
                                refine wp_iconst C 1 dX12_pour_219 (by decide) ?_
                                have e9 : cn = k := by omega
                                subst e9
                                exact wp_zret C Z dX12_pour_220 (by decide) (by decide) (by decide) ⟨by rw [bI_t hs0], rfl, rfl, by unfold aPour nPour; rw [if_pos hs0, hs0, et, ei, eu, ej, ec, cpw_all, show J (ad 6) = n 6 from hA.2.2.2]; exact (((MX.i hA).t hM 0).f hM 0 0).nv hM⟩
                              · have c162 : ¬ ((cn : Nat) : Int) ≤ ((k : Nat) : Int) := by have hcv := n_le c162; rw [nI_toInt (show cn < 2 ^ 31 by omega), nI_toInt (show k < 2 ^ 31 by omega)] at hcv; exact hcv
                                refine wp_iload C 6 dX12_pour_165 rfl ?_
                                refine wp_if_eq C 180 dX12_pour_167 (by decide) (fun c167 => ?_) (fun c167 => ?_)
                                · refine wp_iload C 7 dX12_pour_180 rfl ?_
                                  refine wp_istore C [(8, .int (nI k)), (0, .ref m), (1, .int (nI tn)), (2, .int (nI iN)), (3, .int (nI un)), (4, .int (nI jn)), (5, .int (nI cn)), (6, .int 0), (7, .int (nI k))] dX12_pour_182 (by decide) rfl ?_
                                  refine wp_aload_n C 1 dX12_pour_184 rfl rfl ?_
                                  refine wp_getR C dX12_pour_185 fX12_pour_20 hM.ob (hM.rf 6 rfl) ?_
                                  refine wp_bipush C 40 dX12_pour_188 (by decide) ?_
                                  refine wp_iload_n C 4 dX12_pour_190 rfl rfl ?_
                                  refine wp_imul C dX12_pour_191 ?_
                                  refine wp_eqi (pk_mul 40 un) ?_
                                  refine wp_iload C 5 dX12_pour_192 rfl ?_
                                  refine wp_iadd C dX12_pour_194 ?_
                                  refine wp_eqi (nI_add (40 * un) jn) ?_
                                  refine wp_iload C 0 dX12_pour_195 rfl ?_
                                  refine wp_iadd C dX12_pour_197 ?_
                                  refine wp_eqi (nI_add ((40 * un) + jn) k) ?_
                                  refine wp_aload_n C 1 dX12_pour_198 rfl rfl ?_
                                  refine wp_getR C dX12_pour_199 fX12_pour_20 hM.ob (hM.rf 6 rfl) ?_
                                  refine wp_bipush C 40 dX12_pour_202 (by decide) ?_
                                  refine wp_iload_n C 2 dX12_pour_204 rfl rfl ?_
                                  refine wp_imul C dX12_pour_205 ?_
                                  refine wp_eqi (pk_mul 40 tn) ?_
                                  refine wp_iload_n C 3 dX12_pour_206 rfl rfl ?_
                                  refine wp_iadd C dX12_pour_207 ?_
                                  refine wp_eqi (nI_add (40 * tn) iN) ?_
                                  refine wp_iload C 0 dX12_pour_208 rfl ?_
                                  refine wp_iadd C dX12_pour_210 ?_
                                  refine wp_eqi (nI_add ((40 * tn) + iN) k) ?_
                                  refine wp_lald C dX12_pour_211 (hM.ar 6 rfl rfl) (j := ((40 * tn) + iN) + k) rfl (by omega) (by decide) ?_
                                  refine wp_eql ((congrFun (vu_s _ _ _) _).trans (cpw_n (q := (40 * tn + iN) + (k)) (by omega))) ?_
                                  refine wp_last C dX12_pour_212 (hM.ar 6 rfl rfl) (j := ((40 * un) + jn) + k) rfl (by omega) (by decide) ?_
                                  refine wp_iinc C 8 (nI (k + 1)) [(7, .int (nI (k + 1))), (8, .int (nI k)), (0, .ref m), (1, .int (nI tn)), (2, .int (nI iN)), (3, .int (nI un)), (4, .int (nI jn)), (5, .int (nI cn)), (6, .int 0)] dX12_pour_213 rfl (nI_1 k) (by decide) rfl ?_
                                  refine wp_goto C 158 dX12_pour_216 (by decide) ?_
                                  refine wp_lv [2, 3, 4, 5, 6, 7, 8, 0] rfl ?_
                                  refine wp_eJ (u2_in _ _ _ _ _) ?_
                                  rw [cpw_up (f := J (ad 6)) (s := (40 * tn + iN)) (d := (40 * un + jn)) (k := k)]
                                  exact ih (k + 1) (by omega) (by omega) _ rfl
                                · exact absurd (by decide) c167
                            refine wp_lv [2, 3, 4, 5, 6, 7, 1, 0] rfl ?_
                            refine wp_eJ (J2 := va_up J (ad 6) (cpw (J (ad 6)) (40 * tn + iN) (40 * un + jn) 0 0)) (by rw [cpw_e, vu_id]) ?_
                            exact loop 0 (by omega) _ rfl
                          · have c145 : ¬ ((jn : Nat) : Int) ≤ ((iN : Nat) : Int) := by have hcv := n_le c145; rw [nI_toInt (show jn < 2 ^ 31 by omega), nI_toInt (show iN < 2 ^ 31 by omega)] at hcv; exact hcv
                            refine wp_iconst C 1 dX12_pour_148 (by decide) ?_
                            refine wp_goto C 153 dX12_pour_149 (by decide) ?_
                            refine wp_istore C [(6, .int 1), (0, .ref m), (1, .int (nI tn)), (2, .int (nI iN)), (3, .int (nI un)), (4, .int (nI jn)), (5, .int (nI cn))] dX12_pour_153 (by decide) rfl ?_
                            refine wp_iconst C 0 dX12_pour_155 (by decide) ?_
                            refine wp_istore C [(7, .int 0), (6, .int 1), (0, .ref m), (1, .int (nI tn)), (2, .int (nI iN)), (3, .int (nI un)), (4, .int (nI jn)), (5, .int (nI cn))] dX12_pour_156 (by decide) rfl ?_
                            have loop : ∀ k, k ≤ cn → ∀ lv, lv_pick lv [0, 1, 2, 3, 4, 5, 6, 7] = [(0, .ref m), (1, .int (nI tn)), (2, .int (nI iN)), (3, .int (nI un)), (4, .int (nI jn)), (5, .int (nI cn)), (6, .int 1), (7, .int (nI k))] → WP E 9 0 0 T (u2 (u2 I m 1 0) m 0 0) (va_up J (ad 6) (cpw (J (ad 6)) (40 * tn + iN) (40 * un + jn) (cn - k) cn)) R 158 lv [] := by
                              refine loopN cn (fun k hk ih => ?_)
                              intro lv hlv
                              refine wp_lv [0, 1, 2, 3, 4, 5, 6, 7] hlv ?_
                              refine wp_iload C 7 dX12_pour_158 rfl ?_
                              refine wp_iload C 5 dX12_pour_160 rfl ?_
                              refine wp_icmp_ge C 219 dX12_pour_162 (by decide) (fun c162 => ?_) (fun c162 => ?_)
                              · have c162 : ((cn : Nat) : Int) ≤ ((k : Nat) : Int) := by have hcv := p_le c162; rw [nI_toInt (show cn < 2 ^ 31 by omega), nI_toInt (show k < 2 ^ 31 by omega)] at hcv; exact hcv
                                refine wp_iconst C 1 dX12_pour_219 (by decide) ?_
                                have e9 : cn = k := by omega
                                subst e9
                                rw [Nat.sub_self]
                                exact wp_zret C Z dX12_pour_220 (by decide) (by decide) (by decide) ⟨by rw [bI_t hs0], rfl, rfl, by unfold aPour nPour; rw [if_pos hs0, hs0, et, ei, eu, ej, ec, cpw_all, show J (ad 6) = n 6 from hA.2.2.2]; exact (((MX.i hA).t hM 0).f hM 0 0).nv hM⟩
                              · have c162 : ¬ ((cn : Nat) : Int) ≤ ((k : Nat) : Int) := by have hcv := n_le c162; rw [nI_toInt (show cn < 2 ^ 31 by omega), nI_toInt (show k < 2 ^ 31 by omega)] at hcv; exact hcv
                                refine wp_iload C 6 dX12_pour_165 rfl ?_
                                refine wp_if_eq C 180 dX12_pour_167 (by decide) (fun c167 => ?_) (fun c167 => ?_)
                                · exact absurd c167 (by decide)
                                · refine wp_iload C 5 dX12_pour_170 rfl ?_
                                  refine wp_iconst C 1 dX12_pour_172 (by decide) ?_
                                  refine wp_isub C dX12_pour_173 ?_
                                  refine wp_iload C 7 dX12_pour_174 rfl ?_
                                  refine wp_isub C dX12_pour_176 ?_
                                  refine wp_goto C 182 dX12_pour_177 (by decide) ?_
                                  refine wp_eqi (show (nI cn - 1) - nI k = nI (cn - 1 - k) by rw [show (1 : Int32) = nI 1 from rfl, nI_sb (show 1 ≤ cn by omega), nI_sb (by omega)]) ?_
                                  refine wp_istore C [(8, .int (nI (cn - 1 - k))), (0, .ref m), (1, .int (nI tn)), (2, .int (nI iN)), (3, .int (nI un)), (4, .int (nI jn)), (5, .int (nI cn)), (6, .int 1), (7, .int (nI k))] dX12_pour_182 (by decide) rfl ?_
                                  refine wp_aload_n C 1 dX12_pour_184 rfl rfl ?_
                                  refine wp_getR C dX12_pour_185 fX12_pour_20 hM.ob (hM.rf 6 rfl) ?_
                                  refine wp_bipush C 40 dX12_pour_188 (by decide) ?_
                                  refine wp_iload_n C 4 dX12_pour_190 rfl rfl ?_
                                  refine wp_imul C dX12_pour_191 ?_
                                  refine wp_eqi (pk_mul 40 un) ?_
                                  refine wp_iload C 5 dX12_pour_192 rfl ?_
                                  refine wp_iadd C dX12_pour_194 ?_
                                  refine wp_eqi (nI_add (40 * un) jn) ?_
                                  refine wp_iload C 0 dX12_pour_195 rfl ?_
                                  refine wp_iadd C dX12_pour_197 ?_
                                  refine wp_eqi (nI_add ((40 * un) + jn) (cn - 1 - k)) ?_
                                  refine wp_aload_n C 1 dX12_pour_198 rfl rfl ?_
                                  refine wp_getR C dX12_pour_199 fX12_pour_20 hM.ob (hM.rf 6 rfl) ?_
                                  refine wp_bipush C 40 dX12_pour_202 (by decide) ?_
                                  refine wp_iload_n C 2 dX12_pour_204 rfl rfl ?_
                                  refine wp_imul C dX12_pour_205 ?_
                                  refine wp_eqi (pk_mul 40 tn) ?_
                                  refine wp_iload_n C 3 dX12_pour_206 rfl rfl ?_
                                  refine wp_iadd C dX12_pour_207 ?_
                                  refine wp_eqi (nI_add (40 * tn) iN) ?_
                                  refine wp_iload C 0 dX12_pour_208 rfl ?_
                                  refine wp_iadd C dX12_pour_210 ?_
                                  refine wp_eqi (nI_add ((40 * tn) + iN) (cn - 1 - k)) ?_
                                  refine wp_lald C dX12_pour_211 (hM.ar 6 rfl rfl) (j := ((40 * tn) + iN) + (cn - 1 - k)) rfl (by omega) (by decide) ?_
                                  refine wp_eql ((congrFun (vu_s _ _ _) _).trans (cpw_n (q := (40 * tn + iN) + (cn - 1 - k)) (by omega))) ?_
                                  refine wp_last C dX12_pour_212 (hM.ar 6 rfl rfl) (j := ((40 * un) + jn) + (cn - 1 - k)) rfl (by omega) (by decide) ?_
                                  refine wp_iinc C 8 (nI (k + 1)) [(7, .int (nI (k + 1))), (8, .int (nI (cn - 1 - k))), (0, .ref m), (1, .int (nI tn)), (2, .int (nI iN)), (3, .int (nI un)), (4, .int (nI jn)), (5, .int (nI cn)), (6, .int 1)] dX12_pour_213 rfl (nI_1 k) (by decide) rfl ?_
                                  refine wp_goto C 158 dX12_pour_216 (by decide) ?_
                                  refine wp_lv [2, 3, 4, 5, 6, 7, 8, 0] rfl ?_
                                  refine wp_eJ (u2_in _ _ _ _ _) ?_
                                  rw [cpw_dn (f := J (ad 6)) (s := (40 * tn + iN)) (d := (40 * un + jn)) (k := k) (c := cn) (by omega)]
                                  exact ih (k + 1) (by omega) (by omega) _ rfl
                            refine wp_lv [2, 3, 4, 5, 6, 7, 1, 0] rfl ?_
                            refine wp_eJ (J2 := va_up J (ad 6) (cpw (J (ad 6)) (40 * tn + iN) (40 * un + jn) (cn - 0) cn)) (by rw [Nat.sub_zero]; rw [cpw_e, vu_id]) ?_
                            exact loop 0 (by omega) _ rfl
                        · have c133 : ¬ (j.toInt + c.toInt) ≤ (a 5 u.toInt.toNat).toInt := by have hcv : ¬ (lg_cmp (j.toInt64 + c.toInt64) ((a 5 u.toInt.toNat).toInt64)).toInt ≤ 0 := n_le c133; have hz := lc_s (j.toInt64 + c.toInt64) ((a 5 u.toInt.toNat).toInt64); rw [(lj_sum (i2l_T j) (i2l_T c) (by omega) (by omega))] at hz; rw [(i2l_T (a 5 u.toInt.toNat))] at hz; omega
                          refine wp_aload_n C 0 dX12_pour_136 rfl rfl ?_
                          refine wp_iconst C 5 dX12_pour_137 (by decide) ?_
                          refine wp_cVi C (As := [.int 5]) (rest := []) dX12_pour_138 kX12_pour_140 hM.ob (m_no _ hM 5) rfl (Nat.le_of_ble_eq_true rfl) (by decide) (by decide) ?_
                          have hst : stPour a t i u j c = 5 := by simp only [stPour]; (repeat' split) <;> omega
                          have hs0 : ¬ stPour a t i u j c = 0 := by rw [hst]; decide
                          exact wp_zret C Z dX12_pour_141 (by decide) (by decide) (by decide) ⟨by rw [bI_f hs0], rfl, rfl, by unfold aPour nPour; rw [if_neg hs0, hst]; exact MX.no hA hM 5⟩
                · have c82 : ¬ 0 ≤ c.toInt := by have hcv := n_le c82; exact hcv
                  refine wp_aload_n C 0 dX12_pour_85 rfl rfl ?_
                  refine wp_bipush C 6 dX12_pour_86 (by decide) ?_
                  refine wp_cVi C (As := [.int 6]) (rest := []) dX12_pour_88 kX12_pour_140 hM.ob (m_no _ hM 6) rfl (Nat.le_of_ble_eq_true rfl) (by decide) (by decide) ?_
                  have hst : stPour a t i u j c = 6 := by simp only [stPour]; (repeat' split) <;> omega
                  have hs0 : ¬ stPour a t i u j c = 0 := by rw [hst]; decide
                  exact wp_zret C Z dX12_pour_91 (by decide) (by decide) (by decide) ⟨by rw [bI_f hs0], rfl, rfl, by unfold aPour nPour; rw [if_neg hs0, hst]; exact MX.no hA hM 6⟩
              · have c70 : ¬ (a 4 t.toInt.toNat).toInt = (a 4 u.toInt.toNat).toInt := by have hcv := n_eq c70; exact hcv
                refine wp_aload_n C 0 dX12_pour_73 rfl rfl ?_
                refine wp_bipush C 11 dX12_pour_74 (by decide) ?_
                refine wp_cVi C (As := [.int 11]) (rest := []) dX12_pour_76 kX12_pour_140 hM.ob (m_no _ hM 11) rfl (Nat.le_of_ble_eq_true rfl) (by decide) (by decide) ?_
                have hst : stPour a t i u j c = 11 := by simp only [stPour]; (repeat' split) <;> omega
                have hs0 : ¬ stPour a t i u j c = 0 := by rw [hst]; decide
                exact wp_zret C Z dX12_pour_79 (by decide) (by decide) (by decide) ⟨by rw [bI_f hs0], rfl, rfl, by unfold aPour nPour; rw [if_neg hs0, hst]; exact MX.no hA hM 11⟩
            · have c49 : ¬ 0 ≤ (a 5 u.toInt.toNat).toInt := by have hcv := n_le c49; exact hcv
              refine wp_aload_n C 0 dX12_pour_52 rfl rfl ?_
              refine wp_iconst C 4 dX12_pour_53 (by decide) ?_
              refine wp_cVi C (As := [.int 4]) (rest := []) dX12_pour_54 kX12_pour_140 hM.ob (m_no _ hM 4) rfl (Nat.le_of_ble_eq_true rfl) (by decide) (by decide) ?_
              have hst : stPour a t i u j c = 4 := by simp only [stPour]; (repeat' split) <;> omega
              have hs0 : ¬ stPour a t i u j c = 0 := by rw [hst]; decide
              exact wp_zret C Z dX12_pour_57 (by decide) (by decide) (by decide) ⟨by rw [bI_f hs0], rfl, rfl, by unfold aPour nPour; rw [if_neg hs0, hst]; exact MX.no hA hM 4⟩
        · have c25 : ¬ u.toInt < 4 := by have hcv := n_lt c25; exact hcv
          refine wp_aload_n C 0 dX12_pour_28 rfl rfl ?_
          refine wp_iconst C 1 dX12_pour_29 (by decide) ?_
          refine wp_cVi C (As := [.int 1]) (rest := []) dX12_pour_30 kX12_pour_140 hM.ob (m_no _ hM 1) rfl (Nat.le_of_ble_eq_true rfl) (by decide) (by decide) ?_
          have hst : stPour a t i u j c = 1 := by simp only [stPour]; (repeat' split) <;> omega
          have hs0 : ¬ stPour a t i u j c = 0 := by rw [hst]; decide
          exact wp_zret C Z dX12_pour_33 (by decide) (by decide) (by decide) ⟨by rw [bI_f hs0], rfl, rfl, by unfold aPour nPour; rw [if_neg hs0, hst]; exact MX.no hA hM 1⟩
