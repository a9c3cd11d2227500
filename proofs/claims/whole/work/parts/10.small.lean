/-! ===== small methods ===== -/
theorem i_lt (a b : Int32) : a < b ↔ a.toInt < b.toInt := Int32.lt_iff_toInt_lt
theorem i_le (a b : Int32) : a ≤ b ↔ a.toInt ≤ b.toInt := Int32.le_iff_toInt_le
theorem i_eq (a b : Int32) : a = b ↔ a.toInt = b.toInt := ⟨fun h => h ▸ rfl, Int32.toInt_inj.mp⟩
theorem p_lt {a b : Int32} (h : a < b) : a.toInt < b.toInt := (i_lt a b).mp h
theorem p_le {a b : Int32} (h : a ≤ b) : a.toInt ≤ b.toInt := (i_le a b).mp h
theorem p_eq {a b : Int32} (h : a = b) : a.toInt = b.toInt := (i_eq a b).mp h
theorem n_lt {a b : Int32} (h : ¬ a < b) : ¬ a.toInt < b.toInt := fun g => h ((i_lt a b).mpr g)
theorem n_le {a b : Int32} (h : ¬ a ≤ b) : ¬ a.toInt ≤ b.toInt := fun g => h ((i_le a b).mpr g)
theorem n_eq {a b : Int32} (h : ¬ a = b) : ¬ a.toInt = b.toInt := fun g => h ((i_eq a b).mpr g)
def bI (p : Prop) [Decidable p] : Int32 := if p then 1 else 0
theorem bI_t {p : Prop} [Decidable p] (h : p) : bI p = 1 := if_pos h
theorem bI_f {p : Prop} [Decidable p] (h : ¬ p) : bI p = 0 := if_neg h
theorem bI_01 (p : Prop) [Decidable p] : bI p = 0 ∨ bI p = 1 := by
  by_cases h : p
  · exact Or.inr (bI_t h)
  · exact Or.inl (bI_f h)
theorem bI_0 {p : Prop} [Decidable p] : (bI p).toInt = 0 ↔ ¬ p := by
  by_cases h : p
  · rw [bI_t h]; exact ⟨fun e => absurd e (by decide), fun e => absurd h e⟩
  · rw [bI_f h]; exact ⟨fun _ => h, fun _ => rfl⟩
set_option maxRecDepth 100000 in
set_option maxHeartbeats 4000000 in
theorem c_isTray (l : Launch) {T : gSh} {I : gI} {J : gJ} {R : gR} (x : Int32) : Con l yX11_isTray wsX11_isTray ({ frames := 0, cells := 0, slots := 0, locals := 0 }) [.int x] T I J R (gP (some (.int (bI (0 ≤ x.toInt ∧ x.toInt < 4)))) T I J R) := by
  refine Con.mk (cc := cX11_isTray) (maxL := 1) (ret := (some .boolean)) (by decide) rfl (Nat.le_of_ble_eq_true rfl) ?_
  intro E hE C Z hnm
  subst hE
  change WP E 1 0 0 T I J R 0 [(0, .int x)] []
  refine wp_iload_n C 0 dX11_isTray_0 rfl rfl ?_
  refine wp_if_lt C 13 dX11_isTray_1 (by decide) (fun c1 => ?_) (fun c1 => ?_)
  · have c1 : x.toInt < 0 := by have h := p_lt c1; exact h
    refine wp_iconst C 0 dX11_isTray_13 (by decide) ?_
    exact wp_zret C Z dX11_isTray_14 (by decide) (by decide) (by decide) (by rw [bI_f (by omega)]; exact gP_rf)
  · have c1 : ¬ x.toInt < 0 := by have h := n_lt c1; exact h
    refine wp_iload_n C 0 dX11_isTray_4 rfl rfl ?_
    refine wp_iconst C 4 dX11_isTray_5 (by decide) ?_
    refine wp_icmp_ge C 13 dX11_isTray_6 (by decide) (fun c6 => ?_) (fun c6 => ?_)
    · have c6 : 4 ≤ x.toInt := by have h := p_le c6; exact h
      refine wp_iconst C 0 dX11_isTray_13 (by decide) ?_
      exact wp_zret C Z dX11_isTray_14 (by decide) (by decide) (by decide) (by rw [bI_f (by omega)]; exact gP_rf)
    · have c6 : ¬ 4 ≤ x.toInt := by have h := n_le c6; exact h
      refine wp_iconst C 1 dX11_isTray_9 (by decide) ?_
      refine wp_goto C 14 dX11_isTray_10 (by decide) ?_
      exact wp_zret C Z dX11_isTray_14 (by decide) (by decide) (by decide) (by rw [bI_t (by omega)]; exact gP_rf)
set_option maxRecDepth 100000 in
set_option maxHeartbeats 4000000 in
theorem c_isDay (l : Launch) {T : gSh} {I : gI} {J : gJ} {R : gR} (x : Int32) : Con l yX11_isDay wsX11_isDay ({ frames := 0, cells := 0, slots := 0, locals := 0 }) [.int x] T I J R (gP (some (.int (bI (0 ≤ x.toInt ∧ x.toInt ≤ 9999)))) T I J R) := by
  refine Con.mk (cc := cX11_isDay) (maxL := 1) (ret := (some .boolean)) (by decide) rfl (Nat.le_of_ble_eq_true rfl) ?_
  intro E hE C Z hnm
  subst hE
  change WP E 1 0 0 T I J R 0 [(0, .int x)] []
  refine wp_iload_n C 0 dX11_isDay_0 rfl rfl ?_
  refine wp_if_lt C 15 dX11_isDay_1 (by decide) (fun c1 => ?_) (fun c1 => ?_)
  · have c1 : x.toInt < 0 := by have h := p_lt c1; exact h
    refine wp_iconst C 0 dX11_isDay_15 (by decide) ?_
    exact wp_zret C Z dX11_isDay_16 (by decide) (by decide) (by decide) (by rw [bI_f (by omega)]; exact gP_rf)
  · have c1 : ¬ x.toInt < 0 := by have h := n_lt c1; exact h
    refine wp_iload_n C 0 dX11_isDay_4 rfl rfl ?_
    refine wp_sipush C 9999 dX11_isDay_5 (by decide) ?_
    refine wp_icmp_gt C 15 dX11_isDay_8 (by decide) (fun c8 => ?_) (fun c8 => ?_)
    · have c8 : 9999 < x.toInt := by have h := p_lt c8; exact h
      refine wp_iconst C 0 dX11_isDay_15 (by decide) ?_
      exact wp_zret C Z dX11_isDay_16 (by decide) (by decide) (by decide) (by rw [bI_f (by omega)]; exact gP_rf)
    · have c8 : ¬ 9999 < x.toInt := by have h := n_lt c8; exact h
      refine wp_iconst C 1 dX11_isDay_11 (by decide) ?_
      refine wp_goto C 16 dX11_isDay_12 (by decide) ?_
      exact wp_zret C Z dX11_isDay_16 (by decide) (by decide) (by decide) (by rw [bI_t (by omega)]; exact gP_rf)
set_option maxRecDepth 100000 in
set_option maxHeartbeats 4000000 in
theorem c_isMinute (l : Launch) {T : gSh} {I : gI} {J : gJ} {R : gR} (x : Int32) : Con l yX11_isMinute wsX11_isMinute ({ frames := 0, cells := 0, slots := 0, locals := 0 }) [.int x] T I J R (gP (some (.int (bI (0 ≤ x.toInt ∧ x.toInt ≤ 100000)))) T I J R) := by
  refine Con.mk (cc := cX11_isMinute) (maxL := 1) (ret := (some .boolean)) (by decide) rfl (Nat.le_of_ble_eq_true rfl) ?_
  intro E hE C Z hnm
  subst hE
  change WP E 1 0 0 T I J R 0 [(0, .int x)] []
  refine wp_iload_n C 0 dX11_isMinute_0 rfl rfl ?_
  refine wp_if_lt C 14 dX11_isMinute_1 (by decide) (fun c1 => ?_) (fun c1 => ?_)
  · have c1 : x.toInt < 0 := by have h := p_lt c1; exact h
    refine wp_iconst C 0 dX11_isMinute_14 (by decide) ?_
    exact wp_zret C Z dX11_isMinute_15 (by decide) (by decide) (by decide) (by rw [bI_f (by omega)]; exact gP_rf)
  · have c1 : ¬ x.toInt < 0 := by have h := n_lt c1; exact h
    refine wp_iload_n C 0 dX11_isMinute_4 rfl rfl ?_
    refine wp_ldc C 100000 dX11_isMinute_5 (by decide +kernel) ?_
    refine wp_icmp_gt C 14 dX11_isMinute_7 (by decide) (fun c7 => ?_) (fun c7 => ?_)
    · have c7 : 100000 < x.toInt := by have h := p_lt c7; exact h
      refine wp_iconst C 0 dX11_isMinute_14 (by decide) ?_
      exact wp_zret C Z dX11_isMinute_15 (by decide) (by decide) (by decide) (by rw [bI_f (by omega)]; exact gP_rf)
    · have c7 : ¬ 100000 < x.toInt := by have h := n_lt c7; exact h
      refine wp_iconst C 1 dX11_isMinute_10 (by decide) ?_
      refine wp_goto C 15 dX11_isMinute_11 (by decide) ?_
      exact wp_zret C Z dX11_isMinute_15 (by decide) (by decide) (by decide) (by rw [bI_t (by omega)]; exact gP_rf)
set_option maxRecDepth 100000 in
set_option maxHeartbeats 4000000 in
theorem m_isDay (l : Launch) {T : gSh} {I : gI} {J : gJ} {R : gR} (x : Int32) : Con l yX12_isDay wsX12_isDay ({ frames := 0, cells := 0, slots := 0, locals := 0 }) [.int x] T I J R (gP (some (.int (bI (0 ≤ x.toInt ∧ x.toInt ≤ 9999)))) T I J R) := by
  refine Con.mk (cc := cX12_isDay) (maxL := 1) (ret := (some .boolean)) (by decide) rfl (Nat.le_of_ble_eq_true rfl) ?_
  intro E hE C Z hnm
  subst hE
  change WP E 1 0 0 T I J R 0 [(0, .int x)] []
  refine wp_iload_n C 0 dX12_isDay_0 rfl rfl ?_
  refine wp_if_lt C 15 dX12_isDay_1 (by decide) (fun c1 => ?_) (fun c1 => ?_)
  · have c1 : x.toInt < 0 := by have h := p_lt c1; exact h
    refine wp_iconst C 0 dX12_isDay_15 (by decide) ?_
    exact wp_zret C Z dX12_isDay_16 (by decide) (by decide) (by decide) (by rw [bI_f (by omega)]; exact gP_rf)
  · have c1 : ¬ x.toInt < 0 := by have h := n_lt c1; exact h
    refine wp_iload_n C 0 dX12_isDay_4 rfl rfl ?_
    refine wp_sipush C 9999 dX12_isDay_5 (by decide) ?_
    refine wp_icmp_gt C 15 dX12_isDay_8 (by decide) (fun c8 => ?_) (fun c8 => ?_)
    · have c8 : 9999 < x.toInt := by have h := p_lt c8; exact h
      refine wp_iconst C 0 dX12_isDay_15 (by decide) ?_
      exact wp_zret C Z dX12_isDay_16 (by decide) (by decide) (by decide) (by rw [bI_f (by omega)]; exact gP_rf)
    · have c8 : ¬ 9999 < x.toInt := by have h := n_lt c8; exact h
      refine wp_iconst C 1 dX12_isDay_11 (by decide) ?_
      refine wp_goto C 16 dX12_isDay_12 (by decide) ?_
      exact wp_zret C Z dX12_isDay_16 (by decide) (by decide) (by decide) (by rw [bI_t (by omega)]; exact gP_rf)
set_option maxRecDepth 100000 in
set_option maxHeartbeats 4000000 in
theorem m_isMinute (l : Launch) {T : gSh} {I : gI} {J : gJ} {R : gR} (x : Int32) : Con l yX12_isMinute wsX12_isMinute ({ frames := 0, cells := 0, slots := 0, locals := 0 }) [.int x] T I J R (gP (some (.int (bI (0 ≤ x.toInt ∧ x.toInt ≤ 100000)))) T I J R) := by
  refine Con.mk (cc := cX12_isMinute) (maxL := 1) (ret := (some .boolean)) (by decide) rfl (Nat.le_of_ble_eq_true rfl) ?_
  intro E hE C Z hnm
  subst hE
  change WP E 1 0 0 T I J R 0 [(0, .int x)] []
  refine wp_iload_n C 0 dX12_isMinute_0 rfl rfl ?_
  refine wp_if_lt C 14 dX12_isMinute_1 (by decide) (fun c1 => ?_) (fun c1 => ?_)
  · have c1 : x.toInt < 0 := by have h := p_lt c1; exact h
    refine wp_iconst C 0 dX12_isMinute_14 (by decide) ?_
    exact wp_zret C Z dX12_isMinute_15 (by decide) (by decide) (by decide) (by rw [bI_f (by omega)]; exact gP_rf)
  · have c1 : ¬ x.toInt < 0 := by have h := n_lt c1; exact h
    refine wp_iload_n C 0 dX12_isMinute_4 rfl rfl ?_
    refine wp_ldc C 100000 dX12_isMinute_5 (by decide +kernel) ?_
    refine wp_icmp_gt C 14 dX12_isMinute_7 (by decide) (fun c7 => ?_) (fun c7 => ?_)
    · have c7 : 100000 < x.toInt := by have h := p_lt c7; exact h
      refine wp_iconst C 0 dX12_isMinute_14 (by decide) ?_
      exact wp_zret C Z dX12_isMinute_15 (by decide) (by decide) (by decide) (by rw [bI_f (by omega)]; exact gP_rf)
    · have c7 : ¬ 100000 < x.toInt := by have h := n_lt c7; exact h
      refine wp_iconst C 1 dX12_isMinute_10 (by decide) ?_
      refine wp_goto C 15 dX12_isMinute_11 (by decide) ?_
      exact wp_zret C Z dX12_isMinute_15 (by decide) (by decide) (by decide) (by rw [bI_t (by omega)]; exact gP_rf)
set_option maxRecDepth 100000 in
set_option maxHeartbeats 4000000 in
theorem m_areCells (l : Launch) {T : gSh} {I : gI} {J : gJ} {R : gR} (x y z : Int32) : Con l yX12_areCells wsX12_areCells ({ frames := 0, cells := 0, slots := 0, locals := 0 }) [.int x, .int y, .int z] T I J R (gP (some (.int (bI ((1 ≤ x.toInt ∧ x.toInt ≤ 255) ∧ (1 ≤ y.toInt ∧ y.toInt ≤ 15) ∧ (1 ≤ z.toInt ∧ z.toInt ≤ 15))))) T I J R) := by
  refine Con.mk (cc := cX12_areCells) (maxL := 3) (ret := (some .boolean)) (by decide) rfl (Nat.le_of_ble_eq_true rfl) ?_
  intro E hE C Z hnm
  subst hE
  change WP E 3 0 0 T I J R 0 [(0, .int x), (1, .int y), (2, .int z)] []
  refine wp_iload_n C 0 dX12_areCells_0 rfl rfl ?_
  refine wp_iconst C 1 dX12_areCells_1 (by decide) ?_
  refine wp_icmp_lt C 38 dX12_areCells_2 (by decide) (fun c2 => ?_) (fun c2 => ?_)
  · have c2 : x.toInt < 1 := by have h := p_lt c2; exact h
    refine wp_iconst C 0 dX12_areCells_38 (by decide) ?_
    exact wp_zret C Z dX12_areCells_39 (by decide) (by decide) (by decide) (by rw [bI_f (by omega)]; exact gP_rf)
  · have c2 : ¬ x.toInt < 1 := by have h := n_lt c2; exact h
    refine wp_iload_n C 0 dX12_areCells_5 rfl rfl ?_
    refine wp_sipush C 255 dX12_areCells_6 (by decide) ?_
    refine wp_icmp_gt C 38 dX12_areCells_9 (by decide) (fun c9 => ?_) (fun c9 => ?_)
    · have c9 : 255 < x.toInt := by have h := p_lt c9; exact h
      refine wp_iconst C 0 dX12_areCells_38 (by decide) ?_
      exact wp_zret C Z dX12_areCells_39 (by decide) (by decide) (by decide) (by rw [bI_f (by omega)]; exact gP_rf)
    · have c9 : ¬ 255 < x.toInt := by have h := n_lt c9; exact h
      refine wp_iload_n C 1 dX12_areCells_12 rfl rfl ?_
      refine wp_iconst C 1 dX12_areCells_13 (by decide) ?_
      refine wp_icmp_lt C 38 dX12_areCells_14 (by decide) (fun c14 => ?_) (fun c14 => ?_)
      · have c14 : y.toInt < 1 := by have h := p_lt c14; exact h
        refine wp_iconst C 0 dX12_areCells_38 (by decide) ?_
        exact wp_zret C Z dX12_areCells_39 (by decide) (by decide) (by decide) (by rw [bI_f (by omega)]; exact gP_rf)
      · have c14 : ¬ y.toInt < 1 := by have h := n_lt c14; exact h
        refine wp_iload_n C 1 dX12_areCells_17 rfl rfl ?_
        refine wp_bipush C 15 dX12_areCells_18 (by decide) ?_
        refine wp_icmp_gt C 38 dX12_areCells_20 (by decide) (fun c20 => ?_) (fun c20 => ?_)
        · have c20 : 15 < y.toInt := by have h := p_lt c20; exact h
          refine wp_iconst C 0 dX12_areCells_38 (by decide) ?_
          exact wp_zret C Z dX12_areCells_39 (by decide) (by decide) (by decide) (by rw [bI_f (by omega)]; exact gP_rf)
        · have c20 : ¬ 15 < y.toInt := by have h := n_lt c20; exact h
          refine wp_iload_n C 2 dX12_areCells_23 rfl rfl ?_
          refine wp_iconst C 1 dX12_areCells_24 (by decide) ?_
          refine wp_icmp_lt C 38 dX12_areCells_25 (by decide) (fun c25 => ?_) (fun c25 => ?_)
          · have c25 : z.toInt < 1 := by have h := p_lt c25; exact h
            refine wp_iconst C 0 dX12_areCells_38 (by decide) ?_
            exact wp_zret C Z dX12_areCells_39 (by decide) (by decide) (by decide) (by rw [bI_f (by omega)]; exact gP_rf)
          · have c25 : ¬ z.toInt < 1 := by have h := n_lt c25; exact h
            refine wp_iload_n C 2 dX12_areCells_28 rfl rfl ?_
            refine wp_bipush C 15 dX12_areCells_29 (by decide) ?_
            refine wp_icmp_gt C 38 dX12_areCells_31 (by decide) (fun c31 => ?_) (fun c31 => ?_)
            · have c31 : 15 < z.toInt := by have h := p_lt c31; exact h
              refine wp_iconst C 0 dX12_areCells_38 (by decide) ?_
              exact wp_zret C Z dX12_areCells_39 (by decide) (by decide) (by decide) (by rw [bI_f (by omega)]; exact gP_rf)
            · have c31 : ¬ 15 < z.toInt := by have h := n_lt c31; exact h
              refine wp_iconst C 1 dX12_areCells_34 (by decide) ?_
              refine wp_goto C 39 dX12_areCells_35 (by decide) ?_
              exact wp_zret C Z dX12_areCells_39 (by decide) (by decide) (by decide) (by rw [bI_t (by omega)]; exact gP_rf)
