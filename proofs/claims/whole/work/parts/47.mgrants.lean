/-! ===== grants of the reference ===== -/
/-- what the grants keep to -/
def okG (a : gI) : Prop := (0 ≤ (a 0 22).toInt ∧ (a 0 22).toInt ≤ 60) ∧ ∀ i, i < gN_ a → vR (gv a i) ∧ 0 ≤ (a 29 i).toInt ∧ ((a 35 i).toInt = -1 ∨ (0 ≤ (a 35 i).toInt ∧ (a 35 i).toInt ≤ 9999))
theorem okG.st {a : gI} (h : okG a) (s : Int32) : okG (u2 a 0 0 s) := h
theorem KG.ok {T : gSh} {I : gI} {R : gR} {ca : Nat → Nat} {a : gI} (k : KG T I R ca a) : okG a := by
  have h := k.ar
  obtain ⟨g, k1, k2, k3, ga, ra, k4, -⟩ := k
  have e : gN_ a = g := by unfold gN_; rw [k3, nI_toInt (by omega)]; rfl
  refine ⟨⟨h.2.1, h.2.2.1⟩, fun i hi => ⟨(k4 i (by omega)).2.2.2.2.1, h.2.2.2 i hi, ?_⟩⟩
  rcases (k4 i (by omega)).2.2.2.2.2.2.2.2.1 with z | z
  · exact Or.inl z.1
  · exact Or.inr z.1
def lastV (a : gI) (i : Nat) : Int32 := if (a 35 i).toInt < 0 then a 34 i else mnI (a 34 i) (a 35 i - 1)
theorem lastV_T {a : gI} {i : Nat} (h : (a 35 i).toInt = -1 ∨ (0 ≤ (a 35 i).toInt ∧ (a 35 i).toInt ≤ 9999)) : (lastV a i).toInt = lastI a i := by
  unfold lastV lastI
  by_cases z : (a 35 i).toInt < 0
  · rw [if_pos z, if_pos z]
  · rw [if_neg z, if_neg z]
    have hm := mn_s (show mnI (a 34 i) (a 35 i - 1) = _ from rfl)
    rw [dm1 (by omega)] at hm
    split <;> omega
theorem hit_T {a : gI} {b p t f d u : Int32} {i : Nat} : hitN a b (rv p t f d u) i = 0 ↔ ((a 28 i).toInt = b.toInt ∧ ¬ (a 30 i &&& p).toInt = 0 ∧ ¬ (a 31 i &&& t).toInt = 0 ∧ ¬ (a 32 i &&& f).toInt = 0 ∧ d.toInt ≤ u.toInt ∧ d.toInt ≤ lastI a i ∧ (a 33 i).toInt ≤ u.toInt ∧ (a 33 i).toInt ≤ lastI a i) := by
  rw [hitN_0]
  have z : ∀ x : Int32, (x ≠ 0 ↔ ¬ x.toInt = 0) := fun x => ⟨fun h q => h ((i_eq _ _).mpr q), fun h q => h (by rw [q]; rfl)⟩
  show (a 28 i = b ∧ (a 30 i &&& p ≠ 0) ∧ (a 31 i &&& t ≠ 0) ∧ (a 32 i &&& f ≠ 0) ∧ d.toInt ≤ u.toInt ∧ d.toInt ≤ lastI a i ∧ (a 33 i).toInt ≤ u.toInt ∧ (a 33 i).toInt ≤ lastI a i) ↔ _
  rw [i_eq, z, z, z]
theorem MX.tr {I I1 I2 : gI} {J J1 J2 : gJ} {m : Nat} {ad : Nat → Nat} {a a2 : gI} {n n2 : gJ} (h : MX I I1 J J1 m ad a n) (g : MX I1 I2 J1 J2 m ad a2 n2) : MX I I2 J J2 m ad a2 n2 :=
  ⟨fun x hx => ⟨(g.1 x hx).1.trans (h.1 x hx).1, (g.1 x hx).2.trans (h.1 x hx).2⟩, g.2⟩
theorem can_T {p t f d u : Int32} : can (rv p t f d u) = if (1 ≤ p.toInt ∧ p.toInt ≤ 255) ∧ (1 ≤ t.toInt ∧ t.toInt ≤ 15) ∧ (1 ≤ f.toInt ∧ f.toInt ≤ 15) ∧ (0 ≤ d.toInt ∧ d.toInt ≤ 9999) ∧ (0 ≤ u.toInt ∧ u.toInt ≤ 9999) ∧ d.toInt ≤ u.toInt then 1 else 0 := rfl
theorem bits_all : ∀ x, x < 256 → ∀ k, k < 8 → ((((nI x >>> (nI k &&& 31)) &&& 1).toInt = 1) ↔ ¬ ((nI x &&& (1 <<< (nI k &&& 31))).toInt = 0)) := by decide +kernel
theorem bit_T {x : Int32} (hx : 0 ≤ x.toInt ∧ x.toInt ≤ 255) {k : Nat} (hk : k < 8) : (((x >>> (nI k &&& 31)) &&& 1).toInt = 1) ↔ ¬ ((x &&& (1 <<< (nI k &&& 31))).toInt = 0) := by
  obtain ⟨y, hy, rfl⟩ := natOf hx.1
  exact bits_all y (by omega) k hk
/-- the first grant with the cell, as the reference tells it -/
def gOfV (a : gI) (b : Int32) (v : Nat → Int32) : Int32 := if own a (gN_ a) b v < gN_ a then nI (own a (gN_ a) b v) else -1
set_option maxRecDepth 100000 in
set_option maxHeartbeats 4000000 in
theorem m_lastOf (l : Launch) {T : gSh} {I : gI} {J : gJ} {R : gR} {m : Nat} {ad : Nat → Nat} (hM : MO T R m ad) {a : gI} {n : gJ} (hA : MA I J m ad a n) {i : Nat} (hi : i < 60) : Con l yX12_lastOf wsX12_lastOf ({ frames := 1, cells := 0, slots := 0, locals := 21 }) [.ref m, .int (nI i)] T I J R (gP (some (.int (lastV a i))) T I J R) := by
  refine Con.mk (cc := cX12_lastOf) (maxL := 2) (ret := (some .int)) (by decide) rfl (Nat.le_of_ble_eq_true rfl) ?_
  intro E hE C Z hnm
  subst hE
  change WP E 2 0 0 T I J R 0 [(0, .ref m), (1, .int (nI i))] []
  refine wp_aload_n C 0 dX12_lastOf_0 rfl rfl ?_
  refine wp_getR C dX12_lastOf_1 fX12_lastOf_89 hM.ob (hM.rf 35 rfl) ?_
  refine wp_iload_n C 1 dX12_lastOf_4 rfl rfl ?_
  refine wp_iald C dX12_lastOf_5 (hM.ar 35 rfl rfl) (j := i) rfl (by omega) (by decide) ?_
  refine wp_eqi (congrFun (hA.2.1 35 (by unfold mR; omega)) _) ?_
  refine wp_if_ge C 18 dX12_lastOf_6 (by decide) (fun c6 => ?_) (fun c6 => ?_)
  · have c6 : 0 ≤ (a 35 i).toInt := by have hcv := p_le c6; exact hcv
    refine wp_aload_n C 0 dX12_lastOf_18 rfl rfl ?_
    refine wp_getR C dX12_lastOf_19 fX12_lastOf_86 hM.ob (hM.rf 34 rfl) ?_
    refine wp_iload_n C 1 dX12_lastOf_22 rfl rfl ?_
    refine wp_iald C dX12_lastOf_23 (hM.ar 34 rfl rfl) (j := i) rfl (by omega) (by decide) ?_
    refine wp_eqi (congrFun (hA.2.1 34 (by unfold mR; omega)) _) ?_
    refine wp_aload_n C 0 dX12_lastOf_24 rfl rfl ?_
    refine wp_getR C dX12_lastOf_25 fX12_lastOf_89 hM.ob (hM.rf 35 rfl) ?_
    refine wp_iload_n C 1 dX12_lastOf_28 rfl rfl ?_
    refine wp_iald C dX12_lastOf_29 (hM.ar 35 rfl rfl) (j := i) rfl (by omega) (by decide) ?_
    refine wp_eqi (congrFun (hA.2.1 35 (by unfold mR; omega)) _) ?_
    refine wp_iconst C 1 dX12_lastOf_30 (by decide) ?_
    refine wp_isub C dX12_lastOf_31 ?_
    refine wp_min C dX12_lastOf_32 (by decide +kernel) (by decide +kernel) (by decide +kernel) (by decide +kernel) (Nat.le_of_ble_eq_true rfl) (by decide) (by decide) ?_
    refine wp_topi (fun mn32 hm => ?_)
    have hmn32 := mn_s hm
    exact wp_iret C Z dX12_lastOf_35 (by decide) (by decide) (by rw [show lastV a i = mn32 from by unfold lastV; rw [if_neg (by omega), hm]; rfl]; exact gP_rf)
  · have c6 : ¬ 0 ≤ (a 35 i).toInt := by have hcv := n_le c6; exact hcv
    refine wp_aload_n C 0 dX12_lastOf_9 rfl rfl ?_
    refine wp_getR C dX12_lastOf_10 fX12_lastOf_86 hM.ob (hM.rf 34 rfl) ?_
    refine wp_iload_n C 1 dX12_lastOf_13 rfl rfl ?_
    refine wp_iald C dX12_lastOf_14 (hM.ar 34 rfl rfl) (j := i) rfl (by omega) (by decide) ?_
    refine wp_eqi (congrFun (hA.2.1 34 (by unfold mR; omega)) _) ?_
    refine wp_goto C 35 dX12_lastOf_15 (by decide) ?_
    exact wp_iret C Z dX12_lastOf_35 (by decide) (by decide) (by rw [show lastV a i = a 34 i from by unfold lastV; rw [if_pos (by omega)]]; exact gP_rf)
set_option maxRecDepth 100000 in
set_option maxHeartbeats 4000000 in
theorem m_areRights (l : Launch) {T : gSh} {I : gI} {J : gJ} {R : gR} (p t f d u : Int32) : Con l yX12_areRights wsX12_areRights ({ frames := 1, cells := 0, slots := 0, locals := 22 }) [.int p, .int t, .int f, .int d, .int u] T I J R (gP (some (.int (nI (can (rv p t f d u))))) T I J R) := by
  refine Con.mk (cc := cX12_areRights) (maxL := 5) (ret := (some .boolean)) (by decide) rfl (Nat.le_of_ble_eq_true rfl) ?_
  intro E hE C Z hnm
  subst hE
  change WP E 5 0 0 T I J R 0 [(0, .int p), (1, .int t), (2, .int f), (3, .int d), (4, .int u)] []
  refine wp_iload_n C 0 dX12_areRights_0 rfl rfl ?_
  refine wp_iload_n C 1 dX12_areRights_1 rfl rfl ?_
  refine wp_iload_n C 2 dX12_areRights_2 rfl rfl ?_
  refine wp_cSi C (As := [.int p, .int t, .int f]) (rest := []) dX12_areRights_3 kX12_areRights_202 (m_areCells _ p t f) rfl (Nat.le_of_ble_eq_true rfl) (by decide) (by decide) ?_
  refine wp_if_eq C 34 dX12_areRights_6 (by decide) (fun c6 => ?_) (fun c6 => ?_)
  · have c6 : ¬ ((1 ≤ p.toInt ∧ p.toInt ≤ 255) ∧ (1 ≤ t.toInt ∧ t.toInt ≤ 15) ∧ (1 ≤ f.toInt ∧ f.toInt ≤ 15)) := fun z => absurd ((bI_t z).symm.trans c6) (by decide)
    refine wp_iconst C 0 dX12_areRights_34 (by decide) ?_
    exact wp_zret C Z dX12_areRights_35 (by decide) (by decide) (by decide) (by rw [show can (rv p t f d u) = 0 from by rw [can_T]; split <;> omega]; exact gP_rf)
  · have c6 : ((1 ≤ p.toInt ∧ p.toInt ≤ 255) ∧ (1 ≤ t.toInt ∧ t.toInt ≤ 15) ∧ (1 ≤ f.toInt ∧ f.toInt ≤ 15)) := Classical.byContradiction (fun z => c6 (bI_f z))
    refine wp_iload_n C 3 dX12_areRights_9 rfl rfl ?_
    refine wp_cSi C (As := [.int d]) (rest := []) dX12_areRights_10 kX12_areRights_206 (m_isDay _ d) rfl (Nat.le_of_ble_eq_true rfl) (by decide) (by decide) ?_
    refine wp_if_eq C 34 dX12_areRights_13 (by decide) (fun c13 => ?_) (fun c13 => ?_)
    · have c13 : ¬ (0 ≤ d.toInt ∧ d.toInt ≤ 9999) := fun z => absurd ((bI_t z).symm.trans c13) (by decide)
      refine wp_iconst C 0 dX12_areRights_34 (by decide) ?_
      exact wp_zret C Z dX12_areRights_35 (by decide) (by decide) (by decide) (by rw [show can (rv p t f d u) = 0 from by rw [can_T]; split <;> omega]; exact gP_rf)
    · have c13 : (0 ≤ d.toInt ∧ d.toInt ≤ 9999) := Classical.byContradiction (fun z => c13 (bI_f z))
      refine wp_iload C 4 dX12_areRights_16 rfl ?_
      refine wp_cSi C (As := [.int u]) (rest := []) dX12_areRights_18 kX12_areRights_206 (m_isDay _ u) rfl (Nat.le_of_ble_eq_true rfl) (by decide) (by decide) ?_
      refine wp_if_eq C 34 dX12_areRights_21 (by decide) (fun c21 => ?_) (fun c21 => ?_)
      · have c21 : ¬ (0 ≤ u.toInt ∧ u.toInt ≤ 9999) := fun z => absurd ((bI_t z).symm.trans c21) (by decide)
        refine wp_iconst C 0 dX12_areRights_34 (by decide) ?_
        exact wp_zret C Z dX12_areRights_35 (by decide) (by decide) (by decide) (by rw [show can (rv p t f d u) = 0 from by rw [can_T]; split <;> omega]; exact gP_rf)
      · have c21 : (0 ≤ u.toInt ∧ u.toInt ≤ 9999) := Classical.byContradiction (fun z => c21 (bI_f z))
        refine wp_iload_n C 3 dX12_areRights_24 rfl rfl ?_
        refine wp_iload C 4 dX12_areRights_25 rfl ?_
        refine wp_icmp_gt C 34 dX12_areRights_27 (by decide) (fun c27 => ?_) (fun c27 => ?_)
        · have c27 : u.toInt < d.toInt := by have hcv := p_lt c27; exact hcv
          refine wp_iconst C 0 dX12_areRights_34 (by decide) ?_
          exact wp_zret C Z dX12_areRights_35 (by decide) (by decide) (by decide) (by rw [show can (rv p t f d u) = 0 from by rw [can_T]; split <;> omega]; exact gP_rf)
        · have c27 : ¬ u.toInt < d.toInt := by have hcv := n_lt c27; exact hcv
          refine wp_iconst C 1 dX12_areRights_30 (by decide) ?_
          refine wp_goto C 35 dX12_areRights_31 (by decide) ?_
          exact wp_zret C Z dX12_areRights_35 (by decide) (by decide) (by decide) (by rw [show can (rv p t f d u) = 1 from by rw [can_T]; split <;> omega]; exact gP_rf)
set_option maxRecDepth 100000 in
set_option maxHeartbeats 4000000 in
theorem m_clashes (l : Launch) {T : gSh} {I : gI} {J : gJ} {R : gR} {m : Nat} {ad : Nat → Nat} (hM : MO T R m ad) {a : gI} {n : gJ} (hA : MA I J m ad a n) (hG : okG a) (b p t f d u : Int32) : Con l yX12_clashes wsX12_clashes ({ frames := 2, cells := 0, slots := 0, locals := 42 }) [.ref m, .int b, .int p, .int t, .int f, .int d, .int u] T I J R (gP (some (.int (nI (clN a b (rv p t f d u))))) T I J R) := by
  refine Con.mk (cc := cX12_clashes) (maxL := 8) (ret := (some .boolean)) (by decide) rfl (Nat.le_of_ble_eq_true rfl) ?_
  intro E hE C Z hnm
  subst hE
  change WP E 8 0 0 T I J R 0 [(0, .ref m), (1, .int b), (2, .int p), (3, .int t), (4, .int f), (5, .int d), (6, .int u)] []
  have g60 := hG.1
  have q22 : (a 0 22).toInt = (gN_ a : Int) := by unfold gN_; omega
  have n22 : a 0 22 = nI (gN_ a) := nI_nat (by omega)
  have loop : ∀ i, i ≤ gN_ a → (∀ j, j < i → hitN a b (rv p t f d u) j ≠ 0) → ∀ lv, lv_pick lv [0, 1, 2, 3, 4, 5, 6, 7] = [(0, .ref m), (1, .int b), (2, .int p), (3, .int t), (4, .int f), (5, .int d), (6, .int u), (7, .int (nI i))] → WP E 8 0 0 T I J R 3 lv [] := by
    refine loopN (gN_ a) (fun i hi ih => ?_)
    intro hno lv hlv
    refine wp_lv [0, 1, 2, 3, 4, 5, 6, 7] hlv ?_
    have hh := hit_T (a := a) (b := b) (p := p) (t := t) (f := f) (d := d) (u := u) (i := i)
    refine wp_iload C 7 dX12_clashes_3 rfl ?_
    refine wp_aload_n C 0 dX12_clashes_5 rfl rfl ?_
    refine wp_getI C dX12_clashes_6 fX12_clashes_221 hM.ob ?_
    refine wp_eqi ((hA.1 22 (by decide)).trans n22) ?_
    refine wp_icmp_ge C 97 dX12_clashes_9 (by decide) (fun c9 => ?_) (fun c9 => ?_)
    · have c9 : (((gN_ a) : Nat) : Int) ≤ ((i : Nat) : Int) := by have hcv := p_le c9; rw [nI_toInt (show (gN_ a) < 2 ^ 31 by omega), nI_toInt (show i < 2 ^ 31 by omega)] at hcv; exact hcv
      refine wp_iconst C 0 dX12_clashes_97 (by decide) ?_
      have e9 : gN_ a = i := by omega
      exact wp_zret C Z dX12_clashes_98 (by decide) (by decide) (by decide) (by rw [show clN a b (rv p t f d u) = 0 from by unfold clN own; rw [ff_none (fun j hj => hno j (by omega)), if_neg (Nat.lt_irrefl _)]]; exact gP_rf)
    · have c9 : ¬ (((gN_ a) : Nat) : Int) ≤ ((i : Nat) : Int) := by have hcv := n_le c9; rw [nI_toInt (show (gN_ a) < 2 ^ 31 by omega), nI_toInt (show i < 2 ^ 31 by omega)] at hcv; exact hcv
      refine wp_aload_n C 0 dX12_clashes_12 rfl rfl ?_
      refine wp_getR C dX12_clashes_13 fX12_clashes_68 hM.ob (hM.rf 28 rfl) ?_
      refine wp_iload C 7 dX12_clashes_16 rfl ?_
      refine wp_iald C dX12_clashes_18 (hM.ar 28 rfl rfl) (j := i) rfl (by omega) (by decide) ?_
      refine wp_eqi (congrFun (hA.2.1 28 (by unfold mR; omega)) _) ?_
      refine wp_iload_n C 1 dX12_clashes_19 rfl rfl ?_
      refine wp_icmp_ne C 91 dX12_clashes_20 (by decide) (fun c20 => ?_) (fun c20 => ?_)
      · have c20 : ¬ (a 28 i).toInt = b.toInt := by have hcv := n_eq c20; exact hcv
        refine wp_iinc C 7 (nI (i + 1)) [(7, .int (nI (i + 1))), (0, .ref m), (1, .int b), (2, .int p), (3, .int t), (4, .int f), (5, .int d), (6, .int u)] dX12_clashes_91 rfl (nI_1 i) (by decide) rfl ?_
        refine wp_goto C 3 dX12_clashes_94 (by decide) ?_
        refine wp_lv [1, 2, 3, 4, 5, 6, 7, 0] rfl ?_
        refine ih (i + 1) (by omega) (by omega) (fun j hj => ?_) _ rfl
        by_cases z : j = i
        · rw [z]; exact fun y => by have hy := hh.mp y; omega
        · exact hno j (by omega)
      · have c20 : (a 28 i).toInt = b.toInt := by have hcv := p_eq c20; exact hcv
        refine wp_aload_n C 0 dX12_clashes_23 rfl rfl ?_
        refine wp_getR C dX12_clashes_24 fX12_clashes_74 hM.ob (hM.rf 30 rfl) ?_
        refine wp_iload C 7 dX12_clashes_27 rfl ?_
        refine wp_iald C dX12_clashes_29 (hM.ar 30 rfl rfl) (j := i) rfl (by omega) (by decide) ?_
        refine wp_eqi (congrFun (hA.2.1 30 (by unfold mR; omega)) _) ?_
        refine wp_iload_n C 2 dX12_clashes_30 rfl rfl ?_
        refine wp_iand C dX12_clashes_31 ?_
        refine wp_if_eq C 91 dX12_clashes_32 (by decide) (fun c32 => ?_) (fun c32 => ?_)
        · have c32 : ((a 30 i) &&& p).toInt = 0 := by have hcv := p_eq c32; exact hcv
          refine wp_iinc C 7 (nI (i + 1)) [(7, .int (nI (i + 1))), (0, .ref m), (1, .int b), (2, .int p), (3, .int t), (4, .int f), (5, .int d), (6, .int u)] dX12_clashes_91 rfl (nI_1 i) (by decide) rfl ?_
          refine wp_goto C 3 dX12_clashes_94 (by decide) ?_
          refine wp_lv [1, 2, 3, 4, 5, 6, 7, 0] rfl ?_
          refine ih (i + 1) (by omega) (by omega) (fun j hj => ?_) _ rfl
          by_cases z : j = i
          · rw [z]; exact fun y => by have hy := hh.mp y; omega
          · exact hno j (by omega)
        · have c32 : ¬ ((a 30 i) &&& p).toInt = 0 := by have hcv := n_eq c32; exact hcv
          refine wp_aload_n C 0 dX12_clashes_35 rfl rfl ?_
          refine wp_getR C dX12_clashes_36 fX12_clashes_77 hM.ob (hM.rf 31 rfl) ?_
          refine wp_iload C 7 dX12_clashes_39 rfl ?_
          refine wp_iald C dX12_clashes_41 (hM.ar 31 rfl rfl) (j := i) rfl (by omega) (by decide) ?_
          refine wp_eqi (congrFun (hA.2.1 31 (by unfold mR; omega)) _) ?_
          refine wp_iload_n C 3 dX12_clashes_42 rfl rfl ?_
          refine wp_iand C dX12_clashes_43 ?_
          refine wp_if_eq C 91 dX12_clashes_44 (by decide) (fun c44 => ?_) (fun c44 => ?_)
          · have c44 : ((a 31 i) &&& t).toInt = 0 := by have hcv := p_eq c44; exact hcv
            refine wp_iinc C 7 (nI (i + 1)) [(7, .int (nI (i + 1))), (0, .ref m), (1, .int b), (2, .int p), (3, .int t), (4, .int f), (5, .int d), (6, .int u)] dX12_clashes_91 rfl (nI_1 i) (by decide) rfl ?_
            refine wp_goto C 3 dX12_clashes_94 (by decide) ?_
            refine wp_lv [1, 2, 3, 4, 5, 6, 7, 0] rfl ?_
            refine ih (i + 1) (by omega) (by omega) (fun j hj => ?_) _ rfl
            by_cases z : j = i
            · rw [z]; exact fun y => by have hy := hh.mp y; omega
            · exact hno j (by omega)
          · have c44 : ¬ ((a 31 i) &&& t).toInt = 0 := by have hcv := n_eq c44; exact hcv
            refine wp_aload_n C 0 dX12_clashes_47 rfl rfl ?_
            refine wp_getR C dX12_clashes_48 fX12_clashes_80 hM.ob (hM.rf 32 rfl) ?_
            refine wp_iload C 7 dX12_clashes_51 rfl ?_
            refine wp_iald C dX12_clashes_53 (hM.ar 32 rfl rfl) (j := i) rfl (by omega) (by decide) ?_
            refine wp_eqi (congrFun (hA.2.1 32 (by unfold mR; omega)) _) ?_
            refine wp_iload C 4 dX12_clashes_54 rfl ?_
            refine wp_iand C dX12_clashes_56 ?_
            refine wp_if_ne C 63 dX12_clashes_57 (by decide) (fun c57 => ?_) (fun c57 => ?_)
            · have c57 : ¬ ((a 32 i) &&& f).toInt = 0 := by have hcv := n_eq c57; exact hcv
              refine wp_iload C 5 dX12_clashes_63 rfl ?_
              refine wp_aload_n C 0 dX12_clashes_65 rfl rfl ?_
              refine wp_getR C dX12_clashes_66 fX12_clashes_83 hM.ob (hM.rf 33 rfl) ?_
              refine wp_iload C 7 dX12_clashes_69 rfl ?_
              refine wp_iald C dX12_clashes_71 (hM.ar 33 rfl rfl) (j := i) rfl (by omega) (by decide) ?_
              refine wp_eqi (congrFun (hA.2.1 33 (by unfold mR; omega)) _) ?_
              refine wp_max C dX12_clashes_72 (by decide +kernel) (by decide +kernel) (by decide +kernel) (by decide +kernel) (Nat.le_of_ble_eq_true rfl) (by decide) (by decide) ?_
              refine wp_topi (fun mx72 hm => ?_)
              have hmx72 := mx_s hm
              refine wp_iload C 6 dX12_clashes_75 rfl ?_
              refine wp_aload_n C 0 dX12_clashes_77 rfl rfl ?_
              refine wp_iload C 7 dX12_clashes_78 rfl ?_
              have hlt := lastV_T (hG.2 i (by omega)).2.2
              refine wp_cVi C (As := [.int (nI i)]) (rest := [.int u, .int mx72]) dX12_clashes_80 kX12_clashes_227 hM.ob (m_lastOf _ hM hA (i := i) (by omega)) rfl (Nat.le_of_ble_eq_true rfl) (by decide) (by decide) ?_
              refine wp_min C dX12_clashes_83 (by decide +kernel) (by decide +kernel) (by decide +kernel) (by decide +kernel) (Nat.le_of_ble_eq_true rfl) (by decide) (by decide) ?_
              refine wp_topi (fun mn83 hm => ?_)
              have hmn83 := mn_s hm
              refine wp_icmp_gt C 91 dX12_clashes_86 (by decide) (fun c86 => ?_) (fun c86 => ?_)
              · have c86 : mn83.toInt < mx72.toInt := by have hcv := p_lt c86; exact hcv
                refine wp_iinc C 7 (nI (i + 1)) [(7, .int (nI (i + 1))), (0, .ref m), (1, .int b), (2, .int p), (3, .int t), (4, .int f), (5, .int d), (6, .int u)] dX12_clashes_91 rfl (nI_1 i) (by decide) rfl ?_
                refine wp_goto C 3 dX12_clashes_94 (by decide) ?_
                refine wp_lv [1, 2, 3, 4, 5, 6, 7, 0] rfl ?_
                refine ih (i + 1) (by omega) (by omega) (fun j hj => ?_) _ rfl
                by_cases z : j = i
                · rw [z]; exact fun y => by have hy := hh.mp y; omega
                · exact hno j (by omega)
              · have c86 : ¬ mn83.toInt < mx72.toInt := by have hcv := n_lt c86; exact hcv
                refine wp_iconst C 1 dX12_clashes_89 (by decide) ?_
                have hfi : ff (hitN a b (rv p t f d u)) (gN_ a) = i := ff_eq (by omega) (hh.mpr (by omega)) hno
                exact wp_zret C Z dX12_clashes_90 (by decide) (by decide) (by decide) (by rw [show clN a b (rv p t f d u) = 1 from by unfold clN own; rw [hfi, if_pos (by omega)]]; exact gP_rf)
            · have c57 : ((a 32 i) &&& f).toInt = 0 := by have hcv := p_eq c57; exact hcv
              refine wp_goto C 91 dX12_clashes_60 (by decide) ?_
              refine wp_iinc C 7 (nI (i + 1)) [(7, .int (nI (i + 1))), (0, .ref m), (1, .int b), (2, .int p), (3, .int t), (4, .int f), (5, .int d), (6, .int u)] dX12_clashes_91 rfl (nI_1 i) (by decide) rfl ?_
              refine wp_goto C 3 dX12_clashes_94 (by decide) ?_
              refine wp_lv [1, 2, 3, 4, 5, 6, 7, 0] rfl ?_
              refine ih (i + 1) (by omega) (by omega) (fun j hj => ?_) _ rfl
              by_cases z : j = i
              · rw [z]; exact fun y => by have hy := hh.mp y; omega
              · exact hno j (by omega)
  refine wp_iconst C 0 dX12_clashes_0 (by decide) ?_
  refine wp_istore C [(7, .int 0), (0, .ref m), (1, .int b), (2, .int p), (3, .int t), (4, .int f), (5, .int d), (6, .int u)] dX12_clashes_1 (by decide) rfl ?_
  refine wp_lv [1, 2, 3, 4, 5, 6, 7, 0] rfl ?_
  exact loop 0 (by omega) (fun j hj => by omega) _ rfl
set_option maxRecDepth 100000 in
set_option maxHeartbeats 4000000 in
theorem m_grants (l : Launch) {T : gSh} {I : gI} {J : gJ} {R : gR} {m : Nat} {ad : Nat → Nat} (hM : MO T R m ad) {a : gI} {n : gJ} (hA : MA I J m ad a n) (h60 : 0 ≤ (a 0 22).toInt ∧ (a 0 22).toInt < 60) (b e p t f d u : Int32) : Con l yX12_grants wsX12_grants ({ frames := 0, cells := 0, slots := 0, locals := 0 }) [.ref m, .int b, .int e, .int p, .int t, .int f, .int d, .int u] T I J R (PZ T I J R m ad (.int (a 0 22)) (aGr a b e (rv p t f d u)) n) := by
  refine Con.mk (cc := cX12_grants) (maxL := 8) (ret := (some .int)) (by decide) rfl (Nat.le_of_ble_eq_true rfl) ?_
  intro E hE C Z hnm
  subst hE
  change WP E 8 0 0 T I J R 0 [(0, .ref m), (1, .int b), (2, .int e), (3, .int p), (4, .int t), (5, .int f), (6, .int d), (7, .int u)] []
  refine wp_aload_n C 0 dX12_grants_0 rfl rfl ?_
  refine wp_getR C dX12_grants_1 fX12_grants_68 hM.ob (hM.rf 28 rfl) ?_
  refine wp_aload_n C 0 dX12_grants_4 rfl rfl ?_
  refine wp_getI C dX12_grants_5 fX12_grants_221 hM.ob ?_
  refine wp_eqi (hA.1 22 (by decide)) ?_
  refine wp_iload_n C 1 dX12_grants_8 rfl rfl ?_
  refine wp_iast C dX12_grants_9 (hM.ar 28 rfl rfl) (j := gN_ a) (nI_nat (by omega)) (by unfold gN_; omega) (by decide) ?_
  refine wp_aload_n C 0 dX12_grants_10 rfl rfl ?_
  refine wp_getR C dX12_grants_11 fX12_grants_71 hM.ob (hM.rf 29 rfl) ?_
  refine wp_aload_n C 0 dX12_grants_14 rfl rfl ?_
  refine wp_getI C dX12_grants_15 fX12_grants_221 hM.ob ?_
  refine wp_eqi ((u2_a _ _ _ _ (Ne.symm (hM.nm 28 rfl)) _).trans (hA.1 22 (by decide))) ?_
  refine wp_iload_n C 2 dX12_grants_18 rfl rfl ?_
  refine wp_iast C dX12_grants_19 (hM.ar 29 rfl rfl) (j := gN_ a) (nI_nat (by omega)) (by unfold gN_; omega) (by decide) ?_
  refine wp_aload_n C 0 dX12_grants_20 rfl rfl ?_
  refine wp_getR C dX12_grants_21 fX12_grants_74 hM.ob (hM.rf 30 rfl) ?_
  refine wp_aload_n C 0 dX12_grants_24 rfl rfl ?_
  refine wp_getI C dX12_grants_25 fX12_grants_221 hM.ob ?_
  refine wp_eqi (((u2_a _ _ _ _ (Ne.symm (hM.nm 29 rfl)) _).trans (u2_a _ _ _ _ (Ne.symm (hM.nm 28 rfl)) _)).trans (hA.1 22 (by decide))) ?_
  refine wp_iload_n C 3 dX12_grants_28 rfl rfl ?_
  refine wp_iast C dX12_grants_29 (hM.ar 30 rfl rfl) (j := gN_ a) (nI_nat (by omega)) (by unfold gN_; omega) (by decide) ?_
  refine wp_aload_n C 0 dX12_grants_30 rfl rfl ?_
  refine wp_getR C dX12_grants_31 fX12_grants_77 hM.ob (hM.rf 31 rfl) ?_
  refine wp_aload_n C 0 dX12_grants_34 rfl rfl ?_
  refine wp_getI C dX12_grants_35 fX12_grants_221 hM.ob ?_
  refine wp_eqi (((u2_a _ _ _ _ (Ne.symm (hM.nm 30 rfl)) _).trans ((u2_a _ _ _ _ (Ne.symm (hM.nm 29 rfl)) _).trans (u2_a _ _ _ _ (Ne.symm (hM.nm 28 rfl)) _))).trans (hA.1 22 (by decide))) ?_
  refine wp_iload C 4 dX12_grants_38 rfl ?_
  refine wp_iast C dX12_grants_40 (hM.ar 31 rfl rfl) (j := gN_ a) (nI_nat (by omega)) (by unfold gN_; omega) (by decide) ?_
  refine wp_aload_n C 0 dX12_grants_41 rfl rfl ?_
  refine wp_getR C dX12_grants_42 fX12_grants_80 hM.ob (hM.rf 32 rfl) ?_
  refine wp_aload_n C 0 dX12_grants_45 rfl rfl ?_
  refine wp_getI C dX12_grants_46 fX12_grants_221 hM.ob ?_
  refine wp_eqi (((u2_a _ _ _ _ (Ne.symm (hM.nm 31 rfl)) _).trans ((u2_a _ _ _ _ (Ne.symm (hM.nm 30 rfl)) _).trans ((u2_a _ _ _ _ (Ne.symm (hM.nm 29 rfl)) _).trans (u2_a _ _ _ _ (Ne.symm (hM.nm 28 rfl)) _)))).trans (hA.1 22 (by decide))) ?_
  refine wp_iload C 5 dX12_grants_49 rfl ?_
  refine wp_iast C dX12_grants_51 (hM.ar 32 rfl rfl) (j := gN_ a) (nI_nat (by omega)) (by unfold gN_; omega) (by decide) ?_
  refine wp_aload_n C 0 dX12_grants_52 rfl rfl ?_
  refine wp_getR C dX12_grants_53 fX12_grants_83 hM.ob (hM.rf 33 rfl) ?_
  refine wp_aload_n C 0 dX12_grants_56 rfl rfl ?_
  refine wp_getI C dX12_grants_57 fX12_grants_221 hM.ob ?_
  refine wp_eqi (((u2_a _ _ _ _ (Ne.symm (hM.nm 32 rfl)) _).trans ((u2_a _ _ _ _ (Ne.symm (hM.nm 31 rfl)) _).trans ((u2_a _ _ _ _ (Ne.symm (hM.nm 30 rfl)) _).trans ((u2_a _ _ _ _ (Ne.symm (hM.nm 29 rfl)) _).trans (u2_a _ _ _ _ (Ne.symm (hM.nm 28 rfl)) _))))).trans (hA.1 22 (by decide))) ?_
  refine wp_iload C 6 dX12_grants_60 rfl ?_
  refine wp_iast C dX12_grants_62 (hM.ar 33 rfl rfl) (j := gN_ a) (nI_nat (by omega)) (by unfold gN_; omega) (by decide) ?_
  refine wp_aload_n C 0 dX12_grants_63 rfl rfl ?_
  refine wp_getR C dX12_grants_64 fX12_grants_86 hM.ob (hM.rf 34 rfl) ?_
  refine wp_aload_n C 0 dX12_grants_67 rfl rfl ?_
  refine wp_getI C dX12_grants_68 fX12_grants_221 hM.ob ?_
  refine wp_eqi (((u2_a _ _ _ _ (Ne.symm (hM.nm 33 rfl)) _).trans ((u2_a _ _ _ _ (Ne.symm (hM.nm 32 rfl)) _).trans ((u2_a _ _ _ _ (Ne.symm (hM.nm 31 rfl)) _).trans ((u2_a _ _ _ _ (Ne.symm (hM.nm 30 rfl)) _).trans ((u2_a _ _ _ _ (Ne.symm (hM.nm 29 rfl)) _).trans (u2_a _ _ _ _ (Ne.symm (hM.nm 28 rfl)) _)))))).trans (hA.1 22 (by decide))) ?_
  refine wp_iload C 7 dX12_grants_71 rfl ?_
  refine wp_iast C dX12_grants_73 (hM.ar 34 rfl rfl) (j := gN_ a) (nI_nat (by omega)) (by unfold gN_; omega) (by decide) ?_
  refine wp_aload_n C 0 dX12_grants_74 rfl rfl ?_
  refine wp_getR C dX12_grants_75 fX12_grants_89 hM.ob (hM.rf 35 rfl) ?_
  refine wp_aload_n C 0 dX12_grants_78 rfl rfl ?_
  refine wp_getI C dX12_grants_79 fX12_grants_221 hM.ob ?_
  refine wp_eqi (((u2_a _ _ _ _ (Ne.symm (hM.nm 34 rfl)) _).trans ((u2_a _ _ _ _ (Ne.symm (hM.nm 33 rfl)) _).trans ((u2_a _ _ _ _ (Ne.symm (hM.nm 32 rfl)) _).trans ((u2_a _ _ _ _ (Ne.symm (hM.nm 31 rfl)) _).trans ((u2_a _ _ _ _ (Ne.symm (hM.nm 30 rfl)) _).trans ((u2_a _ _ _ _ (Ne.symm (hM.nm 29 rfl)) _).trans (u2_a _ _ _ _ (Ne.symm (hM.nm 28 rfl)) _))))))).trans (hA.1 22 (by decide))) ?_
  refine wp_iconst C (-1) dX12_grants_82 (by decide) ?_
  refine wp_iast C dX12_grants_83 (hM.ar 35 rfl rfl) (j := gN_ a) (nI_nat (by omega)) (by unfold gN_; omega) (by decide) ?_
  refine wp_aload_n C 0 dX12_grants_84 rfl rfl ?_
  refine wp_dup C dX12_grants_85 rfl ?_
  refine wp_getI C dX12_grants_86 fX12_grants_221 hM.ob ?_
  refine wp_eqi (((u2_a _ _ _ _ (Ne.symm (hM.nm 35 rfl)) _).trans ((u2_a _ _ _ _ (Ne.symm (hM.nm 34 rfl)) _).trans ((u2_a _ _ _ _ (Ne.symm (hM.nm 33 rfl)) _).trans ((u2_a _ _ _ _ (Ne.symm (hM.nm 32 rfl)) _).trans ((u2_a _ _ _ _ (Ne.symm (hM.nm 31 rfl)) _).trans ((u2_a _ _ _ _ (Ne.symm (hM.nm 30 rfl)) _).trans ((u2_a _ _ _ _ (Ne.symm (hM.nm 29 rfl)) _).trans (u2_a _ _ _ _ (Ne.symm (hM.nm 28 rfl)) _)))))))).trans (hA.1 22 (by decide))) ?_
  refine wp_iconst C 1 dX12_grants_89 (by decide) ?_
  refine wp_iadd C dX12_grants_90 ?_
  refine wp_putI C dX12_grants_91 pX12_grants_221 (fun h => nomatch h) hM.ob ?_
  refine wp_aload_n C 0 dX12_grants_94 rfl rfl ?_
  refine wp_getI C dX12_grants_95 fX12_grants_221 hM.ob ?_
  refine wp_eqi (u2_s _ _ _ _) ?_
  refine wp_iconst C 1 dX12_grants_98 (by decide) ?_
  refine wp_isub C dX12_grants_99 ?_
  exact wp_iret C Z dX12_grants_100 (by decide) (by decide) ⟨by rw [Int32.add_sub_cancel], rfl, rfl, ((((((((((MX.i hA).r hM 28 (by unfold mR; omega) (gN_ a) b).r hM 29 (by unfold mR; omega) (gN_ a) e).r hM 30 (by unfold mR; omega) (gN_ a) p).r hM 31 (by unfold mR; omega) (gN_ a) t).r hM 32 (by unfold mR; omega) (gN_ a) f).r hM 33 (by unfold mR; omega) (gN_ a) d).r hM 34 (by unfold mR; omega) (gN_ a) u).r hM 35 (by unfold mR; omega) (gN_ a) (-1)).f hM 22 ((a 0 22) + 1))⟩
set_option maxRecDepth 100000 in
set_option maxHeartbeats 4000000 in
theorem m_grant (l : Launch) {T : gSh} {I : gI} {J : gJ} {R : gR} {m : Nat} {ad : Nat → Nat} (hM : MO T R m ad) {a : gI} {n : gJ} (hA : MA I J m ad a n) (hG : okG a) (b e p t f d u : Int32) : Con l yX12_grant wsX12_grant ({ frames := 3, cells := 0, slots := 0, locals := 69 }) [.ref m, .int b, .int e, .int p, .int t, .int f, .int d, .int u] T I J R (PZ T I J R m ad (.int (if stGr a b e (rv p t f d u) = 0 then a 0 22 else -1)) (aGrant a b e (rv p t f d u)) n) := by
  refine Con.mk (cc := cX12_grant) (maxL := 8) (ret := (some .int)) (by decide) rfl (Nat.le_of_ble_eq_true rfl) ?_
  intro E hE C Z hnm
  subst hE
  change WP E 8 0 0 T I J R 0 [(0, .ref m), (1, .int b), (2, .int e), (3, .int p), (4, .int t), (5, .int f), (6, .int d), (7, .int u)] []
  have hX1 := ((MX.i hA).t hM 0).f hM 0 0
  have g60 := hG.1
  have hcl := clN_le a b (rv p t f d u)
  have hca := can_le (rv p t f d u)
  refine wp_aload_n C 0 dX12_grant_0 rfl rfl ?_
  refine wp_iconst C 0 dX12_grant_1 (by decide) ?_
  refine wp_putI C dX12_grant_2 pX12_grant_134 (fun h => nomatch h) hM.ob ?_
  refine wp_aload_n C 0 dX12_grant_5 rfl rfl ?_
  refine wp_iconst C 0 dX12_grant_6 (by decide) ?_
  refine wp_putI C dX12_grant_7 pX12_grant_137 (fun h => nomatch h) hM.ob ?_
  refine wp_aload_n C 0 dX12_grant_10 rfl rfl ?_
  refine wp_iload_n C 1 dX12_grant_11 rfl rfl ?_
  refine wp_cVi C (As := [.int b]) (rest := []) dX12_grant_12 kX12_grant_209 hM.ob (m_isBook _ hM b) rfl (Nat.le_of_ble_eq_true rfl) (by decide) (by decide) ?_
  refine wp_eqi (congrArg (fun z : Int32 => bI (0 ≤ b.toInt ∧ b.toInt < z.toInt)) (((u2_k _ _ _ _ (by decide) _).trans (u2_k _ _ _ _ (by decide) _)).trans (hA.1 21 (by decide)))) ?_
  refine wp_if_eq C 26 dX12_grant_15 (by decide) (fun c15 => ?_) (fun c15 => ?_)
  · have c15 : ¬ (0 ≤ b.toInt ∧ b.toInt < (a 0 21).toInt) := fun z => absurd ((bI_t z).symm.trans c15) (by decide)
    refine wp_aload_n C 0 dX12_grant_26 rfl rfl ?_
    refine wp_iconst C 1 dX12_grant_27 (by decide) ?_
    refine wp_cVi C (As := [.int 1]) (rest := []) dX12_grant_28 kX12_grant_164 hM.ob (m_refuse _ hM 1) rfl (Nat.le_of_ble_eq_true rfl) (by decide) (by decide) ?_
    have hst : stGr a b e (rv p t f d u) = 1 := by simp only [stGr]; (repeat' split) <;> omega
    have hs0 : ¬ stGr a b e (rv p t f d u) = 0 := by rw [hst]; decide
    exact wp_iret C Z dX12_grant_31 (by decide) (by decide) ⟨by rw [if_neg hs0], rfl, rfl, by unfold aGrant; rw [if_neg hs0, hst]; exact MX.no hA hM 1⟩
  · have c15 : (0 ≤ b.toInt ∧ b.toInt < (a 0 21).toInt) := Classical.byContradiction (fun z => c15 (bI_f z))
    refine wp_aload_n C 0 dX12_grant_18 rfl rfl ?_
    refine wp_iload_n C 2 dX12_grant_19 rfl rfl ?_
    refine wp_cVi C (As := [.int e]) (rest := []) dX12_grant_20 kX12_grant_170 hM.ob (m_isEditor _ hM e) rfl (Nat.le_of_ble_eq_true rfl) (by decide) (by decide) ?_
    refine wp_eqi (congrArg (fun z : Int32 => bI (0 ≤ e.toInt ∧ e.toInt < z.toInt)) (((u2_k _ _ _ _ (by decide) _).trans (u2_k _ _ _ _ (by decide) _)).trans (hA.1 8 (by decide)))) ?_
    refine wp_if_ne C 32 dX12_grant_23 (by decide) (fun c23 => ?_) (fun c23 => ?_)
    · have c23 : (0 ≤ e.toInt ∧ e.toInt < (a 0 8).toInt) := Classical.byContradiction (fun z => c23 (bI_f z))
      refine wp_iload_n C 3 dX12_grant_32 rfl rfl ?_
      refine wp_iload C 4 dX12_grant_33 rfl ?_
      refine wp_iload C 5 dX12_grant_35 rfl ?_
      refine wp_iload C 6 dX12_grant_37 rfl ?_
      refine wp_iload C 7 dX12_grant_39 rfl ?_
      refine wp_cSi C (As := [.int p, .int t, .int f, .int d, .int u]) (rest := []) dX12_grant_41 kX12_grant_230 (m_areRights _ p t f d u) rfl (Nat.le_of_ble_eq_true rfl) (by decide) (by decide) ?_
      refine wp_if_ne C 53 dX12_grant_44 (by decide) (fun c44 => ?_) (fun c44 => ?_)
      · have c44 : ¬ ((can (rv p t f d u) : Nat) : Int) = 0 := by have hcv := n_eq c44; rw [nI_toInt (show can (rv p t f d u) < 2 ^ 31 by omega)] at hcv; exact hcv
        refine wp_aload_n C 0 dX12_grant_53 rfl rfl ?_
        refine wp_getI C dX12_grant_54 fX12_grant_221 hM.ob ?_
        refine wp_eqi (((u2_k _ _ _ _ (by decide) _).trans (u2_k _ _ _ _ (by decide) _)).trans (hA.1 22 (by decide))) ?_
        refine wp_bipush C 60 dX12_grant_57 (by decide) ?_
        refine wp_icmp_ne C 69 dX12_grant_59 (by decide) (fun c59 => ?_) (fun c59 => ?_)
        · have c59 : ¬ (a 0 22).toInt = 60 := by have hcv := n_eq c59; exact hcv
          refine wp_aload_n C 0 dX12_grant_69 rfl rfl ?_
          refine wp_iload_n C 1 dX12_grant_70 rfl rfl ?_
          refine wp_iload_n C 3 dX12_grant_71 rfl rfl ?_
          refine wp_iload C 4 dX12_grant_72 rfl ?_
          refine wp_iload C 5 dX12_grant_74 rfl ?_
          refine wp_iload C 6 dX12_grant_76 rfl ?_
          refine wp_iload C 7 dX12_grant_78 rfl ?_
          refine wp_cVi C (As := [.int b, .int p, .int t, .int f, .int d, .int u]) (rest := []) dX12_grant_80 kX12_grant_234 hM.ob (m_clashes _ hM hX1.2 (hG.st 0) b p t f d u) rfl (Nat.le_of_ble_eq_true rfl) (by decide) (by decide) ?_
          refine wp_eqi (congrArg nI (clN_st a 0 b _).1) ?_
          refine wp_if_eq C 93 dX12_grant_83 (by decide) (fun c83 => ?_) (fun c83 => ?_)
          · have c83 : ((clN a b (rv p t f d u) : Nat) : Int) = 0 := by have hcv := p_eq c83; rw [nI_toInt (show clN a b (rv p t f d u) < 2 ^ 31 by omega)] at hcv; exact hcv
            refine wp_aload_n C 0 dX12_grant_93 rfl rfl ?_
            refine wp_iload_n C 1 dX12_grant_94 rfl rfl ?_
            refine wp_iload_n C 2 dX12_grant_95 rfl rfl ?_
            refine wp_iload_n C 3 dX12_grant_96 rfl rfl ?_
            refine wp_iload C 4 dX12_grant_97 rfl ?_
            refine wp_iload C 5 dX12_grant_99 rfl ?_
            refine wp_iload C 6 dX12_grant_101 rfl ?_
            refine wp_iload C 7 dX12_grant_103 rfl ?_
            refine wp_callV C (As := [.int b, .int e, .int p, .int t, .int f, .int d, .int u]) (rest := []) dX12_grant_105 kX12_grant_238 hM.ob (m_grants _ hM hX1.2 (by rw [u2_k _ _ _ _ (by decide)]; omega) b e p t f d u) rfl (Nat.le_of_ble_eq_true rfl) (by decide) (by decide) ?_
            rintro _ _ I2 J2 _ ⟨rfl, rfl, rfl, hX2⟩
            change WP E 8 _ _ T I2 J2 R 108 [(0, .ref m), (1, .int b), (2, .int e), (3, .int p), (4, .int t), (5, .int f), (6, .int d), (7, .int u)] [.int (u2 a 0 0 0 0 22)]
            refine wp_eqi (u2_k _ _ _ _ (by decide) _) ?_
            have hs0 : stGr a b e (rv p t f d u) = 0 := by simp only [stGr]; (repeat' split) <;> omega
            exact wp_iret C Z dX12_grant_108 (by decide) (by decide) ⟨by rw [if_pos hs0], rfl, rfl, by unfold aGrant; rw [if_pos hs0]; exact hX1.tr hX2⟩
          · have c83 : ¬ ((clN a b (rv p t f d u) : Nat) : Int) = 0 := by have hcv := n_eq c83; rw [nI_toInt (show clN a b (rv p t f d u) < 2 ^ 31 by omega)] at hcv; exact hcv
            refine wp_aload_n C 0 dX12_grant_86 rfl rfl ?_
            refine wp_bipush C 10 dX12_grant_87 (by decide) ?_
            refine wp_cVi C (As := [.int 10]) (rest := []) dX12_grant_89 kX12_grant_164 hM.ob (m_refuse _ hM 10) rfl (Nat.le_of_ble_eq_true rfl) (by decide) (by decide) ?_
            have hst : stGr a b e (rv p t f d u) = 10 := by simp only [stGr]; (repeat' split) <;> omega
            have hs0 : ¬ stGr a b e (rv p t f d u) = 0 := by rw [hst]; decide
            exact wp_iret C Z dX12_grant_92 (by decide) (by decide) ⟨by rw [if_neg hs0], rfl, rfl, by unfold aGrant; rw [if_neg hs0, hst]; exact MX.no hA hM 10⟩
        · have c59 : (a 0 22).toInt = 60 := by have hcv := p_eq c59; exact hcv
          refine wp_aload_n C 0 dX12_grant_62 rfl rfl ?_
          refine wp_bipush C 7 dX12_grant_63 (by decide) ?_
          refine wp_cVi C (As := [.int 7]) (rest := []) dX12_grant_65 kX12_grant_164 hM.ob (m_refuse _ hM 7) rfl (Nat.le_of_ble_eq_true rfl) (by decide) (by decide) ?_
          have hst : stGr a b e (rv p t f d u) = 7 := by simp only [stGr]; (repeat' split) <;> omega
          have hs0 : ¬ stGr a b e (rv p t f d u) = 0 := by rw [hst]; decide
          exact wp_iret C Z dX12_grant_68 (by decide) (by decide) ⟨by rw [if_neg hs0], rfl, rfl, by unfold aGrant; rw [if_neg hs0, hst]; exact MX.no hA hM 7⟩
      · have c44 : ((can (rv p t f d u) : Nat) : Int) = 0 := by have hcv := p_eq c44; rw [nI_toInt (show can (rv p t f d u) < 2 ^ 31 by omega)] at hcv; exact hcv
        refine wp_aload_n C 0 dX12_grant_47 rfl rfl ?_
        refine wp_iconst C 2 dX12_grant_48 (by decide) ?_
        refine wp_cVi C (As := [.int 2]) (rest := []) dX12_grant_49 kX12_grant_164 hM.ob (m_refuse _ hM 2) rfl (Nat.le_of_ble_eq_true rfl) (by decide) (by decide) ?_
        have hst : stGr a b e (rv p t f d u) = 2 := by simp only [stGr]; (repeat' split) <;> omega
        have hs0 : ¬ stGr a b e (rv p t f d u) = 0 := by rw [hst]; decide
        exact wp_iret C Z dX12_grant_52 (by decide) (by decide) ⟨by rw [if_neg hs0], rfl, rfl, by unfold aGrant; rw [if_neg hs0, hst]; exact MX.no hA hM 2⟩
    · have c23 : ¬ (0 ≤ e.toInt ∧ e.toInt < (a 0 8).toInt) := fun z => absurd ((bI_t z).symm.trans c23) (by decide)
      refine wp_aload_n C 0 dX12_grant_26 rfl rfl ?_
      refine wp_iconst C 1 dX12_grant_27 (by decide) ?_
      refine wp_cVi C (As := [.int 1]) (rest := []) dX12_grant_28 kX12_grant_164 hM.ob (m_refuse _ hM 1) rfl (Nat.le_of_ble_eq_true rfl) (by decide) (by decide) ?_
      have hst : stGr a b e (rv p t f d u) = 1 := by simp only [stGr]; (repeat' split) <;> omega
      have hs0 : ¬ stGr a b e (rv p t f d u) = 0 := by rw [hst]; decide
      exact wp_iret C Z dX12_grant_31 (by decide) (by decide) ⟨by rw [if_neg hs0], rfl, rfl, by unfold aGrant; rw [if_neg hs0, hst]; exact MX.no hA hM 1⟩
set_option maxRecDepth 100000 in
set_option maxHeartbeats 4000000 in
theorem m_end (l : Launch) {T : gSh} {I : gI} {J : gJ} {R : gR} {m : Nat} {ad : Nat → Nat} (hM : MO T R m ad) {a : gI} {n : gJ} (hA : MA I J m ad a n) (hG : okG a) (g d : Int32) : Con l yX12_end wsX12_end ({ frames := 1, cells := 0, slots := 0, locals := 21 }) [.ref m, .int g, .int d] T I J R (PZ T I J R m ad (.int (bI (stEn a g d = 0))) (aEn a g d) n) := by
  refine Con.mk (cc := cX12_end) (maxL := 3) (ret := (some .boolean)) (by decide) rfl (Nat.le_of_ble_eq_true rfl) ?_
  intro E hE C Z hnm
  subst hE
  change WP E 3 0 0 T I J R 0 [(0, .ref m), (1, .int g), (2, .int d)] []
  have g60 := hG.1
  refine wp_aload_n C 0 dX12_end_0 rfl rfl ?_
  refine wp_iconst C 0 dX12_end_1 (by decide) ?_
  refine wp_putI C dX12_end_2 pX12_end_134 (fun h => nomatch h) hM.ob ?_
  refine wp_aload_n C 0 dX12_end_5 rfl rfl ?_
  refine wp_iconst C 0 dX12_end_6 (by decide) ?_
  refine wp_putI C dX12_end_7 pX12_end_137 (fun h => nomatch h) hM.ob ?_
  refine wp_iload_n C 1 dX12_end_10 rfl rfl ?_
  refine wp_if_lt C 22 dX12_end_11 (by decide) (fun c11 => ?_) (fun c11 => ?_)
  · have c11 : g.toInt < 0 := by have hcv := p_lt c11; exact hcv
    refine wp_aload_n C 0 dX12_end_22 rfl rfl ?_
    refine wp_iconst C 1 dX12_end_23 (by decide) ?_
    refine wp_cVi C (As := [.int 1]) (rest := []) dX12_end_24 kX12_end_140 hM.ob (m_no _ hM 1) rfl (Nat.le_of_ble_eq_true rfl) (by decide) (by decide) ?_
    have hst : stEn a g d = 1 := by simp only [stEn]; (repeat' split) <;> omega
    have hs0 : ¬ stEn a g d = 0 := by rw [hst]; decide
    exact wp_zret C Z dX12_end_27 (by decide) (by decide) (by decide) ⟨by rw [bI_f hs0], rfl, rfl, by unfold aEn; rw [if_neg hs0, hst]; exact MX.no hA hM 1⟩
  · have c11 : ¬ g.toInt < 0 := by have hcv := n_lt c11; exact hcv
    refine wp_iload_n C 1 dX12_end_14 rfl rfl ?_
    refine wp_aload_n C 0 dX12_end_15 rfl rfl ?_
    refine wp_getI C dX12_end_16 fX12_end_221 hM.ob ?_
    refine wp_eqi (((u2_k _ _ _ _ (by decide) _).trans (u2_k _ _ _ _ (by decide) _)).trans (hA.1 22 (by decide))) ?_
    refine wp_icmp_lt C 28 dX12_end_19 (by decide) (fun c19 => ?_) (fun c19 => ?_)
    · have c19 : g.toInt < (a 0 22).toInt := by have hcv := p_lt c19; exact hcv
      refine wp_iload_n C 2 dX12_end_28 rfl rfl ?_
      refine wp_cSi C (As := [.int d]) (rest := []) dX12_end_29 kX12_end_206 (m_isDay _ d) rfl (Nat.le_of_ble_eq_true rfl) (by decide) (by decide) ?_
      refine wp_if_ne C 41 dX12_end_32 (by decide) (fun c32 => ?_) (fun c32 => ?_)
      · have c32 : (0 ≤ d.toInt ∧ d.toInt ≤ 9999) := Classical.byContradiction (fun z => c32 (bI_f z))
        refine wp_aload_n C 0 dX12_end_41 rfl rfl ?_
        refine wp_getR C dX12_end_42 fX12_end_89 hM.ob (hM.rf 35 rfl) ?_
        refine wp_iload_n C 1 dX12_end_45 rfl rfl ?_
        refine wp_iald C dX12_end_46 (hM.ar 35 rfl rfl) (j := g.toInt.toNat) (nI_nat (by omega)) (by omega) (by decide) ?_
        refine wp_eqi (((u2_a _ _ _ _ (hM.nm 35 rfl) _).trans (u2_a _ _ _ _ (hM.nm 35 rfl) _)).trans (congrFun (hA.2.1 35 (by unfold mR; omega)) _)) ?_
        refine wp_if_lt C 57 dX12_end_47 (by decide) (fun c47 => ?_) (fun c47 => ?_)
        · have c47 : (a 35 g.toInt.toNat).toInt < 0 := by have hcv := p_lt c47; exact hcv
          refine wp_aload_n C 0 dX12_end_57 rfl rfl ?_
          refine wp_getR C dX12_end_58 fX12_end_89 hM.ob (hM.rf 35 rfl) ?_
          refine wp_iload_n C 1 dX12_end_61 rfl rfl ?_
          refine wp_iload_n C 2 dX12_end_62 rfl rfl ?_
          refine wp_iast C dX12_end_63 (hM.ar 35 rfl rfl) (j := g.toInt.toNat) (nI_nat (by omega)) (by omega) (by decide) ?_
          refine wp_iconst C 1 dX12_end_64 (by decide) ?_
          have hs0 : stEn a g d = 0 := by simp only [stEn]; (repeat' split) <;> omega
          exact wp_zret C Z dX12_end_65 (by decide) (by decide) (by decide) ⟨by rw [bI_t hs0], rfl, rfl, by unfold aEn; rw [if_pos hs0]; exact ((((MX.i hA).t hM 0).f hM 0 0).r hM 35 (by unfold mR; omega) g.toInt.toNat d)⟩
        · have c47 : ¬ (a 35 g.toInt.toNat).toInt < 0 := by have hcv := n_lt c47; exact hcv
          refine wp_aload_n C 0 dX12_end_50 rfl rfl ?_
          refine wp_bipush C 8 dX12_end_51 (by decide) ?_
          refine wp_cVi C (As := [.int 8]) (rest := []) dX12_end_53 kX12_end_140 hM.ob (m_no _ hM 8) rfl (Nat.le_of_ble_eq_true rfl) (by decide) (by decide) ?_
          have hst : stEn a g d = 8 := by simp only [stEn]; (repeat' split) <;> omega
          have hs0 : ¬ stEn a g d = 0 := by rw [hst]; decide
          exact wp_zret C Z dX12_end_56 (by decide) (by decide) (by decide) ⟨by rw [bI_f hs0], rfl, rfl, by unfold aEn; rw [if_neg hs0, hst]; exact MX.no hA hM 8⟩
      · have c32 : ¬ (0 ≤ d.toInt ∧ d.toInt ≤ 9999) := fun z => absurd ((bI_t z).symm.trans c32) (by decide)
        refine wp_aload_n C 0 dX12_end_35 rfl rfl ?_
        refine wp_iconst C 2 dX12_end_36 (by decide) ?_
        refine wp_cVi C (As := [.int 2]) (rest := []) dX12_end_37 kX12_end_140 hM.ob (m_no _ hM 2) rfl (Nat.le_of_ble_eq_true rfl) (by decide) (by decide) ?_
        have hst : stEn a g d = 2 := by simp only [stEn]; (repeat' split) <;> omega
        have hs0 : ¬ stEn a g d = 0 := by rw [hst]; decide
        exact wp_zret C Z dX12_end_40 (by decide) (by decide) (by decide) ⟨by rw [bI_f hs0], rfl, rfl, by unfold aEn; rw [if_neg hs0, hst]; exact MX.no hA hM 2⟩
    · have c19 : ¬ g.toInt < (a 0 22).toInt := by have hcv := n_lt c19; exact hcv
      refine wp_aload_n C 0 dX12_end_22 rfl rfl ?_
      refine wp_iconst C 1 dX12_end_23 (by decide) ?_
      refine wp_cVi C (As := [.int 1]) (rest := []) dX12_end_24 kX12_end_140 hM.ob (m_no _ hM 1) rfl (Nat.le_of_ble_eq_true rfl) (by decide) (by decide) ?_
      have hst : stEn a g d = 1 := by simp only [stEn]; (repeat' split) <;> omega
      have hs0 : ¬ stEn a g d = 0 := by rw [hst]; decide
      exact wp_zret C Z dX12_end_27 (by decide) (by decide) (by decide) ⟨by rw [bI_f hs0], rfl, rfl, by unfold aEn; rw [if_neg hs0, hst]; exact MX.no hA hM 1⟩
set_option maxRecDepth 100000 in
set_option maxHeartbeats 4000000 in
theorem m_grantOf (l : Launch) {T : gSh} {I : gI} {J : gJ} {R : gR} {m : Nat} {ad : Nat → Nat} (hM : MO T R m ad) {a : gI} {n : gJ} (hA : MA I J m ad a n) (hG : okG a) (b : Int32) {x y z : Nat} (hx : x < 8) (hy : y < 4) (hz : z < 4) (d : Int32) : Con l yX12_grantOf wsX12_grantOf ({ frames := 2, cells := 0, slots := 0, locals := 42 }) [.ref m, .int b, .int (nI x), .int (nI y), .int (nI z), .int d] T I J R (gP (some (.int (gOfV a b (rc (nI x) (nI y) (nI z) d)))) T I J R) := by
  refine Con.mk (cc := cX12_grantOf) (maxL := 8) (ret := (some .int)) (by decide) rfl (Nat.le_of_ble_eq_true rfl) ?_
  intro E hE C Z hnm
  subst hE
  change WP E 8 0 0 T I J R 0 [(0, .ref m), (1, .int b), (2, .int (nI x)), (3, .int (nI y)), (4, .int (nI z)), (5, .int d)] []
  have g60 := hG.1
  have q22 : (a 0 22).toInt = (gN_ a : Int) := by unfold gN_; omega
  have n22 : a 0 22 = nI (gN_ a) := nI_nat (by omega)
  have loop : ∀ i, i ≤ gN_ a → (∀ j, j < i → hitN a b (rc (nI x) (nI y) (nI z) d) j ≠ 0) → ∀ lv, lv_pick lv [0, 1, 2, 3, 4, 5, 6] = [(0, .ref m), (1, .int b), (2, .int (nI x)), (3, .int (nI y)), (4, .int (nI z)), (5, .int d), (6, .int (nI i))] → WP E 8 0 0 T I J R 3 lv [] := by
    refine loopN (gN_ a) (fun i hi ih => ?_)
    intro hno lv hlv
    refine wp_lv [0, 1, 2, 3, 4, 5, 6] hlv ?_
    refine wp_iload C 6 dX12_grantOf_3 rfl ?_
    refine wp_aload_n C 0 dX12_grantOf_5 rfl rfl ?_
    refine wp_getI C dX12_grantOf_6 fX12_grantOf_221 hM.ob ?_
    refine wp_eqi ((hA.1 22 (by decide)).trans n22) ?_
    refine wp_icmp_ge C 113 dX12_grantOf_9 (by decide) (fun c9 => ?_) (fun c9 => ?_)
    · have c9 : (((gN_ a) : Nat) : Int) ≤ ((i : Nat) : Int) := by have hcv := p_le c9; rw [nI_toInt (show (gN_ a) < 2 ^ 31 by omega), nI_toInt (show i < 2 ^ 31 by omega)] at hcv; exact hcv
      refine wp_iconst C (-1) dX12_grantOf_113 (by decide) ?_
      have e9 : gN_ a = i := by omega
      exact wp_iret C Z dX12_grantOf_114 (by decide) (by decide) (by rw [show gOfV a b (rc (nI x) (nI y) (nI z) d) = -1 from by unfold gOfV own; rw [ff_none (fun j hj => hno j (by omega)), if_neg (Nat.lt_irrefl _)]]; exact gP_rf)
    · have c9 : ¬ (((gN_ a) : Nat) : Int) ≤ ((i : Nat) : Int) := by have hcv := n_le c9; rw [nI_toInt (show (gN_ a) < 2 ^ 31 by omega), nI_toInt (show i < 2 ^ 31 by omega)] at hcv; exact hcv
      have hg := (hG.2 i (by omega)).1
      have hh := hit_T (a := a) (b := b) (p := 1 <<< (nI x &&& 31)) (t := 1 <<< (nI y &&& 31)) (f := 1 <<< (nI z &&& 31)) (d := d) (u := d) (i := i)
      have hg1 : (1 ≤ (a 30 i).toInt ∧ (a 30 i).toInt ≤ 255) ∧ (1 ≤ (a 31 i).toInt ∧ (a 31 i).toInt ≤ 15) ∧ (1 ≤ (a 32 i).toInt ∧ (a 32 i).toInt ≤ 15) := ⟨hg.1, hg.2.1, hg.2.2.1⟩
      have bx := bit_T (x := a 30 i) (by omega) hx
      have by_ := bit_T (x := a 31 i) (by omega) (show y < 8 by omega)
      have bz := bit_T (x := a 32 i) (by omega) (show z < 8 by omega)
      refine wp_aload_n C 0 dX12_grantOf_12 rfl rfl ?_
      refine wp_getR C dX12_grantOf_13 fX12_grantOf_68 hM.ob (hM.rf 28 rfl) ?_
      refine wp_iload C 6 dX12_grantOf_16 rfl ?_
      refine wp_iald C dX12_grantOf_18 (hM.ar 28 rfl rfl) (j := i) rfl (by omega) (by decide) ?_
      refine wp_eqi (congrFun (hA.2.1 28 (by unfold mR; omega)) _) ?_
      refine wp_iload_n C 1 dX12_grantOf_19 rfl rfl ?_
      refine wp_icmp_ne C 73 dX12_grantOf_20 (by decide) (fun c20 => ?_) (fun c20 => ?_)
      · have c20 : ¬ (a 28 i).toInt = b.toInt := by have hcv := n_eq c20; exact hcv
        refine wp_iconst C 0 dX12_grantOf_73 (by decide) ?_
        refine wp_istore C [(7, .int 0), (0, .ref m), (1, .int b), (2, .int (nI x)), (3, .int (nI y)), (4, .int (nI z)), (5, .int d), (6, .int (nI i))] dX12_grantOf_74 (by decide) rfl ?_
        refine wp_iload C 0 dX12_grantOf_76 rfl ?_
        refine wp_if_eq C 107 dX12_grantOf_78 (by decide) (fun c78 => ?_) (fun c78 => ?_)
        · refine wp_iinc C 7 (nI (i + 1)) [(6, .int (nI (i + 1))), (7, .int 0), (0, .ref m), (1, .int b), (2, .int (nI x)), (3, .int (nI y)), (4, .int (nI z)), (5, .int d)] dX12_grantOf_107 rfl (nI_1 i) (by decide) rfl ?_
          refine wp_goto C 3 dX12_grantOf_110 (by decide) ?_
          refine wp_lv [2, 3, 4, 5, 6, 7, 0] rfl ?_
          refine ih (i + 1) (by omega) (by omega) (fun j hj => ?_) _ rfl
          by_cases zz : j = i
          · rw [zz]; exact fun w9 => by have hy := hh.mp w9; omega
          · exact hno j (by omega)
        · exact absurd (by decide) c78
      · have c20 : (a 28 i).toInt = b.toInt := by have hcv := p_eq c20; exact hcv
        refine wp_aload_n C 0 dX12_grantOf_23 rfl rfl ?_
        refine wp_getR C dX12_grantOf_24 fX12_grantOf_74 hM.ob (hM.rf 30 rfl) ?_
        refine wp_iload C 6 dX12_grantOf_27 rfl ?_
        refine wp_iald C dX12_grantOf_29 (hM.ar 30 rfl rfl) (j := i) rfl (by omega) (by decide) ?_
        refine wp_eqi (congrFun (hA.2.1 30 (by unfold mR; omega)) _) ?_
        refine wp_iload_n C 2 dX12_grantOf_30 rfl rfl ?_
        refine wp_ishr C dX12_grantOf_31 ?_
        refine wp_iconst C 1 dX12_grantOf_32 (by decide) ?_
        refine wp_iand C dX12_grantOf_33 ?_
        refine wp_iconst C 1 dX12_grantOf_34 (by decide) ?_
        refine wp_icmp_ne C 73 dX12_grantOf_35 (by decide) (fun c35 => ?_) (fun c35 => ?_)
        · have c35 : ¬ (((a 30 i) >>> ((nI x) &&& 31)) &&& 1).toInt = 1 := by have hcv := n_eq c35; exact hcv
          refine wp_iconst C 0 dX12_grantOf_73 (by decide) ?_
          refine wp_istore C [(7, .int 0), (0, .ref m), (1, .int b), (2, .int (nI x)), (3, .int (nI y)), (4, .int (nI z)), (5, .int d), (6, .int (nI i))] dX12_grantOf_74 (by decide) rfl ?_
          refine wp_iload C 0 dX12_grantOf_76 rfl ?_
          refine wp_if_eq C 107 dX12_grantOf_78 (by decide) (fun c78 => ?_) (fun c78 => ?_)
          · refine wp_iinc C 7 (nI (i + 1)) [(6, .int (nI (i + 1))), (7, .int 0), (0, .ref m), (1, .int b), (2, .int (nI x)), (3, .int (nI y)), (4, .int (nI z)), (5, .int d)] dX12_grantOf_107 rfl (nI_1 i) (by decide) rfl ?_
            refine wp_goto C 3 dX12_grantOf_110 (by decide) ?_
            refine wp_lv [2, 3, 4, 5, 6, 7, 0] rfl ?_
            refine ih (i + 1) (by omega) (by omega) (fun j hj => ?_) _ rfl
            by_cases zz : j = i
            · rw [zz]; exact fun w9 => by have hy := hh.mp w9; omega
            · exact hno j (by omega)
          · exact absurd (by decide) c78
        · have c35 : (((a 30 i) >>> ((nI x) &&& 31)) &&& 1).toInt = 1 := by have hcv := p_eq c35; exact hcv
          refine wp_aload_n C 0 dX12_grantOf_38 rfl rfl ?_
          refine wp_getR C dX12_grantOf_39 fX12_grantOf_77 hM.ob (hM.rf 31 rfl) ?_
          refine wp_iload C 6 dX12_grantOf_42 rfl ?_
          refine wp_iald C dX12_grantOf_44 (hM.ar 31 rfl rfl) (j := i) rfl (by omega) (by decide) ?_
          refine wp_eqi (congrFun (hA.2.1 31 (by unfold mR; omega)) _) ?_
          refine wp_iload_n C 3 dX12_grantOf_45 rfl rfl ?_
          refine wp_ishr C dX12_grantOf_46 ?_
          refine wp_iconst C 1 dX12_grantOf_47 (by decide) ?_
          refine wp_iand C dX12_grantOf_48 ?_
          refine wp_iconst C 1 dX12_grantOf_49 (by decide) ?_
          refine wp_icmp_ne C 73 dX12_grantOf_50 (by decide) (fun c50 => ?_) (fun c50 => ?_)
          · have c50 : ¬ (((a 31 i) >>> ((nI y) &&& 31)) &&& 1).toInt = 1 := by have hcv := n_eq c50; exact hcv
            refine wp_iconst C 0 dX12_grantOf_73 (by decide) ?_
            refine wp_istore C [(7, .int 0), (0, .ref m), (1, .int b), (2, .int (nI x)), (3, .int (nI y)), (4, .int (nI z)), (5, .int d), (6, .int (nI i))] dX12_grantOf_74 (by decide) rfl ?_
            refine wp_iload C 0 dX12_grantOf_76 rfl ?_
            refine wp_if_eq C 107 dX12_grantOf_78 (by decide) (fun c78 => ?_) (fun c78 => ?_)
            · refine wp_iinc C 7 (nI (i + 1)) [(6, .int (nI (i + 1))), (7, .int 0), (0, .ref m), (1, .int b), (2, .int (nI x)), (3, .int (nI y)), (4, .int (nI z)), (5, .int d)] dX12_grantOf_107 rfl (nI_1 i) (by decide) rfl ?_
              refine wp_goto C 3 dX12_grantOf_110 (by decide) ?_
              refine wp_lv [2, 3, 4, 5, 6, 7, 0] rfl ?_
              refine ih (i + 1) (by omega) (by omega) (fun j hj => ?_) _ rfl
              by_cases zz : j = i
              · rw [zz]; exact fun w9 => by have hy := hh.mp w9; omega
              · exact hno j (by omega)
            · exact absurd (by decide) c78
          · have c50 : (((a 31 i) >>> ((nI y) &&& 31)) &&& 1).toInt = 1 := by have hcv := p_eq c50; exact hcv
            refine wp_aload_n C 0 dX12_grantOf_53 rfl rfl ?_
            refine wp_getR C dX12_grantOf_54 fX12_grantOf_80 hM.ob (hM.rf 32 rfl) ?_
            refine wp_iload C 6 dX12_grantOf_57 rfl ?_
            refine wp_iald C dX12_grantOf_59 (hM.ar 32 rfl rfl) (j := i) rfl (by omega) (by decide) ?_
            refine wp_eqi (congrFun (hA.2.1 32 (by unfold mR; omega)) _) ?_
            refine wp_iload C 4 dX12_grantOf_60 rfl ?_
            refine wp_ishr C dX12_grantOf_62 ?_
            refine wp_iconst C 1 dX12_grantOf_63 (by decide) ?_
            refine wp_iand C dX12_grantOf_64 ?_
            refine wp_iconst C 1 dX12_grantOf_65 (by decide) ?_
            refine wp_icmp_ne C 73 dX12_grantOf_66 (by decide) (fun c66 => ?_) (fun c66 => ?_)
            · have c66 : ¬ (((a 32 i) >>> ((nI z) &&& 31)) &&& 1).toInt = 1 := by have hcv := n_eq c66; exact hcv
              refine wp_iconst C 0 dX12_grantOf_73 (by decide) ?_
              refine wp_istore C [(7, .int 0), (0, .ref m), (1, .int b), (2, .int (nI x)), (3, .int (nI y)), (4, .int (nI z)), (5, .int d), (6, .int (nI i))] dX12_grantOf_74 (by decide) rfl ?_
              refine wp_iload C 0 dX12_grantOf_76 rfl ?_
              refine wp_if_eq C 107 dX12_grantOf_78 (by decide) (fun c78 => ?_) (fun c78 => ?_)
              · refine wp_iinc C 7 (nI (i + 1)) [(6, .int (nI (i + 1))), (7, .int 0), (0, .ref m), (1, .int b), (2, .int (nI x)), (3, .int (nI y)), (4, .int (nI z)), (5, .int d)] dX12_grantOf_107 rfl (nI_1 i) (by decide) rfl ?_
                refine wp_goto C 3 dX12_grantOf_110 (by decide) ?_
                refine wp_lv [2, 3, 4, 5, 6, 7, 0] rfl ?_
                refine ih (i + 1) (by omega) (by omega) (fun j hj => ?_) _ rfl
                by_cases zz : j = i
                · rw [zz]; exact fun w9 => by have hy := hh.mp w9; omega
                · exact hno j (by omega)
              · exact absurd (by decide) c78
            · have c66 : (((a 32 i) >>> ((nI z) &&& 31)) &&& 1).toInt = 1 := by have hcv := p_eq c66; exact hcv
              refine wp_iconst C 1 dX12_grantOf_69 (by decide) ?_
              refine wp_goto C 74 dX12_grantOf_70 (by decide) ?_
              refine wp_istore C [(7, .int 1), (0, .ref m), (1, .int b), (2, .int (nI x)), (3, .int (nI y)), (4, .int (nI z)), (5, .int d), (6, .int (nI i))] dX12_grantOf_74 (by decide) rfl ?_
              refine wp_iload C 0 dX12_grantOf_76 rfl ?_
              refine wp_if_eq C 107 dX12_grantOf_78 (by decide) (fun c78 => ?_) (fun c78 => ?_)
              · exact absurd c78 (by decide)
              · refine wp_aload_n C 1 dX12_grantOf_81 rfl rfl ?_
                refine wp_getR C dX12_grantOf_82 fX12_grantOf_83 hM.ob (hM.rf 33 rfl) ?_
                refine wp_iload C 7 dX12_grantOf_85 rfl ?_
                refine wp_iald C dX12_grantOf_87 (hM.ar 33 rfl rfl) (j := i) rfl (by omega) (by decide) ?_
                refine wp_eqi (congrFun (hA.2.1 33 (by unfold mR; omega)) _) ?_
                refine wp_iload C 6 dX12_grantOf_88 rfl ?_
                refine wp_icmp_gt C 107 dX12_grantOf_90 (by decide) (fun c90 => ?_) (fun c90 => ?_)
                · have c90 : d.toInt < (a 33 i).toInt := by have hcv := p_lt c90; exact hcv
                  refine wp_iinc C 7 (nI (i + 1)) [(6, .int (nI (i + 1))), (7, .int 1), (0, .ref m), (1, .int b), (2, .int (nI x)), (3, .int (nI y)), (4, .int (nI z)), (5, .int d)] dX12_grantOf_107 rfl (nI_1 i) (by decide) rfl ?_
                  refine wp_goto C 3 dX12_grantOf_110 (by decide) ?_
                  refine wp_lv [2, 3, 4, 5, 6, 7, 0] rfl ?_
                  refine ih (i + 1) (by omega) (by omega) (fun j hj => ?_) _ rfl
                  by_cases zz : j = i
                  · rw [zz]; exact fun w9 => by have hy := hh.mp w9; omega
                  · exact hno j (by omega)
                · have c90 : ¬ d.toInt < (a 33 i).toInt := by have hcv := n_lt c90; exact hcv
                  refine wp_iload C 6 dX12_grantOf_93 rfl ?_
                  refine wp_aload_n C 1 dX12_grantOf_95 rfl rfl ?_
                  refine wp_iload C 7 dX12_grantOf_96 rfl ?_
                  have hlt := lastV_T (hG.2 i (by omega)).2.2
                  refine wp_cVi C (As := [.int (nI i)]) (rest := [.int d]) dX12_grantOf_98 kX12_grantOf_227 hM.ob (m_lastOf _ hM hA (i := i) (by omega)) rfl (Nat.le_of_ble_eq_true rfl) (by decide) (by decide) ?_
                  refine wp_icmp_gt C 107 dX12_grantOf_101 (by decide) (fun c101 => ?_) (fun c101 => ?_)
                  · have c101 : (lastV a i).toInt < d.toInt := by have hcv := p_lt c101; exact hcv
                    refine wp_iinc C 7 (nI (i + 1)) [(6, .int (nI (i + 1))), (7, .int 1), (0, .ref m), (1, .int b), (2, .int (nI x)), (3, .int (nI y)), (4, .int (nI z)), (5, .int d)] dX12_grantOf_107 rfl (nI_1 i) (by decide) rfl ?_
                    refine wp_goto C 3 dX12_grantOf_110 (by decide) ?_
                    refine wp_lv [2, 3, 4, 5, 6, 7, 0] rfl ?_
                    refine ih (i + 1) (by omega) (by omega) (fun j hj => ?_) _ rfl
                    by_cases zz : j = i
                    · rw [zz]; exact fun w9 => by have hy := hh.mp w9; omega
                    · exact hno j (by omega)
                  · have c101 : ¬ (lastV a i).toInt < d.toInt := by have hcv := n_lt c101; exact hcv
                    refine wp_iload C 7 dX12_grantOf_104 rfl ?_
                    have hfi : ff (hitN a b (rc (nI x) (nI y) (nI z) d)) (gN_ a) = i := ff_eq (by omega) (hh.mpr (by omega)) hno
                    exact wp_iret C Z dX12_grantOf_106 (by decide) (by decide) (by rw [show gOfV a b (rc (nI x) (nI y) (nI z) d) = nI i from by unfold gOfV own; rw [hfi, if_pos (by omega)]]; exact gP_rf)
  refine wp_iconst C 0 dX12_grantOf_0 (by decide) ?_
  refine wp_istore C [(6, .int 0), (0, .ref m), (1, .int b), (2, .int (nI x)), (3, .int (nI y)), (4, .int (nI z)), (5, .int d)] dX12_grantOf_1 (by decide) rfl ?_
  refine wp_lv [1, 2, 3, 4, 5, 6, 0] rfl ?_
  exact loop 0 (by omega) (fun j hj => by omega) _ rfl
theorem gOfV_s (a : gI) (h : okG a) (b : Int32) (v : Nat → Int32) : (0 ≤ (gOfV a b v).toInt ↔ ¬ clN a b v = 0) ∧ (¬ clN a b v = 0 → gOfV a b v = nI (own a (gN_ a) b v) ∧ own a (gN_ a) b v < gN_ a ∧ ownV a b v = a 29 (own a (gN_ a) b v)) := by
  have h60 := h.1
  have hn : (gN_ a : Int) ≤ 60 := by unfold gN_; omega
  unfold gOfV clN ownV
  by_cases z : own a (gN_ a) b v < gN_ a
  · rw [if_pos z, if_pos z, if_pos z, nI_toInt (by omega)]
    exact ⟨⟨fun _ => by decide, fun _ => by omega⟩, fun _ => ⟨rfl, z, rfl⟩⟩
  · rw [if_neg z, if_neg z, if_neg z]
    exact ⟨⟨fun y => absurd y (by decide), fun y => absurd rfl y⟩, fun y => absurd rfl y⟩
theorem gOfV_st (a : gI) (s b : Int32) (v : Nat → Int32) : gOfV (u2 a 0 0 s) b v = gOfV a b v := rfl
set_option maxRecDepth 100000 in
set_option maxHeartbeats 4000000 in
theorem m_has (l : Launch) {T : gSh} {I : gI} {J : gJ} {R : gR} {m : Nat} {ad : Nat → Nat} (hM : MO T R m ad) {a : gI} {n : gJ} (hA : MA I J m ad a n) (hG : okG a) (b p t f d : Int32) : Con l yX12_has wsX12_has ({ frames := 3, cells := 0, slots := 0, locals := 69 }) [.ref m, .int b, .int p, .int t, .int f, .int d] T I J R (PZ T I J R m ad (.int (vHa a b p t f d)) (u2 a 0 0 (nI (stHa a b p t f d))) n) := by
  refine Con.mk (cc := cX12_has) (maxL := 7) (ret := (some .int)) (by decide) rfl (Nat.le_of_ble_eq_true rfl) ?_
  intro E hE C Z hnm
  subst hE
  change WP E 7 0 0 T I J R 0 [(0, .ref m), (1, .int b), (2, .int p), (3, .int t), (4, .int f), (5, .int d)] []
  have hX1 := ((MX.i hA).t hM 0).f hM 0 0
  refine wp_aload_n C 0 dX12_has_0 rfl rfl ?_
  refine wp_iconst C 0 dX12_has_1 (by decide) ?_
  refine wp_putI C dX12_has_2 pX12_has_134 (fun h => nomatch h) hM.ob ?_
  refine wp_aload_n C 0 dX12_has_5 rfl rfl ?_
  refine wp_iconst C 0 dX12_has_6 (by decide) ?_
  refine wp_putI C dX12_has_7 pX12_has_137 (fun h => nomatch h) hM.ob ?_
  refine wp_aload_n C 0 dX12_has_10 rfl rfl ?_
  refine wp_iload_n C 1 dX12_has_11 rfl rfl ?_
  refine wp_cVi C (As := [.int b]) (rest := []) dX12_has_12 kX12_has_209 hM.ob (m_isBook _ hM b) rfl (Nat.le_of_ble_eq_true rfl) (by decide) (by decide) ?_
  refine wp_eqi (congrArg (fun z : Int32 => bI (0 ≤ b.toInt ∧ b.toInt < z.toInt)) (((u2_k _ _ _ _ (by decide) _).trans (u2_k _ _ _ _ (by decide) _)).trans (hA.1 21 (by decide)))) ?_
  refine wp_if_ne C 24 dX12_has_15 (by decide) (fun c15 => ?_) (fun c15 => ?_)
  · have c15 : (0 ≤ b.toInt ∧ b.toInt < (a 0 21).toInt) := Classical.byContradiction (fun z => c15 (bI_f z))
    refine wp_iload_n C 2 dX12_has_24 rfl rfl ?_
    refine wp_if_lt C 62 dX12_has_25 (by decide) (fun c25 => ?_) (fun c25 => ?_)
    · have c25 : p.toInt < 0 := by have hcv := p_lt c25; exact hcv
      refine wp_aload_n C 0 dX12_has_62 rfl rfl ?_
      refine wp_iconst C 2 dX12_has_63 (by decide) ?_
      refine wp_cVi C (As := [.int 2]) (rest := []) dX12_has_64 kX12_has_164 hM.ob (m_refuse _ hM 2) rfl (Nat.le_of_ble_eq_true rfl) (by decide) (by decide) ?_
      have hsc : stCe a b p t f d = 2 := by simp only [stCe]; (repeat' split) <;> omega
      have hst : stHa a b p t f d = 2 := by unfold stHa; rw [if_neg (by rw [hsc]; decide), hsc]
      exact wp_iret C Z dX12_has_67 (by decide) (by decide) ⟨by unfold vHa; rw [if_neg (by rw [hst]; decide)], rfl, rfl, by rw [hst]; exact MX.no hA hM 2⟩
    · have c25 : ¬ p.toInt < 0 := by have hcv := n_lt c25; exact hcv
      refine wp_iload_n C 2 dX12_has_28 rfl rfl ?_
      refine wp_bipush C 7 dX12_has_29 (by decide) ?_
      refine wp_icmp_gt C 62 dX12_has_31 (by decide) (fun c31 => ?_) (fun c31 => ?_)
      · have c31 : 7 < p.toInt := by have hcv := p_lt c31; exact hcv
        refine wp_aload_n C 0 dX12_has_62 rfl rfl ?_
        refine wp_iconst C 2 dX12_has_63 (by decide) ?_
        refine wp_cVi C (As := [.int 2]) (rest := []) dX12_has_64 kX12_has_164 hM.ob (m_refuse _ hM 2) rfl (Nat.le_of_ble_eq_true rfl) (by decide) (by decide) ?_
        have hsc : stCe a b p t f d = 2 := by simp only [stCe]; (repeat' split) <;> omega
        have hst : stHa a b p t f d = 2 := by unfold stHa; rw [if_neg (by rw [hsc]; decide), hsc]
        exact wp_iret C Z dX12_has_67 (by decide) (by decide) ⟨by unfold vHa; rw [if_neg (by rw [hst]; decide)], rfl, rfl, by rw [hst]; exact MX.no hA hM 2⟩
      · have c31 : ¬ 7 < p.toInt := by have hcv := n_lt c31; exact hcv
        refine wp_iload_n C 3 dX12_has_34 rfl rfl ?_
        refine wp_if_lt C 62 dX12_has_35 (by decide) (fun c35 => ?_) (fun c35 => ?_)
        · have c35 : t.toInt < 0 := by have hcv := p_lt c35; exact hcv
          refine wp_aload_n C 0 dX12_has_62 rfl rfl ?_
          refine wp_iconst C 2 dX12_has_63 (by decide) ?_
          refine wp_cVi C (As := [.int 2]) (rest := []) dX12_has_64 kX12_has_164 hM.ob (m_refuse _ hM 2) rfl (Nat.le_of_ble_eq_true rfl) (by decide) (by decide) ?_
          have hsc : stCe a b p t f d = 2 := by simp only [stCe]; (repeat' split) <;> omega
          have hst : stHa a b p t f d = 2 := by unfold stHa; rw [if_neg (by rw [hsc]; decide), hsc]
          exact wp_iret C Z dX12_has_67 (by decide) (by decide) ⟨by unfold vHa; rw [if_neg (by rw [hst]; decide)], rfl, rfl, by rw [hst]; exact MX.no hA hM 2⟩
        · have c35 : ¬ t.toInt < 0 := by have hcv := n_lt c35; exact hcv
          refine wp_iload_n C 3 dX12_has_38 rfl rfl ?_
          refine wp_iconst C 3 dX12_has_39 (by decide) ?_
          refine wp_icmp_gt C 62 dX12_has_40 (by decide) (fun c40 => ?_) (fun c40 => ?_)
          · have c40 : 3 < t.toInt := by have hcv := p_lt c40; exact hcv
            refine wp_aload_n C 0 dX12_has_62 rfl rfl ?_
            refine wp_iconst C 2 dX12_has_63 (by decide) ?_
            refine wp_cVi C (As := [.int 2]) (rest := []) dX12_has_64 kX12_has_164 hM.ob (m_refuse _ hM 2) rfl (Nat.le_of_ble_eq_true rfl) (by decide) (by decide) ?_
            have hsc : stCe a b p t f d = 2 := by simp only [stCe]; (repeat' split) <;> omega
            have hst : stHa a b p t f d = 2 := by unfold stHa; rw [if_neg (by rw [hsc]; decide), hsc]
            exact wp_iret C Z dX12_has_67 (by decide) (by decide) ⟨by unfold vHa; rw [if_neg (by rw [hst]; decide)], rfl, rfl, by rw [hst]; exact MX.no hA hM 2⟩
          · have c40 : ¬ 3 < t.toInt := by have hcv := n_lt c40; exact hcv
            refine wp_iload C 4 dX12_has_43 rfl ?_
            refine wp_if_lt C 62 dX12_has_45 (by decide) (fun c45 => ?_) (fun c45 => ?_)
            · have c45 : f.toInt < 0 := by have hcv := p_lt c45; exact hcv
              refine wp_aload_n C 0 dX12_has_62 rfl rfl ?_
              refine wp_iconst C 2 dX12_has_63 (by decide) ?_
              refine wp_cVi C (As := [.int 2]) (rest := []) dX12_has_64 kX12_has_164 hM.ob (m_refuse _ hM 2) rfl (Nat.le_of_ble_eq_true rfl) (by decide) (by decide) ?_
              have hsc : stCe a b p t f d = 2 := by simp only [stCe]; (repeat' split) <;> omega
              have hst : stHa a b p t f d = 2 := by unfold stHa; rw [if_neg (by rw [hsc]; decide), hsc]
              exact wp_iret C Z dX12_has_67 (by decide) (by decide) ⟨by unfold vHa; rw [if_neg (by rw [hst]; decide)], rfl, rfl, by rw [hst]; exact MX.no hA hM 2⟩
            · have c45 : ¬ f.toInt < 0 := by have hcv := n_lt c45; exact hcv
              refine wp_iload C 4 dX12_has_48 rfl ?_
              refine wp_iconst C 3 dX12_has_50 (by decide) ?_
              refine wp_icmp_gt C 62 dX12_has_51 (by decide) (fun c51 => ?_) (fun c51 => ?_)
              · have c51 : 3 < f.toInt := by have hcv := p_lt c51; exact hcv
                refine wp_aload_n C 0 dX12_has_62 rfl rfl ?_
                refine wp_iconst C 2 dX12_has_63 (by decide) ?_
                refine wp_cVi C (As := [.int 2]) (rest := []) dX12_has_64 kX12_has_164 hM.ob (m_refuse _ hM 2) rfl (Nat.le_of_ble_eq_true rfl) (by decide) (by decide) ?_
                have hsc : stCe a b p t f d = 2 := by simp only [stCe]; (repeat' split) <;> omega
                have hst : stHa a b p t f d = 2 := by unfold stHa; rw [if_neg (by rw [hsc]; decide), hsc]
                exact wp_iret C Z dX12_has_67 (by decide) (by decide) ⟨by unfold vHa; rw [if_neg (by rw [hst]; decide)], rfl, rfl, by rw [hst]; exact MX.no hA hM 2⟩
              · have c51 : ¬ 3 < f.toInt := by have hcv := n_lt c51; exact hcv
                refine wp_iload C 5 dX12_has_54 rfl ?_
                refine wp_cSi C (As := [.int d]) (rest := []) dX12_has_56 kX12_has_206 (m_isDay _ d) rfl (Nat.le_of_ble_eq_true rfl) (by decide) (by decide) ?_
                refine wp_if_ne C 68 dX12_has_59 (by decide) (fun c59 => ?_) (fun c59 => ?_)
                · have c59 : (0 ≤ d.toInt ∧ d.toInt ≤ 9999) := Classical.byContradiction (fun z => c59 (bI_f z))
                  have hsc : stCe a b p t f d = 0 := by simp only [stCe]; (repeat' split) <;> omega
                  obtain ⟨pn, hpn, rfl⟩ := natOf (show 0 ≤ p.toInt by omega)
                  obtain ⟨tn, htn, rfl⟩ := natOf (show 0 ≤ t.toInt by omega)
                  obtain ⟨fn, hfn, rfl⟩ := natOf (show 0 ≤ f.toInt by omega)
                  refine wp_aload_n C 0 dX12_has_68 rfl rfl ?_
                  refine wp_iload_n C 1 dX12_has_69 rfl rfl ?_
                  refine wp_iload_n C 2 dX12_has_70 rfl rfl ?_
                  refine wp_iload_n C 3 dX12_has_71 rfl rfl ?_
                  refine wp_iload C 4 dX12_has_72 rfl ?_
                  refine wp_iload C 5 dX12_has_74 rfl ?_
                  refine wp_cVi C (As := [.int b, .int (nI pn), .int (nI tn), .int (nI fn), .int d]) (rest := []) dX12_has_76 kX12_has_241 hM.ob (m_grantOf _ hM hX1.2 (hG.st 0) b (x := pn) (y := tn) (z := fn) (by omega) (by omega) (by omega) d) rfl (Nat.le_of_ble_eq_true rfl) (by decide) (by decide) ?_
                  refine wp_eqi (gOfV_st a 0 b _) ?_
                  have hgo := gOfV_s a hG b (rc (nI pn) (nI tn) (nI fn) d)
                  refine wp_istore C [(6, .int (gOfV a b (rc (nI pn) (nI tn) (nI fn) d))), (0, .ref m), (1, .int b), (2, .int (nI pn)), (3, .int (nI tn)), (4, .int (nI fn)), (5, .int d)] dX12_has_79 (by decide) rfl ?_
                  refine wp_iload C 0 dX12_has_81 rfl ?_
                  refine wp_if_ge C 95 dX12_has_83 (by decide) (fun c83 => ?_) (fun c83 => ?_)
                  · have c83 : ¬ clN a b (rc (nI pn) (nI tn) (nI fn) d) = 0 := hgo.1.mp (p_le c83)
                    refine wp_aload_n C 1 dX12_has_95 rfl rfl ?_
                    refine wp_getR C dX12_has_96 fX12_has_71 hM.ob (hM.rf 29 rfl) ?_
                    refine wp_iload C 0 dX12_has_99 rfl ?_
                    refine wp_iald C dX12_has_101 (hM.ar 29 rfl rfl) (j := own a (gN_ a) b (rc (nI pn) (nI tn) (nI fn) d)) (hgo.2 c83).1 (by have := (hgo.2 c83).2.1; have := hG.1; unfold gN_ at *; omega) (by decide) ?_
                    refine wp_eqi (((u2_a _ _ _ _ (hM.nm 29 rfl) _).trans (u2_a _ _ _ _ (hM.nm 29 rfl) _)).trans (congrFun (hA.2.1 29 (by unfold mR; omega)) _)) ?_
                    have hst : stHa a b (nI pn) (nI tn) (nI fn) d = 0 := by unfold stHa; rw [if_pos hsc, if_neg c83]
                    exact wp_iret C Z dX12_has_102 (by decide) (by decide) ⟨by unfold vHa; rw [if_pos hst, (hgo.2 c83).2.2], rfl, rfl, by rw [hst]; exact hX1⟩
                  · have c83 : clN a b (rc (nI pn) (nI tn) (nI fn) d) = 0 := (Classical.byContradiction (fun z => c83 ((i_le _ _).mpr (hgo.1.mpr z))))
                    refine wp_aload_n C 1 dX12_has_86 rfl rfl ?_
                    refine wp_bipush C 9 dX12_has_87 (by decide) ?_
                    refine wp_cVi C (As := [.int 9]) (rest := []) dX12_has_89 kX12_has_164 hM.ob (m_refuse _ hM 9) rfl (Nat.le_of_ble_eq_true rfl) (by decide) (by decide) ?_
                    refine wp_goto C 102 dX12_has_92 (by decide) ?_
                    have hst : stHa a b (nI pn) (nI tn) (nI fn) d = 9 := by unfold stHa; rw [if_pos hsc, if_pos c83]
                    exact wp_iret C Z dX12_has_102 (by decide) (by decide) ⟨by unfold vHa; rw [if_neg (by rw [hst]; decide)], rfl, rfl, by rw [hst]; exact MX.no hA hM 9⟩
                · have c59 : ¬ (0 ≤ d.toInt ∧ d.toInt ≤ 9999) := fun z => absurd ((bI_t z).symm.trans c59) (by decide)
                  refine wp_aload_n C 0 dX12_has_62 rfl rfl ?_
                  refine wp_iconst C 2 dX12_has_63 (by decide) ?_
                  refine wp_cVi C (As := [.int 2]) (rest := []) dX12_has_64 kX12_has_164 hM.ob (m_refuse _ hM 2) rfl (Nat.le_of_ble_eq_true rfl) (by decide) (by decide) ?_
                  have hsc : stCe a b p t f d = 2 := by simp only [stCe]; (repeat' split) <;> omega
                  have hst : stHa a b p t f d = 2 := by unfold stHa; rw [if_neg (by rw [hsc]; decide), hsc]
                  exact wp_iret C Z dX12_has_67 (by decide) (by decide) ⟨by unfold vHa; rw [if_neg (by rw [hst]; decide)], rfl, rfl, by rw [hst]; exact MX.no hA hM 2⟩
  · have c15 : ¬ (0 ≤ b.toInt ∧ b.toInt < (a 0 21).toInt) := fun z => absurd ((bI_t z).symm.trans c15) (by decide)
    refine wp_aload_n C 0 dX12_has_18 rfl rfl ?_
    refine wp_iconst C 1 dX12_has_19 (by decide) ?_
    refine wp_cVi C (As := [.int 1]) (rest := []) dX12_has_20 kX12_has_164 hM.ob (m_refuse _ hM 1) rfl (Nat.le_of_ble_eq_true rfl) (by decide) (by decide) ?_
    have hsc : stCe a b p t f d = 1 := by simp only [stCe]; (repeat' split) <;> omega
    have hst : stHa a b p t f d = 1 := by unfold stHa; rw [if_neg (by rw [hsc]; decide), hsc]
    exact wp_iret C Z dX12_has_23 (by decide) (by decide) ⟨by unfold vHa; rw [if_neg (by rw [hst]; decide)], rfl, rfl, by rw [hst]; exact MX.no hA hM 1⟩
