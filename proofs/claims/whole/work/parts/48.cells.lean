/-! ===== cells that are left: sums of bits ===== -/
/-- the bit k -/
def bt (x : Int32) (k : Nat) : Nat := x.toInt.toNat / 2 ^ k % 2
theorem bt_le (x : Int32) (k : Nat) : bt x k ≤ 1 := by unfold bt; omega
theorem tb_dm (x k : Nat) : (x / 2 ^ k % 2 = 1) ↔ x.testBit k = true := by
  rw [Nat.testBit_eq_decide_div_mod_eq]; simp
theorem and_dm (x y k : Nat) : (x &&& y) / 2 ^ k % 2 = (x / 2 ^ k % 2) * (y / 2 ^ k % 2) := by
  have h1 := tb_dm x k
  have h2 := tb_dm y k
  have h3 := tb_dm (x &&& y) k
  rw [Nat.testBit_and] at h3
  have a1 : x / 2 ^ k % 2 = 0 ∨ x / 2 ^ k % 2 = 1 := by omega
  have a2 : y / 2 ^ k % 2 = 0 ∨ y / 2 ^ k % 2 = 1 := by omega
  have a3 : (x &&& y) / 2 ^ k % 2 = 0 ∨ (x &&& y) / 2 ^ k % 2 = 1 := by omega
  rcases a1 with a1 | a1
  · rw [a1, Nat.zero_mul]
    rcases a3 with a3 | a3
    · exact a3
    · have := h3.mp a3
      rw [Bool.and_eq_true] at this
      have := h1.mpr this.1
      omega
  · rw [a1, Nat.one_mul]
    rcases a2 with a2 | a2
    · rw [a2]
      rcases a3 with a3 | a3
      · exact a3
      · have := h3.mp a3
        rw [Bool.and_eq_true] at this
        have := h2.mpr this.2
        omega
    · rw [a2]
      exact h3.mpr (by rw [h1.mp a1, h2.mp a2]; rfl)
theorem bt_and {x y : Int32} (hx : 0 ≤ x.toInt) (hy : 0 ≤ y.toInt) (k : Nat) : bt (x &&& y) k = bt x k * bt y k := by
  unfold bt
  rw [(and_bd hx hy).2.2.2]
  exact and_dm _ _ _
theorem pc8_sum (x : Nat) : pc8 x = smN (fun k => x / 2 ^ k % 2) 8 := by
  simp only [smN, pc8]
  rw [Nat.pow_zero, Nat.div_one]
  simp
theorem pcI_8 (x : Int32) : pcI x = smN (bt x) 8 := pc8_sum _
theorem pcI_4 {x : Int32} (h : 0 ≤ x.toInt ∧ x.toInt ≤ 15) : pcI x = smN (bt x) 4 := by
  rw [pcI_8]
  have z : ∀ k, 4 ≤ k → bt x k = 0 := by
    intro k hk
    unfold bt
    have h2 : x.toInt.toNat < 2 ^ k := Nat.lt_of_lt_of_le (show x.toInt.toNat < 2 ^ 4 by omega) (Nat.pow_le_pow_right (by decide) hk)
    rw [Nat.div_eq_of_lt h2]
  show smN (bt x) 4 + bt x 4 + bt x 5 + bt x 6 + bt x 7 = _
  rw [z 4 (by omega), z 5 (by omega), z 6 (by omega), z 7 (by omega)]; omega
theorem shr_all : ∀ x, x < 256 → ∀ k, k < 8 → ((nI x >>> (nI k &&& 31)) &&& 1).toInt = ((x / 2 ^ k % 2 : Nat) : Int) := by decide +kernel
theorem shr_bt {x : Int32} (hx : 0 ≤ x.toInt ∧ x.toInt ≤ 255) {k : Nat} (hk : k < 8) : ((x >>> (nI k &&& 31)) &&& 1).toInt = (bt x k : Int) := by
  obtain ⟨y, hy, rfl⟩ := natOf hx.1
  rw [shr_all y (by omega) k hk]
  unfold bt
  rw [← hy]; rfl
theorem bit_bt {x : Int32} (hx : 0 ≤ x.toInt ∧ x.toInt ≤ 255) {k : Nat} (hk : k < 8) : bt x k = 1 ↔ ¬ ((x &&& (1 <<< (nI k &&& 31))).toInt = 0) := by
  rw [← bit_T hx hk, shr_bt hx hk]
  omega
/-- sums over lands, tongues and forms -/
def sm3 (F : Nat → Nat → Nat → Nat) : Nat := smN (fun l => smN (fun t => smN (fun f => F l t f) 4) 4) 8
theorem sm3_cg {F G : Nat → Nat → Nat → Nat} (h : ∀ l t f, l < 8 → t < 4 → f < 4 → F l t f = G l t f) : sm3 F = sm3 G :=
  smN_congr (fun l hl => smN_congr (fun t ht => smN_congr (fun f hf => h l t f hl ht hf)))
theorem sm3_add (F G : Nat → Nat → Nat → Nat) : sm3 (fun l t f => F l t f + G l t f) = sm3 F + sm3 G := by
  unfold sm3
  rw [← smN_add]
  refine smN_congr (fun l _ => ?_)
  rw [← smN_add]
  refine smN_congr (fun t _ => ?_)
  rw [← smN_add]
theorem smN_mul (c : Nat) (f : Nat → Nat) (n : Nat) : smN (fun k => c * f k) n = c * smN f n := by
  induction n with
  | zero => rfl
  | succ n ih => show smN (fun k => c * f k) n + c * f n = c * (smN f n + f n); rw [ih, Nat.mul_add]
theorem sm3_prod (u v w : Nat → Nat) : sm3 (fun l t f => u l * v t * w f) = smN u 8 * smN v 4 * smN w 4 := by
  unfold sm3
  have h1 : ∀ l t, smN (fun f => u l * v t * w f) 4 = u l * v t * smN w 4 := fun l t => smN_mul _ _ _
  have h2 : ∀ l, smN (fun t => smN (fun f => u l * v t * w f) 4) 4 = u l * (smN v 4 * smN w 4) := by
    intro l
    rw [smN_congr (g := fun t => (u l * smN w 4) * v t) (fun t _ => by rw [h1, Nat.mul_assoc, Nat.mul_comm (v t), ← Nat.mul_assoc]), smN_mul, Nat.mul_assoc, Nat.mul_comm (smN w 4)]
  rw [smN_congr (g := fun l => (smN v 4 * smN w 4) * u l) (fun l _ => by rw [h2, Nat.mul_comm]), smN_mul, Nat.mul_comm, ← Nat.mul_assoc]
theorem sm3_sum (F : Nat → Nat → Nat → Nat → Nat) (g : Nat) : smN (fun i => sm3 (F i)) g = sm3 (fun l t f => smN (fun i => F i l t f) g) := by
  induction g with
  | zero => exact (smN_z 8 ▸ (smN_congr (fun l _ => (smN_z 4 ▸ smN_congr (fun t _ => (smN_z 4).symm)))) : 0 = sm3 (fun l t f => 0))
  | succ g ih => show smN (fun i => sm3 (F i)) g + sm3 (F g) = sm3 (fun l t f => smN (fun i => F i l t f) g + F g l t f); rw [ih, sm3_add]
/-- one of them at most -/
theorem smN_one {u : Nat → Nat} {h : Nat → Nat} {g : Nat} (hu : ∀ i, i < g → u i = if h i = 0 then 1 else 0) (hone : ∀ i j, i < j → j < g → h i = 0 → h j = 0 → False) : smN u g = if ff h g < g then 1 else 0 := by
  have sp := ff_sp h g
  by_cases z : ff h g < g
  · rw [if_pos z]
    have h0 := sp.2.1 z
    have := smN_at (f := u) (g := fun k => if k = ff h g then 1 else 0) z (fun k hk hne => by
      rw [hu k hk, if_neg hne]
      refine if_neg (fun q => ?_)
      rcases Nat.lt_or_gt_of_ne hne with y | y
      · exact hone k _ y z q h0
      · exact hone _ k y hk h0 q)
    rw [hu _ z, if_pos h0] at this
    have e1 : (fun k => if k = ff h g then 1 else 0) (ff h g) = 1 := if_pos rfl
    rw [show (if ff h g = ff h g then 1 else 0) = 1 from if_pos rfl] at this
    have e2 : smN (fun k => if k = ff h g then 1 else 0) g = 1 := by
      have q : ∀ n, smN (fun k => if k = ff h g then 1 else 0) n = if ff h g < n then 1 else 0 := by
        intro n
        induction n with
        | zero => rfl
        | succ n ih =>
          show smN _ n + (if n = ff h g then 1 else 0) = _
          rw [ih]
          by_cases y : n = ff h g
          · rw [if_pos y, if_neg (by omega), if_pos (by omega)]
          · rw [if_neg y]
            by_cases x : ff h g < n
            · rw [if_pos x, if_pos (by omega)]
            · rw [if_neg x, if_neg (by omega)]
      rw [q, if_pos z]
    omega
  · rw [if_neg z, smN_congr (g := fun _ => 0) (fun i hi => by rw [hu i hi]; exact if_neg (sp.2.2 i (by omega))), smN_z]
/-- all cells of the rights; those that nobody has -/
def pAll (v : Nat → Int32) : Nat := sm3 (fun l t f => bt (v 0) l * bt (v 1) t * bt (v 2) f)
def pFree (a : gI) (b d : Int32) (v : Nat → Int32) : Nat := sm3 (fun l t f => bt (v 0) l * bt (v 1) t * bt (v 2) f * (1 - clN a b (rc (nI l) (nI t) (nI f) d)))
theorem pAll_eq {v : Nat → Int32} (hv : vB v) : pAll v = pcI (v 0) * pcI (v 1) * pcI (v 2) := by
  unfold pAll
  rw [sm3_prod, pcI_8 (v 0), pcI_4 hv.2.1, pcI_4 hv.2.2]
/-- the grant's own days -/
def dyN (a : gI) (b d : Int32) (i : Nat) : Nat := if (a 28 i).toInt = b.toInt ∧ d.toInt ≤ lastI a i ∧ (a 33 i).toInt ≤ d.toInt then 1 else 0
theorem hit_bt {a : gI} {b d : Int32} {i l t f : Nat} (hv : vR (gv a i)) (hl : l < 8) (ht : t < 4) (hf : f < 4) : (if hitN a b (rc (nI l) (nI t) (nI f) d) i = 0 then 1 else 0) = dyN a b d i * (bt (a 30 i) l * bt (a 31 i) t * bt (a 32 i) f) := by
  have hg1 : (1 ≤ (a 30 i).toInt ∧ (a 30 i).toInt ≤ 255) ∧ (1 ≤ (a 31 i).toInt ∧ (a 31 i).toInt ≤ 15) ∧ (1 ≤ (a 32 i).toInt ∧ (a 32 i).toInt ≤ 15) := ⟨hv.1, hv.2.1, hv.2.2.1⟩
  have hh := hit_T (a := a) (b := b) (p := 1 <<< (nI l &&& 31)) (t := 1 <<< (nI t &&& 31)) (f := 1 <<< (nI f &&& 31)) (d := d) (u := d) (i := i)
  rw [← bit_bt (x := a 30 i) (by omega) hl, ← bit_bt (x := a 31 i) (by omega) (show t < 8 by omega), ← bit_bt (x := a 32 i) (by omega) (show f < 8 by omega)] at hh
  have b1 := bt_le (a 30 i) l
  have b2 := bt_le (a 31 i) t
  have b3 := bt_le (a 32 i) f
  unfold dyN
  by_cases z : hitN a b (rc (nI l) (nI t) (nI f) d) i = 0
  · have hz := hh.mp z
    rw [if_pos z, if_pos (by omega), hz.2.1, hz.2.2.1, hz.2.2.2.1]
  · rw [if_neg z]
    by_cases y : (a 28 i).toInt = b.toInt ∧ d.toInt ≤ lastI a i ∧ (a 33 i).toInt ≤ d.toInt
    · rw [if_pos y, Nat.one_mul]
      have z2 : ¬ (bt (a 30 i) l = 1 ∧ bt (a 31 i) t = 1 ∧ bt (a 32 i) f = 1) := fun q => z (hh.mpr ⟨y.1, q.1, q.2.1, q.2.2, by omega, by omega, by omega, by omega⟩)
      rcases (show bt (a 30 i) l = 0 ∨ bt (a 31 i) t = 0 ∨ bt (a 32 i) f = 0 by omega) with q | q | q
      · rw [q, Nat.zero_mul, Nat.zero_mul]
      · rw [q, Nat.mul_zero, Nat.zero_mul]
      · rw [q, Nat.mul_zero]
    · rw [if_neg y, Nat.zero_mul]
theorem cwN_sum {a : gI} {b p t f d : Int32} {i : Nat} (hg : vR (gv a i)) (hv : vB (rv p t f d d)) : cwN a i b (rv p t f d d) = sm3 (fun x y z => bt p x * bt t y * bt f z * (if hitN a b (rc (nI x) (nI y) (nI z) d) i = 0 then 1 else 0)) := by
  have hb := hg.b
  have e1 : cw3 (gv a i) (rv p t f d d) = smN (fun x => bt (a 30 i) x * bt p x) 8 * smN (fun y => bt (a 31 i) y * bt t y) 4 * smN (fun z => bt (a 32 i) z * bt f z) 4 := by
    have c1 := and_bd hb.1.1 hv.1.1
    have c2 := and_bd hb.2.1.1 hv.2.1.1
    have c3 := and_bd hb.2.2.1 hv.2.2.1
    have hb2 := hb.2.1
    have hb3 := hb.2.2
    unfold cw3
    rw [pcI_8, pcI_4 (x := gv a i 1 &&& rv p t f d d 1) (by omega), pcI_4 (x := gv a i 2 &&& rv p t f d d 2) (by omega)]
    rw [smN_congr (f := bt (gv a i 0 &&& rv p t f d d 0)) (fun x _ => bt_and hb.1.1 hv.1.1 x), smN_congr (f := bt (gv a i 1 &&& rv p t f d d 1)) (fun x _ => bt_and hb.2.1.1 hv.2.1.1 x), smN_congr (f := bt (gv a i 2 &&& rv p t f d d 2)) (fun x _ => bt_and hb.2.2.1 hv.2.2.1 x)]
    rfl
  have e2 : cwN a i b (rv p t f d d) = dyN a b d i * cw3 (gv a i) (rv p t f d d) := by
    unfold cwN dyN
    show (if (a 28 i).toInt = b.toInt ∧ d.toInt ≤ d.toInt ∧ d.toInt ≤ lastI a i ∧ (a 33 i).toInt ≤ d.toInt ∧ (a 33 i).toInt ≤ lastI a i then _ else 0) = _
    by_cases z : (a 28 i).toInt = b.toInt ∧ d.toInt ≤ lastI a i ∧ (a 33 i).toInt ≤ d.toInt
    · rw [if_pos z, if_pos (by omega), Nat.one_mul]
    · rw [if_neg z, if_neg (by omega), Nat.zero_mul]
  rw [e2, e1, ← sm3_prod]
  unfold sm3
  rw [← smN_mul]
  refine smN_congr (fun x hx => ?_)
  rw [← smN_mul]
  refine smN_congr (fun y hy => ?_)
  rw [← smN_mul]
  refine smN_congr (fun z hz => ?_)
  dsimp only
  rw [hit_bt hg hx hy hz]
  generalize bt (a 30 i) x = A
  generalize bt (a 31 i) y = B
  generalize bt (a 32 i) z = C
  generalize bt p x = P
  generalize bt t y = Q
  generalize bt f z = S
  generalize dyN a b d i = D
  simp only [Nat.mul_assoc, Nat.mul_comm, Nat.mul_left_comm]
/-- what is granted and what is left are all -/
theorem left_eq {T : gSh} {I : gI} {R : gR} {ca : Nat → Nat} {a : gI} (k : KG T I R ca a) {b p t f d : Int32} (hv : vB (rv p t f d d)) : smN (fun i => cwN a i b (rv p t f d d)) (gN_ a) + pFree a b d (rv p t f d d) = pAll (rv p t f d d) := by
  obtain ⟨g, k1, k2, k3, ga, ra, k4, k5, k6⟩ := k
  have eg : gN_ a = g := by unfold gN_; rw [k3, nI_toInt (by omega)]; rfl
  rw [eg, smN_congr (fun i hi => cwN_sum (k4 i hi).2.2.2.2.1 hv), sm3_sum]
  unfold pFree pAll
  rw [← sm3_add]
  refine sm3_cg (fun x y z hx hy hz => ?_)
  rw [smN_mul, smN_one (u := fun i => if hitN a b (rc (nI x) (nI y) (nI z) d) i = 0 then 1 else 0) (h := hitN a b (rc (nI x) (nI y) (nI z) d)) (fun i _ => rfl) ?_]
  · have e : (if ff (hitN a b (rc (nI x) (nI y) (nI z) d)) g < g then 1 else 0) = clN a b (rc (nI x) (nI y) (nI z) d) := by unfold clN own; rw [eg]
    rw [e]
    have hc := clN_le a b (rc (nI x) (nI y) (nI z) d)
    show bt p x * bt t y * bt f z * _ + bt p x * bt t y * bt f z * _ = bt p x * bt t y * bt f z
    rw [← Nat.mul_add, show clN a b (rc (nI x) (nI y) (nI z) d) + (1 - clN a b (rc (nI x) (nI y) (nI z) d)) = 1 by omega, Nat.mul_one]
  · intro i j hij hj hi0 hj0
    have vi := (k4 i (by omega)).2.2.2.2.1
    have vj := (k4 j hj).2.2.2.2.1
    have qi := hit_T.mp hi0
    have qj := hit_T.mp hj0
    have gi : (1 ≤ (a 30 i).toInt ∧ (a 30 i).toInt ≤ 255) ∧ (1 ≤ (a 31 i).toInt ∧ (a 31 i).toInt ≤ 15) ∧ (1 ≤ (a 32 i).toInt ∧ (a 32 i).toInt ≤ 15) := ⟨vi.1, vi.2.1, vi.2.2.1⟩
    have gj : (1 ≤ (a 30 j).toInt ∧ (a 30 j).toInt ≤ 255) ∧ (1 ≤ (a 31 j).toInt ∧ (a 31 j).toInt ≤ 15) ∧ (1 ≤ (a 32 j).toInt ∧ (a 32 j).toInt ≤ 15) := ⟨vj.1, vj.2.1, vj.2.2.1⟩
    have nz : ∀ (u w : Int32) (k : Nat), k < 8 → 0 ≤ u.toInt ∧ u.toInt ≤ 255 → 0 ≤ w.toInt ∧ w.toInt ≤ 255 → ¬ (u &&& (1 <<< (nI k &&& 31))).toInt = 0 → ¬ (w &&& (1 <<< (nI k &&& 31))).toInt = 0 → u &&& w ≠ 0 := by
      intro u w k hk hu hw h1 h2 h3
      have b1 := (bit_bt hu hk).mpr h1
      have b2 := (bit_bt hw hk).mpr h2
      have b3 := bt_and hu.1 hw.1 k
      rw [h3, b1, b2] at b3
      have : bt 0 k = 0 := by unfold bt; rw [show (0 : Int32).toInt.toNat = 0 from rfl, Nat.zero_div]
      omega
    exact k6 i j hij hj ⟨(i_eq _ _).mpr (by omega), nz _ _ x hx (by omega) (by omega) qi.2.1 qj.2.1, nz _ _ y (by omega) (by omega) (by omega) qi.2.2.1 qj.2.2.1, nz _ _ z (by omega) (by omega) (by omega) qi.2.2.2.1 qj.2.2.2.1, by omega, by omega, by omega, by omega⟩
