/-! ===== the best set stays best: counts, one worth changed, a free pair turned ===== -/
def smN (f : Nat → Nat) : Nat → Nat
  | 0 => 0
  | n + 1 => smN f n + f n
theorem smN_congr {f g : Nat → Nat} : ∀ {n : Nat}, (∀ k, k < n → f k = g k) → smN f n = smN g n := by
  intro n
  induction n with
  | zero => intro _; rfl
  | succ n ih => intro h; simp only [smN]; rw [ih (fun k hk => h k (by omega)), h n (by omega)]
theorem smN_at {f g : Nat → Nat} {n j : Nat} (hj : j < n) (h : ∀ k, k < n → k ≠ j → f k = g k) : smN f n + g j = smN g n + f j := by
  induction n with
  | zero => omega
  | succ n ih =>
    simp only [smN]
    by_cases hn : j = n
    · subst hn
      rw [smN_congr (f := f) (g := g) (n := j) (fun k hk => h k (by omega) (by omega))]; omega
    · have := ih (by omega) (fun k hk hne => h k (by omega) hne)
      have := h n (by omega) (fun e => hn e.symm)
      omega
theorem smN_pos {f : Nat → Nat} {n j : Nat} (hj : j < n) : f j ≤ smN f n := by
  induction n with
  | zero => omega
  | succ n ih =>
    simp only [smN]
    by_cases hn : j = n
    · subst hn; omega
    · have := ih (by omega); omega
theorem smN_ex {f : Nat → Nat} {n : Nat} (h : 0 < smN f n) : ∃ j, j < n ∧ 0 < f j := by
  induction n with
  | zero => simp [smN] at h
  | succ n ih =>
    simp only [smN] at h
    by_cases hf : 0 < f n
    · exact ⟨n, by omega, hf⟩
    · obtain ⟨j, h1, h2⟩ := ih (by omega)
      exact ⟨j, by omega, h2⟩
theorem smN_sm (f : Nat → Nat) (n : Nat) : sm (fun k => ((f k : Nat) : Int)) n = ((smN f n : Nat) : Int) := by
  induction n with
  | zero => rfl
  | succ n ih => simp only [sm, smN]; rw [ih]; omega
/-- the meetings of a node by the chosen pairs -/
def cnt (c : Nat → Nat) (n : Nat) : Nat := if n < 8 then smN (fun e => c (10 * n + e)) 10 else smN (fun a => c (10 * a + (n - 8))) 8
/-- a pair turned -/
def fli (c : Nat → Nat) (p : Nat) : Nat → Nat := fun r => if r = p then 1 - c p else c r
/-- the meetings behind a turn -/
def tdg (dg : Nat → Nat) (p cp : Nat) : Nat → Nat := fun n => if n = p / 10 ∨ n = 8 + p % 10 then (if cp = 0 then dg n + 1 else dg n - 1) else dg n
theorem fli_s {c : Nat → Nat} {p : Nat} : fli c p p = 1 - c p := by simp [fli]
theorem fli_n {c : Nat → Nat} {p r : Nat} (h : r ≠ p) : fli c p r = c r := by simp [fli, h]
theorem cnt_pos {c : Nat → Nat} {a e : Nat} (ha : a < 8) (he : e < 10) (h : c (10 * a + e) = 1) : 0 < cnt c a ∧ 0 < cnt c (8 + e) := by
  constructor
  · unfold cnt
    rw [if_pos ha]
    have := smN_pos (f := fun e => c (10 * a + e)) (n := 10) he
    omega
  · unfold cnt
    rw [if_neg (by omega), show 8 + e - 8 = e by omega]
    have := smN_pos (f := fun a => c (10 * a + e)) (n := 8) ha
    omega
theorem cnt_exA {c : Nat → Nat} {a : Nat} (ha : a < 8) (h : 0 < cnt c a) : ∃ e, e < 10 ∧ 0 < c (10 * a + e) := by
  unfold cnt at h
  rw [if_pos ha] at h
  exact smN_ex h
theorem cnt_exE {c : Nat → Nat} {e : Nat} (h : 0 < cnt c (8 + e)) : ∃ a, a < 8 ∧ 0 < c (10 * a + e) := by
  unfold cnt at h
  rw [if_neg (by omega), show 8 + e - 8 = e by omega] at h
  exact smN_ex h
theorem cnt_fli {c : Nat → Nat} {p n : Nat} (hp : p < 80) (hn : n < 18) (hc : c p ≤ 1) : cnt (fli c p) n = tdg (cnt c) p (c p) n ∧ (c p = 1 → (n = p / 10 ∨ n = 8 + p % 10) → 0 < cnt c n) := by
  have key : cnt (fli c p) n + (if n = p / 10 ∨ n = 8 + p % 10 then c p else 0) = cnt c n + (if n = p / 10 ∨ n = 8 + p % 10 then 1 - c p else 0) := by
    unfold cnt
    by_cases h8 : n < 8
    · rw [if_pos h8, if_pos h8]
      by_cases e : n = p / 10
      · rw [if_pos (Or.inl e), if_pos (Or.inl e)]
        have h := smN_at (f := fun e => fli c p (10 * n + e)) (g := fun e => c (10 * n + e)) (n := 10) (j := p % 10) (by omega) (fun k hk hne => fli_n (by omega))
        have e2 : 10 * n + p % 10 = p := by omega
        rw [e2, fli_s] at h
        exact h
      · have e3 : ¬ (n = p / 10 ∨ n = 8 + p % 10) := by omega
        rw [if_neg e3, if_neg e3]
        congr 1
        exact smN_congr (fun k hk => fli_n (by omega))
    · rw [if_neg h8, if_neg h8]
      by_cases e : n = 8 + p % 10
      · rw [if_pos (Or.inr e), if_pos (Or.inr e)]
        have h := smN_at (f := fun a => fli c p (10 * a + (n - 8))) (g := fun a => c (10 * a + (n - 8))) (n := 8) (j := p / 10) (by omega) (fun k hk hne => fli_n (by omega))
        have e2 : 10 * (p / 10) + (n - 8) = p := by omega
        rw [e2, fli_s] at h
        exact h
      · have e3 : ¬ (n = p / 10 ∨ n = 8 + p % 10) := by omega
        rw [if_neg e3, if_neg e3]
        congr 1
        exact smN_congr (fun k hk => fli_n (by omega))
  unfold tdg
  by_cases e : n = p / 10 ∨ n = 8 + p % 10
  · rw [if_pos e, if_pos e] at key
    rw [if_pos e]
    by_cases h0 : c p = 0
    · rw [if_pos h0]; exact ⟨by omega, fun h => by omega⟩
    · rw [if_neg h0]; exact ⟨by omega, fun _ _ => by omega⟩
  · rw [if_neg e, if_neg e] at key
    rw [if_neg e]
    exact ⟨by omega, fun _ h => absurd h e⟩
/-- the set is best for the worths told: potentials show it -/
def OpB (h : Nat) (w c dg : Nat → Nat) : Prop := (1 ≤ h ∧ h ≤ 8) ∧ (∀ p, p < 80 → w p ≤ 100 ∧ c p ≤ 1 ∧ (c p = 1 → 0 < w p)) ∧ (∀ n, n < 18 → dg n = cnt c n ∧ dg n ≤ h) ∧ ∃ π : Nat → Int, ∀ u v g, ArcB h w c dg 80 u v g → π u + g ≤ π v
theorem bit_le : ∀ p, p < 80 → (0 : Int) ≤ (if p < 40 then 2 ^ (39 - p) else 0) * 2 ^ 100 + lwI p ∧ (if p < 40 then 2 ^ (39 - p) else 0) * 2 ^ 100 + lwI p < 2 ^ 140 ∧ lwI p < 2 ^ 100 := by decide +kernel
theorem wt_pos {x p : Nat} (hx : 0 < x) (hp : p < 80) : wt x p = (x : Int) * 2 ^ 142 + ((if p < 40 then 2 ^ (39 - p) else 0) * 2 ^ 100 + lwI p) := by
  unfold wt hwI
  rw [if_neg (by omega)]
  omega
theorem wt_le {x y p : Nat} (hx : 0 < x) (hxy : x ≤ y) (hp : p < 80) : 0 < wt x p ∧ wt x p ≤ wt y p := by
  rw [wt_pos hx hp, wt_pos (by omega) hp]
  have := bit_le p hp
  omega
theorem wt_0 {p : Nat} (hp : p < 80) : wt 0 p < 0 := by
  have := (bit_le p hp).2.2
  unfold wt hwI
  rw [if_pos rfl]
  omega
theorem OpB.stay {h : Nat} {w c dg : Nat → Nat} {p x : Nat} (H : OpB h w c dg) (hp : p < 80) (hx : x ≤ 100) (h1 : c p = 1 → w p ≤ x) (h0 : c p = 0 → x ≤ w p) : OpB h (va_up w p x) c dg := by
  obtain ⟨hh, hw, hd, π, hπ⟩ := H
  refine ⟨hh, fun r hr => ?_, hd, π, fun u v g ha => ?_⟩
  · by_cases e : r = p
    · subst e; rw [vu_s]
      have := hw r hr
      exact ⟨hx, this.2.1, fun q => by have := this.2.2 q; have := h1 q; omega⟩
    · rw [vu_n _ _ e]; exact hw r hr
  · rcases ha with ⟨a, e, a1, a2, a3, a4, a5, a6, a7, a8⟩ | ⟨a, e, a1, a2, a3, a4, a5, a6, a7⟩ | ha | ha | ha | ha
    · by_cases ep : 10 * a + e = p
      · rw [ep, vu_s] at a5 a8
        rw [ep] at a6
        have b1 := h0 a6
        have b2 := hπ u v (wt (w p) p) (Or.inl ⟨a, e, a1, a2, a3, a4, by rw [ep]; omega, by rw [ep]; exact a6, by omega, by rw [ep]⟩)
        have b3 := (wt_le a5 b1 hp).2
        omega
      · rw [vu_n _ _ ep] at a5 a8
        exact hπ u v g (Or.inl ⟨a, e, a1, a2, a3, a4, a5, a6, a7, a8⟩)
    · by_cases ep : 10 * a + e = p
      · rw [ep, vu_s] at a7
        rw [ep] at a5
        have b1 := h1 a5
        have b0 := (hw p hp).2.2 a5
        have b2 := hπ u v (-wt (w p) p) (Or.inr (Or.inl ⟨a, e, a1, a2, a3, a4, by rw [ep]; exact a5, by omega, by rw [ep]⟩))
        have b3 := (wt_le b0 b1 hp).2
        omega
      · rw [vu_n _ _ ep] at a7
        exact hπ u v g (Or.inr (Or.inl ⟨a, e, a1, a2, a3, a4, a5, a6, a7⟩))
    · exact hπ u v g (Or.inr (Or.inr (Or.inl ha)))
    · exact hπ u v g (Or.inr (Or.inr (Or.inr (Or.inl ha))))
    · exact hπ u v g (Or.inr (Or.inr (Or.inr (Or.inr (Or.inl ha)))))
    · exact hπ u v g (Or.inr (Or.inr (Or.inr (Or.inr (Or.inr ha)))))
theorem tdg_o {dg : Nat → Nat} {p cp n : Nat} (h : ¬ (n = p / 10 ∨ n = 8 + p % 10)) : tdg dg p cp n = dg n := if_neg h
theorem tdg_0 {dg : Nat → Nat} {p n : Nat} (h : n = p / 10 ∨ n = 8 + p % 10) : tdg dg p 0 n = dg n + 1 := by unfold tdg; rw [if_pos h, if_pos rfl]
theorem tdg_1 {dg : Nat → Nat} {p n : Nat} (h : n = p / 10 ∨ n = 8 + p % 10) : tdg dg p 1 n = dg n - 1 := by unfold tdg; rw [if_pos h, if_neg (by decide)]
set_option maxHeartbeats 1000000 in
theorem OpB.free {h : Nat} {w c dg : Nat → Nat} {p x : Nat} (H : OpB h w c dg) (hp : p < 80) (hx : x ≤ 100) (hc : c p = 0) (hx1 : w p < x) (fa : dg (p / 10) < h) (fe : dg (8 + p % 10) < h) : OpB h (va_up w p x) (fli c p) (tdg dg p 0) := by
  obtain ⟨hh, hw, hd, π, hπ⟩ := H
  have ka : π 18 ≤ π (p / 10) := by have := hπ 18 (p / 10) 0 (Or.inr (Or.inr (Or.inr (Or.inr (Or.inl ⟨rfl, by omega, fa, rfl⟩))))); omega
  have ke : π (8 + p % 10) ≤ π 18 := by have := hπ (8 + p % 10) 18 0 (Or.inr (Or.inr (Or.inr (Or.inl ⟨by omega, by omega, rfl, fe, rfl⟩)))); omega
  have na : 0 < dg (p / 10) → π (p / 10) ≤ π 18 := fun q => by have := hπ (p / 10) 18 0 (Or.inr (Or.inr (Or.inl ⟨by omega, rfl, q, rfl⟩))); omega
  have ne : 0 < dg (8 + p % 10) → π 18 ≤ π (8 + p % 10) := fun q => by have := hπ 18 (8 + p % 10) 0 (Or.inr (Or.inr (Or.inr (Or.inr (Or.inr ⟨rfl, by omega, by omega, q, rfl⟩))))); omega
  refine ⟨hh, fun r hr => ?_, fun n hn => ?_, fun v => if v = p / 10 ∨ v = 8 + p % 10 then π 18 else π v, fun u v g ha => ?_⟩
  · by_cases e : r = p
    · subst e; rw [vu_s, fli_s]
      exact ⟨hx, by omega, fun q => by omega⟩
    · rw [vu_n _ _ e, fli_n e]; exact hw r hr
  · have h1 := (cnt_fli hp hn (hw p hp).2.1).1
    rw [hc] at h1
    have h2 := hd n hn
    refine ⟨?_, ?_⟩
    · rw [h1]
      unfold tdg
      rw [h2.1]
    · by_cases e : n = p / 10 ∨ n = 8 + p % 10
      · rw [tdg_0 e]
        rcases e with rfl | rfl
        · omega
        · omega
      · rw [tdg_o e]; exact h2.2
  · have h18 : ¬ (18 = p / 10 ∨ 18 = 8 + p % 10) := by omega
    rcases ha with ⟨a, e, a1, a2, a3, a4, a5, a6, a7, a8⟩ | ⟨a, e, a1, a2, a3, a4, a5, a6, a7⟩ | ha | ha | ha | ha
    · have ep : 10 * a + e ≠ p := by
        intro ep
        rw [ep, fli_s] at a6; omega
      rw [vu_n _ _ ep] at a5 a8
      rw [fli_n ep] at a6
      have b := hπ u v g (Or.inl ⟨a, e, a1, a2, a3, a4, a5, a6, a7, a8⟩)
      have l1 : (if u = p / 10 ∨ u = 8 + p % 10 then π 18 else π u) ≤ π u := by
        by_cases q : u = p / 10 ∨ u = 8 + p % 10
        · rw [if_pos q]
          have : u = p / 10 := by omega
          rw [this]; exact ka
        · rw [if_neg q]; exact Int.le_refl _
      have l2 : π v ≤ (if v = p / 10 ∨ v = 8 + p % 10 then π 18 else π v) := by
        by_cases q : v = p / 10 ∨ v = 8 + p % 10
        · rw [if_pos q]
          have : v = 8 + p % 10 := by omega
          rw [this]; exact ke
        · rw [if_neg q]; exact Int.le_refl _
      simp only at *
      omega
    · by_cases ep : 10 * a + e = p
      · have q1 : u = p / 10 ∨ u = 8 + p % 10 := by omega
        have q2 : v = p / 10 ∨ v = 8 + p % 10 := by omega
        simp only [if_pos q1, if_pos q2]
        rw [ep, vu_s] at a7
        have := (wt_le (x := x) (y := x) (by omega) (Nat.le_refl _) hp).1
        omega
      · rw [vu_n _ _ ep] at a7
        rw [fli_n ep] at a5
        have b := hπ u v g (Or.inr (Or.inl ⟨a, e, a1, a2, a3, a4, a5, a6, a7⟩))
        have k := cnt_pos a1 a2 a5
        have l1 : (if u = p / 10 ∨ u = 8 + p % 10 then π 18 else π u) ≤ π u := by
          by_cases q : u = p / 10 ∨ u = 8 + p % 10
          · rw [if_pos q]
            have e1 : u = 8 + p % 10 := by omega
            have e2 : 8 + e = 8 + p % 10 := by omega
            rw [e1]
            refine ne ?_
            rw [(hd (8 + p % 10) (by omega)).1, ← e2]; exact k.2
          · rw [if_neg q]; exact Int.le_refl _
        have l2 : π v ≤ (if v = p / 10 ∨ v = 8 + p % 10 then π 18 else π v) := by
          by_cases q : v = p / 10 ∨ v = 8 + p % 10
          · rw [if_pos q]
            have e1 : v = p / 10 := by omega
            have e2 : a = p / 10 := by omega
            rw [e1]
            refine na ?_
            rw [(hd (p / 10) (by omega)).1, ← e2]; exact k.1
          · rw [if_neg q]; exact Int.le_refl _
        simp only at *
        omega
    · obtain ⟨b1, b2, b3, b4⟩ := ha
      subst b2
      simp only [if_neg h18]
      by_cases q : u = p / 10 ∨ u = 8 + p % 10
      · rw [if_pos q]; omega
      · rw [if_neg q]
        rw [tdg_o q] at b3
        have := hπ u 18 g (Or.inr (Or.inr (Or.inl ⟨b1, rfl, b3, b4⟩))); omega
    · obtain ⟨b1, b2, b3, b4, b5⟩ := ha
      subst b3
      simp only [if_neg h18]
      by_cases q : u = p / 10 ∨ u = 8 + p % 10
      · rw [if_pos q]; omega
      · rw [if_neg q]
        rw [tdg_o q] at b4
        have := hπ u 18 g (Or.inr (Or.inr (Or.inr (Or.inl ⟨b1, b2, rfl, b4, b5⟩)))); omega
    · obtain ⟨b1, b2, b3, b4⟩ := ha
      subst b1
      simp only [if_neg h18]
      by_cases q : v = p / 10 ∨ v = 8 + p % 10
      · rw [if_pos q]; omega
      · rw [if_neg q]
        rw [tdg_o q] at b3
        have := hπ 18 v g (Or.inr (Or.inr (Or.inr (Or.inr (Or.inl ⟨rfl, b2, b3, b4⟩))))); omega
    · obtain ⟨b1, b2, b3, b4, b5⟩ := ha
      subst b1
      simp only [if_neg h18]
      by_cases q : v = p / 10 ∨ v = 8 + p % 10
      · rw [if_pos q]; omega
      · rw [if_neg q]
        rw [tdg_o q] at b4
        have := hπ 18 v g (Or.inr (Or.inr (Or.inr (Or.inr (Or.inr ⟨rfl, b2, b3, b4, b5⟩))))); omega
