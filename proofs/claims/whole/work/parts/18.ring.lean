/-! ===== a ring turned: the set is best again ===== -/
theorem bound_ex (f : Nat → Int) : ∀ n : Nat, ∃ B : Int, ∀ v, v < n → f v ≤ B := by
  intro n
  induction n with
  | zero => exact ⟨0, fun v hv => by omega⟩
  | succ n ih =>
    obtain ⟨B, hB⟩ := ih
    by_cases h : f n ≤ B
    · refine ⟨B, fun v hv => ?_⟩
      by_cases e : v = n
      · subst e; exact h
      · exact hB v (by omega)
    · refine ⟨f n, fun v hv => ?_⟩
      by_cases e : v = n
      · subst e; exact Int.le_refl _
      · have := hB v (by omega); omega
/-- potentials out of a finished search -/
theorem pot_of {Arc : Nat → Nat → Int → Prop} {π : Nat → Int} {s : Nat} {F : Nat → Int32} {Hh Ll : Nat → Int64} (hπ : ∀ u v g, Arc u v g → π u + g ≤ π v) (hA : ∀ u v g, Arc u v g → v < 19) (cl : ∀ u v g, rch F u → Arc u v g → rch F v ∧ Dv Hh Ll u + g ≤ Dv Hh Ll v) : ∃ ψ : Nat → Int, (∀ u v g, Arc u v g → ψ u + g ≤ ψ v) ∧ ∀ v, rch F v → ψ v = Dv Hh Ll v := by
  obtain ⟨B, hB⟩ := bound_ex (fun v => π v - Dv Hh Ll v) 19
  refine ⟨fun v => if v < 19 ∧ F v ≠ -1 then Dv Hh Ll v else π v - B, fun u v g ha => ?_, fun v hv => if_pos hv⟩
  have hv19 := hA u v g ha
  have b := hB v hv19
  have p1 := hπ u v g ha
  simp only at b ⊢
  by_cases hu : u < 19 ∧ F u ≠ -1
  · have c := cl u v g hu ha
    have hv : v < 19 ∧ F v ≠ -1 := c.1
    rw [if_pos hu, if_pos hv]
    exact c.2
  · rw [if_neg hu]
    by_cases hv : v < 19 ∧ F v ≠ -1
    · rw [if_pos hv]; omega
    · rw [if_neg hv]; omega
/-- while a way is turned: j of its steps are -/
def Tn (h : Nat) (w c dg : Nat → Nat) (ψ : Nat → Int) (p n : Nat) (x : Nat → Nat) (j : Nat) (cj dj : Nat → Nat) : Prop :=
  (∀ r, r < 80 → cj r ≤ 1) ∧ (∀ y, y < 18 → dj y = cnt cj y) ∧ cj p = c p
  ∧ (∀ a e, a < 8 → e < 10 → cj (10 * a + e) = c (10 * a + e) ∨ (0 < w (10 * a + e) ∧ 10 * a + e ≠ p ∧ ψ (8 + e) = ψ a + wt (w (10 * a + e)) (10 * a + e)))
  ∧ (∀ i, j ≤ i → i < n → ∀ a e, a < 8 → e < 10 → ((x i = a ∧ x (i + 1) = 8 + e) ∨ (x i = 8 + e ∧ x (i + 1) = a)) → cj (10 * a + e) = c (10 * a + e))
  ∧ (∀ y, y < 18 → (∀ i, i ≤ j → y ≠ x i) → dj y = dg y)
  ∧ (j = 0 → ∀ y, y < 18 → dj y = dg y)
  ∧ (∀ i, 1 ≤ i → i < j → x i < 18 → dj (x i) = dg (x i) ∨ (ψ (x i) = ψ 18 ∧ dj (x i) ≤ h))
  ∧ (1 ≤ j → x j < 18 → (x (j - 1) = 18 → dj (x j) = dg (x j) ∧ ψ (x j) = ψ 18 ∧ (x j < 8 → 0 < dg (x j)) ∧ (8 ≤ x j → dg (x j) < h)) ∧ (x (j - 1) ≠ 18 → (x j < 8 → dj (x j) = dg (x j) + 1) ∧ (8 ≤ x j → dj (x j) + 1 = dg (x j))))
  ∧ (1 ≤ j → (x 1 = 18 → dj (x 0) = dg (x 0) ∧ ψ (x 0) = ψ 18 ∧ (x 0 < 8 → dg (x 0) < h) ∧ (8 ≤ x 0 → 0 < dg (x 0))) ∧ (x 1 ≠ 18 → (x 0 < 8 → dj (x 0) + 1 = dg (x 0)) ∧ (8 ≤ x 0 → dj (x 0) = dg (x 0) + 1)))
section Tns
variable {h : Nat} {w c dg : Nat → Nat} {ψ : Nat → Int} {p n : Nat} {x : Nat → Nat} {j : Nat} {cj dj : Nat → Nat}
theorem Tn.init (hp : p < 80) (hc : ∀ r, r < 80 → c r ≤ 1) (hd : ∀ y, y < 18 → dg y = cnt c y) : Tn h w c dg ψ p n x 0 c dg :=
  ⟨hc, hd, rfl, fun _ _ _ _ => Or.inl rfl, fun _ _ _ _ _ _ _ _ => rfl, fun _ _ _ => rfl, fun _ _ _ => rfl, fun i h1 h2 => by omega, fun h1 => by omega, fun h1 => by omega⟩
/-- a step through the hub -/
theorem Tn.hub (T : Tn h w c dg ψ p n x j cj dj) (hj : j < n) (hd : ∀ i k, i ≤ n → k ≤ n → x i = x k → i = k) (h0 : x 0 < 18) (hh : ∀ y, y < 18 → dg y ≤ h)
    (ha : (x j = 18 ∧ x (j + 1) < 18 ∧ ψ (x (j + 1)) = ψ 18 ∧ (x (j + 1) < 8 → 0 < dg (x (j + 1))) ∧ (8 ≤ x (j + 1) → dg (x (j + 1)) < h)) ∨ (x (j + 1) = 18 ∧ x j < 18 ∧ ψ (x j) = ψ 18 ∧ (x j < 8 → dg (x j) < h) ∧ (8 ≤ x j → 0 < dg (x j)))) : Tn h w c dg ψ p n x (j + 1) cj dj := by
  obtain ⟨t1, t2, t3, t4, t5, t6, t7, t8, t9, t10⟩ := T
  refine ⟨t1, t2, t3, t4, fun i hi => t5 i (by omega), fun y hy hn => ?_, fun q => by omega, fun i h1 h2 h3 => ?_, fun _ hx => ?_, fun _ => ?_⟩
  · exact t6 y hy (fun i hi => hn i (by omega))
  · by_cases e : i = j
    · subst e
      rcases ha with ⟨a1, _⟩ | ⟨a1, a2, a3, a4, a5⟩
      · omega
      · right
        refine ⟨a3, ?_⟩
        have b := t9 h1 h3
        have np : x (i - 1) ≠ 18 := fun e2 => by have := hd (i - 1) (i + 1) (by omega) (by omega) (e2.trans a1.symm); omega
        have b2 := b.2 np
        have b3 := hh (x i) h3
        by_cases h8 : x i < 8
        · have := b2.1 h8; have := a4 h8; omega
        · have := b2.2 (by omega); omega
    · exact t8 i h1 (by omega) h3
  · rw [show j + 1 - 1 = j by omega]
    rcases ha with ⟨a1, a2, a3, a4, a5⟩ | ⟨a1, _⟩
    · refine ⟨fun _ => ⟨?_, a3, a4, a5⟩, fun q => absurd a1 q⟩
      exact t6 _ hx (fun i hi e => by have := hd (j + 1) i (by omega) (by omega) e; omega)
    · omega
  · by_cases e : j = 0
    · subst e
      rcases ha with ⟨a1, _⟩ | ⟨a1, a2, a3, a4, a5⟩
      · omega
      · exact ⟨fun _ => ⟨t7 rfl _ h0, a3, a4, a5⟩, fun q => absurd a1 q⟩
    · exact t10 (by omega)
set_option maxHeartbeats 1000000 in
/-- a step by a pair: it is turned -/
theorem Tn.pair (T : Tn h w c dg ψ p n x j cj dj) (hj : j < n) (hd : ∀ i k, i ≤ n → k ≤ n → x i = x k → i = k) (h0 : x 0 < 18) (hp : p < 80) {a e : Nat} (ha8 : a < 8) (he : e < 10) (hr : 10 * a + e ≠ p) (hw : 0 < w (10 * a + e)) (ht : ψ (8 + e) = ψ a + wt (w (10 * a + e)) (10 * a + e)) (hdg : ∀ y, y < 18 → dg y = cnt c y ∧ dg y ≤ h)
    (hx : (x (j + 1) = a ∧ x j = 8 + e ∧ c (10 * a + e) = 0) ∨ (x (j + 1) = 8 + e ∧ x j = a ∧ c (10 * a + e) = 1)) : cj (10 * a + e) = c (10 * a + e) ∧ Tn h w c dg ψ p n x (j + 1) (fli cj (10 * a + e)) (tdg dj (10 * a + e) (cj (10 * a + e))) := by
  obtain ⟨t1, t2, t3, t4, t5, t6, t7, t8, t9, t10⟩ := T
  have er : cj (10 * a + e) = c (10 * a + e) := t5 j (Nat.le_refl _) hj a e ha8 he (by omega)
  have q1 : (10 * a + e) / 10 = a := by omega
  have q2 : 8 + (10 * a + e) % 10 = 8 + e := by omega
  have hr80 : 10 * a + e < 80 := by omega
  have on : ∀ y, (y = (10 * a + e) / 10 ∨ y = 8 + (10 * a + e) % 10) ↔ (y = a ∨ y = 8 + e) := fun y => by rw [q1, q2]
  have off : ∀ y, y ≠ a → y ≠ 8 + e → tdg dj (10 * a + e) (cj (10 * a + e)) y = dj y := fun y h1 h2 => tdg_o (by rw [on]; omega)
  have hxj : x j = a ∨ x j = 8 + e := by omega
  have hxj1 : x (j + 1) = a ∨ x (j + 1) = 8 + e := by omega
  have offx : ∀ i, i ≤ n → i ≠ j → i ≠ j + 1 → tdg dj (10 * a + e) (cj (10 * a + e)) (x i) = dj (x i) := by
    intro i hi n1 n2
    refine off _ (fun e1 => ?_) (fun e1 => ?_)
    · rcases hx with ⟨b1, b2, _⟩ | ⟨b1, b2, _⟩
      · exact n2 (hd i (j + 1) hi (by omega) (e1.trans b1.symm))
      · exact n1 (hd i j hi (by omega) (e1.trans b2.symm))
    · rcases hx with ⟨b1, b2, _⟩ | ⟨b1, b2, _⟩
      · exact n1 (hd i j hi (by omega) (e1.trans b2.symm))
      · exact n2 (hd i (j + 1) hi (by omega) (e1.trans b1.symm))
  have up0 : c (10 * a + e) = 0 → ∀ y, (y = a ∨ y = 8 + e) → tdg dj (10 * a + e) (cj (10 * a + e)) y = dj y + 1 := by
    intro c0 y hy
    rw [er, c0]
    exact tdg_0 (by rw [on]; exact hy)
  have up1 : c (10 * a + e) = 1 → ∀ y, (y = a ∨ y = 8 + e) → tdg dj (10 * a + e) (cj (10 * a + e)) y + 1 = dj y := by
    intro c1 y hy
    have y18 : y < 18 := by omega
    have k := (cnt_fli hr80 y18 (t1 _ hr80)).2 (by rw [er]; exact c1) (by rw [on]; exact hy)
    have k2 := t2 y y18
    rw [er, c1, tdg_1 (by rw [on]; exact hy)]
    omega
  have fresh : dj (x (j + 1)) = dg (x (j + 1)) := t6 _ (by omega) (fun i hi e1 => by have := hd (j + 1) i (by omega) (by omega) e1; omega)
  refine ⟨er, fun r hr2 => ?_, fun y hy => ?_, ?_, fun a2 e2 ha2 he2 => ?_, fun i hi1 hi2 a2 e2 ha2 he2 hx2 => ?_, fun y hy hn => ?_, fun q => by omega, fun i h1 h2 h3 => ?_, fun _ hx3 => ?_, fun _ => ?_⟩
  · by_cases e1 : r = 10 * a + e
    · subst e1; rw [fli_s]; omega
    · rw [fli_n e1]; exact t1 r hr2
  · have k := (cnt_fli hr80 hy (t1 _ hr80)).1
    rw [k]
    unfold tdg
    rw [t2 y hy]
  · rw [fli_n (Ne.symm hr)]; exact t3
  · by_cases e1 : 10 * a2 + e2 = 10 * a + e
    · right
      have : a2 = a := by omega
      have : e2 = e := by omega
      subst a2; subst e2
      exact ⟨hw, hr, ht⟩
    · rw [fli_n e1]; exact t4 a2 e2 ha2 he2
  · have e1 : 10 * a2 + e2 ≠ 10 * a + e := by
      intro e1
      have z1 : a2 = a := by omega
      have z2 : e2 = e := by omega
      subst z1; subst z2
      -- the nodes i, i+1 are the nodes j, j+1
      have m1 : x i = x j ∨ x i = x (j + 1) := by omega
      have m2 : x (i + 1) = x j ∨ x (i + 1) = x (j + 1) := by omega
      rcases m1 with m1 | m1
      · have := hd i j (by omega) (by omega) m1; omega
      · have i1 := hd i (j + 1) (by omega) (by omega) m1
        rcases m2 with m2 | m2
        · have := hd (i + 1) j (by omega) (by omega) m2; omega
        · have := hd (i + 1) (j + 1) (by omega) (by omega) m2; omega
    rw [fli_n e1]
    exact t5 i (by omega) hi2 a2 e2 ha2 he2 hx2
  · have n1 : y ≠ x j := hn j (by omega)
    have n2 : y ≠ x (j + 1) := hn (j + 1) (by omega)
    rw [off y (by omega) (by omega)]
    exact t6 y hy (fun i hi => hn i (by omega))
  · by_cases e1 : i = j
    · subst e1
      have b := t9 h1 h3
      by_cases pr : x (i - 1) = 18
      · right
        obtain ⟨b1, b2, b3, b4⟩ := b.1 pr
        refine ⟨b2, ?_⟩
        rcases hx with ⟨z1, z2, z3⟩ | ⟨z1, z2, z3⟩
        · have := up0 z3 (x i) hxj; have := b4 (by omega); omega
        · have := up1 z3 (x i) hxj
          have k := (hdg (x i) h3).2
          omega
      · left
        have b2 := b.2 pr
        rcases hx with ⟨z1, z2, z3⟩ | ⟨z1, z2, z3⟩
        · have := up0 z3 (x i) hxj; have := b2.2 (by omega); omega
        · have := up1 z3 (x i) hxj; have := b2.1 (by omega); omega
    · rw [offx i (by omega) e1 (by omega)]
      exact t8 i h1 (by omega) h3
  · rw [show j + 1 - 1 = j by omega]
    refine ⟨fun q => by omega, fun _ => ⟨fun q => ?_, fun q => ?_⟩⟩
    · rcases hx with ⟨z1, z2, z3⟩ | ⟨z1, z2, z3⟩
      · have := up0 z3 _ hxj1; omega
      · omega
    · rcases hx with ⟨z1, z2, z3⟩ | ⟨z1, z2, z3⟩
      · omega
      · have := up1 z3 _ hxj1; omega
  · by_cases e1 : j = 0
    · subst e1
      have k := t7 rfl (x 0) h0
      have e01 : x (0 + 1) = x 1 := rfl
      refine ⟨fun q => by omega, fun _ => ⟨fun q => ?_, fun q => ?_⟩⟩
      · rcases hx with ⟨z1, z2, z3⟩ | ⟨z1, z2, z3⟩
        · omega
        · have := up1 z3 _ hxj; omega
      · rcases hx with ⟨z1, z2, z3⟩ | ⟨z1, z2, z3⟩
        · have := up0 z3 _ hxj; omega
        · omega
    · rw [offx 0 (by omega) (Ne.symm e1) (by omega)]
      exact t10 (by omega)
set_option maxHeartbeats 1000000 in
theorem ring_done {cn dn : Nat → Nat} (hh : 1 ≤ h ∧ h ≤ 8) (hp : p < 80) (hw : ∀ r, r < 80 → w r ≤ 100 ∧ c r ≤ 1 ∧ (c r = 1 → r ≠ p → 0 < w r)) (hdg : ∀ y, y < 18 → dg y = cnt c y ∧ dg y ≤ h) (hψ : ∀ u v g, ArcB h w c dg p u v g → ψ u + g ≤ ψ v) (T : Tn h w c dg ψ p n x n cn dn) (hn : 1 ≤ n) (hd : ∀ i k, i ≤ n → k ≤ n → x i = x k → i = k)
    (hr : (c p = 0 ∧ x n = 8 + p % 10 ∧ x 0 = p / 10 ∧ 0 < w p ∧ ψ (x n) < ψ (x 0) + wt (w p) p) ∨ (c p = 1 ∧ x n = p / 10 ∧ x 0 = 8 + p % 10 ∧ ψ (x n) + wt (w p) p < ψ (x 0))) : OpB h w (fli cn p) (tdg dn p (cn p)) := by
  obtain ⟨t1, t2, t3, t4, t5, t6, t7, t8, t9, t10⟩ := T
  have hp18 : p / 10 < 8 ∧ 8 + p % 10 < 18 := by omega
  have up0 : c p = 0 → ∀ y, (y = p / 10 ∨ y = 8 + p % 10) → tdg dn p (cn p) y = dn y + 1 := by
    intro c0 y hy
    rw [t3, c0]; exact tdg_0 hy
  have up1 : c p = 1 → ∀ y, (y = p / 10 ∨ y = 8 + p % 10) → tdg dn p (cn p) y + 1 = dn y := by
    intro c1 y hy
    have y18 : y < 18 := by omega
    have k := (cnt_fli hp y18 (t1 _ hp)).2 (by rw [t3]; exact c1) hy
    have k2 := t2 y y18
    rw [t3, c1, tdg_1 hy]; omega
  have on : ∀ y, (y = p / 10 ∨ y = 8 + p % 10) ↔ (y = x 0 ∨ y = x n) := fun y => by
    rcases hr with ⟨a1, a2, a3, _⟩ | ⟨a1, a2, a3, _⟩ <;> rw [a2, a3] <;> omega
  have cls : ∀ y, y < 18 → (tdg dn p (cn p) y = dg y ∨ ψ y = ψ 18) ∧ tdg dn p (cn p) y ≤ h := by
    intro y hy
    have dh := (hdg y hy).2
    by_cases e1 : y = x n
    · subst e1
      have b := t9 hn hy
      have o := (on (x n)).mpr (Or.inr rfl)
      by_cases pr : x (n - 1) = 18
      · obtain ⟨b1, b2, b3, b4⟩ := b.1 pr
        refine ⟨Or.inr b2, ?_⟩
        rcases hr with ⟨a1, a2, a3, _⟩ | ⟨a1, a2, a3, _⟩
        · have := up0 a1 _ o; have := b4 (by omega); omega
        · have := up1 a1 _ o; omega
      · have b2 := b.2 pr
        rcases hr with ⟨a1, a2, a3, _⟩ | ⟨a1, a2, a3, _⟩
        · have := up0 a1 _ o; have := b2.2 (by omega); exact ⟨Or.inl (by omega), by omega⟩
        · have := up1 a1 _ o; have := b2.1 (by omega); exact ⟨Or.inl (by omega), by omega⟩
    · by_cases e2 : y = x 0
      · subst e2
        have b := t10 hn
        have o := (on (x 0)).mpr (Or.inl rfl)
        by_cases pr : x 1 = 18
        · obtain ⟨b1, b2, b3, b4⟩ := b.1 pr
          refine ⟨Or.inr b2, ?_⟩
          rcases hr with ⟨a1, a2, a3, _⟩ | ⟨a1, a2, a3, _⟩
          · have := up0 a1 _ o; have := b3 (by omega); omega
          · have := up1 a1 _ o; omega
        · have b2 := b.2 pr
          rcases hr with ⟨a1, a2, a3, _⟩ | ⟨a1, a2, a3, _⟩
          · have := up0 a1 _ o; have := b2.1 (by omega); exact ⟨Or.inl (by omega), by omega⟩
          · have := up1 a1 _ o; have := b2.2 (by omega); exact ⟨Or.inl (by omega), by omega⟩
      · have o : ¬ (y = p / 10 ∨ y = 8 + p % 10) := by rw [on]; omega
        rw [tdg_o o]
        by_cases ex : ∃ i, i ≤ n ∧ y = x i
        · obtain ⟨i, hi, e3⟩ := ex
          have i1 : i ≠ n := fun q => e1 (by rw [e3, q])
          have i0 : i ≠ 0 := fun q => e2 (by rw [e3, q])
          subst e3
          rcases t8 i (by omega) (by omega) hy with q | q
          · exact ⟨Or.inl q, by omega⟩
          · exact ⟨Or.inr q.1, q.2⟩
        · have q := t6 y hy (fun i hi e3 => ex ⟨i, hi, e3⟩)
          exact ⟨Or.inl q, by omega⟩
  refine ⟨hh, fun r hr2 => ?_, fun y hy => ⟨?_, (cls y hy).2⟩, ψ, fun u v g ha => ?_⟩
  · by_cases e : r = p
    · subst e
      rw [fli_s]
      refine ⟨(hw r hr2).1, by omega, fun q => ?_⟩
      rcases hr with ⟨a1, a2, a3, a4, _⟩ | ⟨a1, a2, a3, _⟩
      · exact a4
      · rw [t3, a1] at q; omega
    · rw [fli_n e]
      refine ⟨(hw r hr2).1, t1 r hr2, fun q => ?_⟩
      have k := t4 (r / 10) (r % 10) (by omega) (by omega)
      rw [show 10 * (r / 10) + r % 10 = r by omega] at k
      rcases k with k | k
      · exact (hw r hr2).2.2 (by omega) e
      · exact k.1
  · have k := (cnt_fli hp hy (t1 _ hp)).1
    rw [k]
    unfold tdg
    rw [t2 y hy]
  · rcases ha with ⟨a, e, a1, a2, a3, a4, a5, a6, a7, a8⟩ | ⟨a, e, a1, a2, a3, a4, a5, a6, a7⟩ | ⟨b1, b2, b3, b4⟩ | ⟨b1, b2, b3, b4, b5⟩ | ⟨b1, b2, b3, b4⟩ | ⟨b1, b2, b3, b4, b5⟩
    · subst a3; subst a4; subst a8
      by_cases ep : 10 * u + e = p
      · rw [ep, fli_s, t3] at a6
        rcases hr with ⟨z1, z2, z3, z4, z5⟩ | ⟨z1, z2, z3, z5⟩
        · omega
        · rw [ep, show u = x n by omega, show 8 + e = x 0 by omega]; omega
      · rw [fli_n ep] at a6
        rcases t4 u e a1 a2 with k | k
        · exact hψ u (8 + e) _ (Or.inl ⟨u, e, a1, a2, rfl, rfl, a5, by omega, ep, rfl⟩)
        · omega
    · subst a3; subst a4; subst a7
      by_cases ep : 10 * v + e = p
      · rw [ep, fli_s, t3] at a5
        rcases hr with ⟨z1, z2, z3, z4, z5⟩ | ⟨z1, z2, z3, z5⟩
        · rw [ep, show v = x 0 by omega, show 8 + e = x n by omega]; omega
        · omega
      · rw [fli_n ep] at a5
        rcases t4 v e a1 a2 with k | k
        · exact hψ (8 + e) v _ (Or.inr (Or.inl ⟨v, e, a1, a2, rfl, rfl, by omega, ep, rfl⟩))
        · omega
    · subst b2; subst b4
      rcases (cls u (by omega)).1 with q | q
      · exact hψ u 18 0 (Or.inr (Or.inr (Or.inl ⟨b1, rfl, by omega, rfl⟩)))
      · omega
    · subst b3; subst b5
      rcases (cls u (by omega)).1 with q | q
      · exact hψ u 18 0 (Or.inr (Or.inr (Or.inr (Or.inl ⟨b1, b2, rfl, by omega, rfl⟩))))
      · omega
    · subst b1; subst b4
      rcases (cls v (by omega)).1 with q | q
      · exact hψ 18 v 0 (Or.inr (Or.inr (Or.inr (Or.inr (Or.inl ⟨rfl, b2, by omega, rfl⟩)))))
      · omega
    · subst b1; subst b5
      rcases (cls v (by omega)).1 with q | q
      · exact hψ 18 v 0 (Or.inr (Or.inr (Or.inr (Or.inr (Or.inr ⟨rfl, b2, b3, by omega, rfl⟩)))))
      · omega
end Tns
