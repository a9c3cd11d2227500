/-! ===== a way in the heap; the best set's cells behind a turn ===== -/
/-- what one step of a way is: through the hub, or by a pair -/
def Rg (h : Nat) (w c dg : Nat → Nat) (ψ : Nat → Int) (p : Nat) (x : Nat → Nat) (j : Nat) : Prop :=
  ((x j = 18 ∧ x (j + 1) < 18 ∧ ψ (x (j + 1)) = ψ 18 ∧ (x (j + 1) < 8 → 0 < dg (x (j + 1))) ∧ (8 ≤ x (j + 1) → dg (x (j + 1)) < h)) ∨ (x (j + 1) = 18 ∧ x j < 18 ∧ ψ (x j) = ψ 18 ∧ (x j < 8 → dg (x j) < h) ∧ (8 ≤ x j → 0 < dg (x j))))
  ∨ ∃ a e, a < 8 ∧ e < 10 ∧ 10 * a + e ≠ p ∧ 0 < w (10 * a + e) ∧ ψ (8 + e) = ψ a + wt (w (10 * a + e)) (10 * a + e) ∧ ((x (j + 1) = a ∧ x j = 8 + e ∧ c (10 * a + e) = 0) ∨ (x (j + 1) = 8 + e ∧ x j = a ∧ c (10 * a + e) = 1))
theorem Rg_of {h : Nat} {w c dg : Nat → Nat} {ψ : Nat → Int} {p : Nat} {x : Nat → Nat} {j : Nat} {g : Int} (hw : ∀ r, r < 80 → c r = 1 → r ≠ p → 0 < w r) (ha : ArcB h w c dg p (x (j + 1)) (x j) g) (ht : ψ (x j) = ψ (x (j + 1)) + g) : Rg h w c dg ψ p x j := by
  rcases ha with ⟨a, e, a1, a2, a3, a4, a5, a6, a7, a8⟩ | ⟨a, e, a1, a2, a3, a4, a5, a6, a7⟩ | ⟨b1, b2, b3, b4⟩ | ⟨b1, b2, b3, b4, b5⟩ | ⟨b1, b2, b3, b4⟩ | ⟨b1, b2, b3, b4, b5⟩
  · refine Or.inr ⟨a, e, a1, a2, a7, a5, ?_, Or.inl ⟨a3, a4, a6⟩⟩
    rw [a3, a4] at ht; omega
  · refine Or.inr ⟨a, e, a1, a2, a6, hw _ (by omega) a5 a6, ?_, Or.inr ⟨a3, a4, a5⟩⟩
    rw [a3, a4] at ht; omega
  · refine Or.inl (Or.inl ⟨b2, by omega, ?_, fun _ => b3, fun q => by omega⟩)
    rw [b2] at ht; omega
  · refine Or.inl (Or.inl ⟨b3, by omega, ?_, fun q => by omega, fun _ => b4⟩)
    rw [b3] at ht; omega
  · refine Or.inl (Or.inr ⟨b1, by omega, ?_, fun _ => b3, fun q => by omega⟩)
    rw [b1] at ht; omega
  · refine Or.inl (Or.inr ⟨b1, by omega, ?_, fun q => by omega, fun _ => b4⟩)
    rw [b1] at ht; omega
theorem smN_le {f : Nat → Nat} {n : Nat} (h : ∀ k, k < n → f k ≤ 1) : smN f n ≤ n := by
  induction n with
  | zero => simp [smN]
  | succ n ih => simp only [smN]; have := ih (fun k hk => h k (by omega)); have := h n (by omega); omega
theorem cnt_le {c : Nat → Nat} {n : Nat} (hn : n < 18) (h : ∀ r, r < 80 → c r ≤ 1) : cnt c n ≤ 10 := by
  unfold cnt
  by_cases h8 : n < 8
  · rw [if_pos h8]; exact smN_le (fun k hk => h _ (by omega))
  · rw [if_neg h8]
    have := smN_le (f := fun a => c (10 * a + (n - 8))) (n := 8) (fun k hk => h _ (by omega))
    omega
/-- the cells of the best set behind a turn -/
theorem BS.turn {T : gSh} {R : gR} {ca : Nat → Nat} (hC : CO T R ca) {I : gI} {h : Nat} {w c dg : Nat → Nat} {p : Nat} (hB : BS I ca h w c dg) (hd : ∀ n, n < 18 → dg n = cnt c n) (hp : p < 80) : BS (tuI I ca p (c p)) ca h w (fli c p) (tdg dg p (c p)) := by
  obtain ⟨b1, b2, b3, b4, b5⟩ := hB
  have hc1 : ∀ r, r < 80 → fli c p r ≤ 1 := fun r hr => by
    by_cases e : r = p
    · subst e; rw [fli_s]; omega
    · rw [fli_n e]; exact (b4 r hr).2
  have n1 : ca 14 ≠ ca 18 := hC.ne 14 18 (by decide) (by decide) (by decide)
  have n2 : ca 14 ≠ ca 16 := hC.ne 14 16 (by decide) (by decide) (by decide)
  have n3 : ca 17 ≠ ca 18 := hC.ne 17 18 (by decide) (by decide) (by decide)
  have n4 : ca 17 ≠ ca 16 := hC.ne 17 16 (by decide) (by decide) (by decide)
  have n5 : ca 16 ≠ ca 18 := hC.ne 16 18 (by decide) (by decide) (by decide)
  refine ⟨?_, b2, fun r hr => ⟨?_, (b3 r hr).2⟩, fun r hr => ⟨?_, hc1 r hr⟩, fun n hn => ⟨?_, ?_⟩⟩
  · unfold tuI; rw [u2_a _ _ _ _ n1, u2_a _ _ _ _ n1, u2_a _ _ _ _ n2]; exact b1
  · unfold tuI; rw [u2_a _ _ _ _ n3, u2_a _ _ _ _ n3, u2_a _ _ _ _ n4]; exact (b3 r hr).1
  · unfold tuI; rw [u2_a _ _ _ _ n5, u2_a _ _ _ _ n5]
    by_cases e : r = p
    · subst e; rw [u2_s, fli_s]
    · rw [u2_k _ _ _ _ e, fli_n e]; exact (b4 r hr).1
  · have cl := cnt_fli hp hn (b4 p hp).2
    have v : ∀ y, y < 18 → (y = p / 10 ∨ y = 8 + p % 10) → I (ca 18) y + dl (c p) = nI (tdg dg p (c p) y) := by
      intro y hy hon
      rw [(b5 y hy).1]
      unfold dl tdg
      rw [if_pos hon]
      by_cases h0 : c p = 0
      · rw [if_pos h0, if_pos h0]; exact nI_1 _
      · rw [if_neg h0, if_neg h0]
        have h1 : c p = 1 := by have := (b4 p hp).2; omega
        have pos := (cnt_fli hp hy (b4 p hp).2).2 h1 hon
        rw [← hd y hy] at pos
        have := pk_m1 (dg y - 1)
        rw [show dg y - 1 + 1 = dg y by omega] at this
        exact this
    unfold tuI
    by_cases e2 : n = 8 + p % 10
    · subst e2; rw [u2_s]; exact v _ hn (Or.inr rfl)
    · rw [u2_k _ _ _ _ e2]
      by_cases e1 : n = p / 10
      · subst e1; rw [u2_s]; exact v _ hn (Or.inl rfl)
      · rw [u2_k _ _ _ _ e1, u2_a _ _ _ _ (Ne.symm n5), tdg_o (by omega)]; exact (b5 n hn).1
  · have cl := (cnt_fli hp hn (b4 p hp).2).1
    have e : tdg dg p (c p) n = cnt (fli c p) n := by rw [cl]; unfold tdg; rw [hd n hn]
    rw [e]; exact cnt_le hn hc1
/-- the same rows but for those of the chosen pairs and the meetings -/
def Ag (I I' : gI) (ca : Nat → Nat) : Prop := ∀ a, a ≠ ca 16 → a ≠ ca 18 → I' a = I a
theorem Ag.turn {I I' : gI} {ca : Nat → Nat} {p c : Nat} (h : Ag I I' ca) : Ag I (tuI I' ca p c) ca := by
  intro a h1 h2
  unfold tuI
  rw [u2_rown _ _ _ _ h2, u2_rown _ _ _ _ h2, u2_rown _ _ _ _ h1]
  exact h a h1 h2
theorem mm_ae {a b : Nat} (h : a < b) (hb : b < 2 ^ 31) : (if nI a < nI b then nI a else nI b) = nI a ∧ (if nI b < nI a then nI a else nI b) = nI b := by
  have h1 : nI a < nI b := nI_lt h hb
  have h2 : ¬ nI b < nI a := nI_nlt (by omega) (by omega)
  rw [if_pos h1, if_neg h2]; exact ⟨rfl, rfl⟩
theorem mm_ea {a b : Nat} (h : a < b) (hb : b < 2 ^ 31) : (if nI b < nI a then nI b else nI a) = nI a ∧ (if nI a < nI b then nI b else nI a) = nI b := by
  have h1 : nI a < nI b := nI_lt h hb
  have h2 : ¬ nI b < nI a := nI_nlt (by omega) (by omega)
  rw [if_pos h1, if_neg h2]; exact ⟨rfl, rfl⟩
/-- the end of turnWay() -/
def PW (T : gSh) (R : gR) (I : gI) (J : gJ) (ca : Nat → Nat) (h : Nat) (w c dg : Nat → Nat) (ψ : Nat → Int) (p n : Nat) (x : Nat → Nat) : gPost := fun r T' I' J' R' => r = none ∧ T = T' ∧ R = R' ∧ J = J' ∧ Ag I I' ca ∧ ∃ cn dn : Nat → Nat, BS I' ca h w cn dn ∧ Tn h w c dg ψ p n x n cn dn
