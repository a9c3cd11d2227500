/-! ===== the first of the best sets, and that there is but one ===== -/
theorem sm_split (f : Nat → Int) (m n : Nat) : sm f (m + n) = sm f m + sm (fun e => f (m + e)) n := by
  induction n with
  | zero => simp [sm]
  | succ n ih => rw [show m + (n + 1) = (m + n) + 1 by omega]; simp only [sm]; rw [ih]; omega
theorem sm_dbl (f : Nat → Int) (n : Nat) : sm f (10 * n) = sm (fun a => sm (fun e => f (10 * a + e)) 10) n := by
  induction n with
  | zero => rfl
  | succ n ih => rw [show 10 * (n + 1) = 10 * n + 10 by omega, sm_split, ih]; rfl
theorem tot_lin (W c : Nat → Int) : tot W c = sm (fun p => c p * W p) 80 := (sm_dbl (fun p => c p * W p) 8).symm
/-- a set of meetings of pairs with a worth -/
def F0S (h : Nat) (w t : Nat → Nat) : Prop := (∀ p, p < 80 → t p ≤ 1 ∧ (t p = 1 → 0 < w p)) ∧ (∀ y, y < 18 → cnt t y ≤ h)
/-- the first of the best -/
def Lex (h : Nat) (w c : Nat → Nat) : Prop := F0S h w c ∧ (∀ t, F0S h w t → totN w t ≤ totN w c ∧ (totN w t = totN w c → ∀ k, k < 80 → (∀ p, p < k → t p = c p) → t k ≤ c k))
theorem Lex.uniq {h : Nat} {w c d : Nat → Nat} (H1 : Lex h w c) (H2 : Lex h w d) : (∀ p, p < 80 → c p = d p) ∧ totN w c = totN w d := by
  have e : totN w c = totN w d := Int.le_antisymm (H2.2 c H1.1).1 (H1.2 d H2.1).1
  refine ⟨?_, e⟩
  have : ∀ k, k ≤ 80 → ∀ p, p < k → c p = d p := by
    intro k
    induction k with
    | zero => intro _ p hp; omega
    | succ k ih =>
      intro hk p hp
      have i := ih (by omega)
      by_cases q : p = k
      · subst q
        have z1 := (H2.2 c H1.1).2 e p (by omega) i
        have z2 := (H1.2 d H2.1).2 e.symm p (by omega) (fun r hr => (i r hr).symm)
        omega
      · exact i p (by omega)
  exact this 80 (Nat.le_refl _)
def bitW (p : Nat) : Int := (if p < 40 then 2 ^ (39 - p) else 0) * 2 ^ 100 + lwI p
theorem bit_tail : ∀ k, k < 80 → sm bitW 80 - sm bitW (k + 1) < bitW k := by decide +kernel
theorem bit_all : sm bitW 80 < 2 ^ 141 := by decide +kernel
theorem bit_nn : ∀ p, p < 80 → 0 ≤ bitW p := by decide +kernel
theorem totW_eq {w t : Nat → Nat} (h : ∀ p, p < 80 → t p ≤ 1 ∧ (t p = 1 → 0 < w p)) : tot (fun p => wt (w p) p) (fun p => ((t p : Nat) : Int)) = totN w t * 2 ^ 142 + sm (fun p => ((t p : Nat) : Int) * bitW p) 80 := by
  unfold totN
  rw [tot_lin, tot_lin, ← sm_mulR, ← sm_add]
  refine sm_congr (fun p hp => ?_)
  have z := h p hp
  try dsimp only
  rcases (show t p = 0 ∨ t p = 1 by omega) with q | q
  · rw [q]; simp
  · rw [wt_pos (z.2 q) hp, q]; unfold bitW; simp
theorem bits_bd {t : Nat → Nat} (h : ∀ p, p < 80 → t p ≤ 1) : ∀ n, n ≤ 80 → 0 ≤ sm (fun p => ((t p : Nat) : Int) * bitW p) n ∧ sm (fun p => ((t p : Nat) : Int) * bitW p) n ≤ sm bitW n := by
  intro n
  induction n with
  | zero => intro _; simp [sm]
  | succ n ih =>
    intro hn
    have i := ih (by omega)
    have z := h n (by omega)
    have b := bit_nn n (by omega)
    simp only [sm]
    rcases (show t n = 0 ∨ t n = 1 by omega) with q | q
    · rw [q]; simp; omega
    · rw [q]; simp; omega
/-- bits behind k weigh less than the bit at k -/
theorem bits_first {t c : Nat → Nat} (ht : ∀ p, p < 80 → t p ≤ 1) (hc : ∀ p, p < 80 → c p ≤ 1) {k : Nat} (hk : k < 80) (he : ∀ p, p < k → t p = c p) (h1 : t k = 1) (h0 : c k = 0) : sm (fun p => ((c p : Nat) : Int) * bitW p) 80 < sm (fun p => ((t p : Nat) : Int) * bitW p) 80 := by
  have e : sm (fun p => ((t p : Nat) : Int) * bitW p) k = sm (fun p => ((c p : Nat) : Int) * bitW p) k := sm_congr (fun p hp => by rw [he p hp])
  have tl := bit_tail k hk
  obtain ⟨N, hN⟩ : ∃ N, 80 = k + 1 + N := ⟨80 - (k + 1), by omega⟩
  have u : sm (fun e => ((c (k + 1 + e) : Nat) : Int) * bitW (k + 1 + e)) N ≤ sm (fun e => bitW (k + 1 + e)) N := by
    refine sm_le (fun q hq => ?_)
    have z := hc (k + 1 + q) (by omega)
    have b := bit_nn (k + 1 + q) (by omega)
    rcases (show c (k + 1 + q) = 0 ∨ c (k + 1 + q) = 1 by omega) with r | r
    · rw [r]; simp; exact b
    · rw [r]; simp
  have dn : 0 ≤ sm (fun e => ((t (k + 1 + e) : Nat) : Int) * bitW (k + 1 + e)) N := by
    refine sm_nonneg (fun q hq => ?_)
    have b := bit_nn (k + 1 + q) (by omega)
    exact Int.mul_nonneg (by omega) b
  have s1 := sm_split (fun p => ((t p : Nat) : Int) * bitW p) (k + 1) N
  have s2 := sm_split (fun p => ((c p : Nat) : Int) * bitW p) (k + 1) N
  have s3 := sm_split bitW (k + 1) N
  rw [← hN] at s1 s2 s3
  have k1 : sm (fun p => ((t p : Nat) : Int) * bitW p) (k + 1) = sm (fun p => ((c p : Nat) : Int) * bitW p) k + bitW k := by
    simp only [sm]; rw [e, h1]; simp
  have k2 : sm (fun p => ((c p : Nat) : Int) * bitW p) (k + 1) = sm (fun p => ((c p : Nat) : Int) * bitW p) k := by
    simp only [sm]; rw [h0]; simp
  omega
/-- the set that the potentials show best is the first of the best -/
theorem OpB.lex {h : Nat} {w c dg : Nat → Nat} (H : OpB h w c dg) : Lex h w c := by
  obtain ⟨hh, hw, hd, π, hπ⟩ := H
  have hc1 : ∀ p, p < 80 → c p ≤ 1 := fun p hp => (hw p hp).2.1
  have F : F0S h w c := ⟨fun p hp => ⟨hc1 p hp, (hw p hp).2.2⟩, fun y hy => by rw [← (hd y hy).1]; exact (hd y hy).2⟩
  refine ⟨F, fun t ht => ?_⟩
  have ht1 : ∀ p, p < 80 → t p ≤ 1 := fun p hp => (ht.1 p hp).1
  have best : tot (fun p => wt (w p) p) (fun p => ((t p : Nat) : Int)) ≤ tot (fun p => wt (w p) p) (fun p => ((c p : Nat) : Int)) := by
    refine best_of (hA := fun _ => (h : Int)) (hE := fun _ => (h : Int)) (ok := fun p => 0 < w p) (π := π) ⟨fun p hp => ?_, fun a ha => ?_, fun e he => ?_⟩ ⟨fun a e ha he => ⟨fun o c0 => ?_, fun c1 => ?_⟩, fun a ha => ?_, fun e he => ?_⟩ ⟨fun p hp => ?_, fun a ha => ?_, fun e he => ?_⟩
    · have z := hc1 p hp
      exact ⟨by dsimp only; omega, fun q => (hw p hp).2.2 (by dsimp only at q; omega)⟩
    · rw [cnt_dA ha]; have := F.2 a (by omega); dsimp only; omega
    · rw [cnt_dE]; have := F.2 (8 + e) (by omega); dsimp only; omega
    · exact hπ a (8 + e) _ (Or.inl ⟨a, e, ha, he, rfl, rfl, o, by dsimp only at c0; omega, by omega, rfl⟩)
    · have := hπ (8 + e) a _ (Or.inr (Or.inl ⟨a, e, ha, he, rfl, rfl, by dsimp only at c1; omega, by omega, rfl⟩)); dsimp only; omega
    · rw [cnt_dA ha]
      have z := hd a (by omega)
      dsimp only
      refine ⟨fun q => ?_, fun q => ?_⟩
      · have := hπ 18 a 0 (Or.inr (Or.inr (Or.inr (Or.inr (Or.inl ⟨rfl, ha, by omega, rfl⟩))))); omega
      · have := hπ a 18 0 (Or.inr (Or.inr (Or.inl ⟨ha, rfl, by omega, rfl⟩))); omega
    · rw [cnt_dE]
      have z := hd (8 + e) (by omega)
      dsimp only
      refine ⟨fun q => ?_, fun q => ?_⟩
      · have := hπ (8 + e) 18 0 (Or.inr (Or.inr (Or.inr (Or.inl ⟨by omega, by omega, rfl, by omega, rfl⟩)))); omega
      · have := hπ 18 (8 + e) 0 (Or.inr (Or.inr (Or.inr (Or.inr (Or.inr ⟨rfl, by omega, by omega, by omega, rfl⟩))))); omega
    · have z := ht.1 p hp
      exact ⟨by dsimp only; omega, fun q => z.2 (by dsimp only at q; omega)⟩
    · rw [cnt_dA ha]; have := ht.2 a (by omega); dsimp only; omega
    · rw [cnt_dE]; have := ht.2 (8 + e) (by omega); dsimp only; omega
  rw [totW_eq ht.1, totW_eq F.1] at best
  have bt := bits_bd ht1 80 (Nat.le_refl _)
  have bc := bits_bd hc1 80 (Nat.le_refl _)
  have ba := bit_all
  refine ⟨by omega, fun e k hk he => ?_⟩
  rcases Nat.lt_or_ge (c k) (t k) with q | q
  · exfalso
    have z1 := ht1 k hk
    have b := bits_first ht1 hc1 hk he (by omega) (by omega)
    rw [e] at best
    omega
  · exact q
