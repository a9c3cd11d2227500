/-! ===== pairs that are fixed, sets that keep to them: pure ===== -/
/-- the pairs fixed to be in, as far as they are counted -/
def bs (A B : Nat) (fx : Nat → Nat) (a e : Nat) : Nat → Nat := fun p => if p / 10 < A ∧ p % 10 < B ∧ fx p = 1 ∧ (p / 10 < a ∨ (p / 10 = a ∧ p % 10 < e)) then 1 else 0
theorem bs_le (A B : Nat) (fx : Nat → Nat) (a e p : Nat) : bs A B fx a e p ≤ 1 := by unfold bs; split <;> omega
theorem bs_0 (A B : Nat) (fx : Nat → Nat) : bs A B fx 0 0 = fun _ => 0 := by
  funext p; unfold bs; rw [if_neg (by omega)]
theorem bs_row {A B : Nat} {fx : Nat → Nat} {a : Nat} : bs A B fx a B = bs A B fx (a + 1) 0 := by
  funext p
  unfold bs
  by_cases h : p / 10 < A ∧ p % 10 < B ∧ fx p = 1 ∧ (p / 10 < a ∨ (p / 10 = a ∧ p % 10 < B))
  · rw [if_pos h, if_pos (by omega)]
  · rw [if_neg h, if_neg (by omega)]
theorem bs_in {A B : Nat} {fx : Nat → Nat} {a e : Nat} (ha : a < A) (he : e < B) (hB : B ≤ 10) (hf : fx (10 * a + e) = 1) : bs A B fx a (e + 1) = fli (bs A B fx a e) (10 * a + e) ∧ bs A B fx a e (10 * a + e) = 0 := by
  have z : bs A B fx a e (10 * a + e) = 0 := by unfold bs; rw [if_neg (by omega)]
  refine ⟨?_, z⟩
  funext p
  by_cases q : p = 10 * a + e
  · subst q; rw [fli_s, z]; unfold bs; rw [if_pos ⟨by omega, by omega, hf, by omega⟩]
  · rw [fli_n q]
    unfold bs
    by_cases h : p / 10 < A ∧ p % 10 < B ∧ fx p = 1 ∧ (p / 10 < a ∨ (p / 10 = a ∧ p % 10 < e))
    · rw [if_pos h, if_pos (by omega)]
    · rw [if_neg h, if_neg (by omega)]
theorem bs_out {A B : Nat} {fx : Nat → Nat} {a e : Nat} (hB : B ≤ 10) (he : e < B) (hf : fx (10 * a + e) ≠ 1) : bs A B fx a (e + 1) = bs A B fx a e := by
  funext p
  unfold bs
  by_cases q : p = 10 * a + e
  · subst q; rw [if_neg (by omega), if_neg (by omega)]
  · by_cases h : p / 10 < A ∧ p % 10 < B ∧ fx p = 1 ∧ (p / 10 < a ∨ (p / 10 = a ∧ p % 10 < e))
    · rw [if_pos h, if_pos (by omega)]
    · rw [if_neg h, if_neg (by omega)]
theorem smN_add (f g : Nat → Nat) (n : Nat) : smN (fun k => f k + g k) n = smN f n + smN g n := by
  induction n with
  | zero => rfl
  | succ n ih => simp only [smN]; rw [ih]; omega
theorem smN_mono {f g : Nat → Nat} {n : Nat} (h : ∀ k, k < n → f k ≤ g k) : smN f n ≤ smN g n := by
  induction n with
  | zero => exact Nat.le_refl _
  | succ n ih => simp only [smN]; have := ih (fun k hk => h k (by omega)); have := h n (by omega); omega
theorem smN_z (n : Nat) : smN (fun _ => 0) n = 0 := by
  induction n with
  | zero => rfl
  | succ n ih => simp only [smN]; rw [ih]
theorem cnt_add (c d : Nat → Nat) (y : Nat) : cnt (fun p => c p + d p) y = cnt c y + cnt d y := by
  unfold cnt
  by_cases h : y < 8
  · rw [if_pos h, if_pos h, if_pos h]; exact smN_add _ _ _
  · rw [if_neg h, if_neg h, if_neg h]; exact smN_add _ _ _
theorem cnt_mono {c d : Nat → Nat} {y : Nat} (hy : y < 18) (h : ∀ p, p < 80 → c p ≤ d p) : cnt c y ≤ cnt d y := by
  unfold cnt
  by_cases q : y < 8
  · rw [if_pos q, if_pos q]; exact smN_mono (fun k hk => h _ (by omega))
  · rw [if_neg q, if_neg q]; exact smN_mono (fun k hk => h _ (by omega))
theorem cnt_z (y : Nat) : cnt (fun _ => 0) y = 0 := by
  unfold cnt
  by_cases q : y < 8
  · rw [if_pos q]; exact smN_z _
  · rw [if_neg q]; exact smN_z _
theorem cnt_congr {c d : Nat → Nat} {y : Nat} (hy : y < 18) (h : ∀ p, p < 80 → c p = d p) : cnt c y = cnt d y := by
  unfold cnt
  by_cases q : y < 8
  · rw [if_pos q, if_pos q]; exact smN_congr (fun k hk => h _ (by omega))
  · rw [if_neg q, if_neg q]; exact smN_congr (fun k hk => h _ (by omega))
theorem totN_add (w c d : Nat → Nat) : totN w (fun p => c p + d p) = totN w c + totN w d := by
  unfold totN tot
  rw [← sm_add]
  refine sm_congr (fun a _ => ?_)
  rw [← sm_add]
  refine sm_congr (fun e _ => ?_)
  rw [← Int.add_mul]
  congr 1
theorem totN_congr {w c d : Nat → Nat} (h : ∀ p, p < 80 → c p = d p) : totN w c = totN w d := by
  unfold totN tot
  refine sm_congr (fun a ha => sm_congr (fun e he => ?_))
  dsimp only
  rw [h (10 * a + e) (by omega)]
theorem totN_z (w : Nat → Nat) : totN w (fun _ => 0) = 0 := by
  unfold totN tot
  have : ∀ a, sm (fun e => (((0 : Nat) : Nat) : Int) * ((w (10 * a + e) : Nat) : Int)) 10 = 0 := fun a => by
    have e : (fun e => (((0 : Nat) : Nat) : Int) * ((w (10 * a + e) : Nat) : Int)) = fun _ => 0 := by funext e; simp
    rw [e]; exact sm_0 10
  rw [sm_congr (g := fun _ => 0) (fun a _ => this a)]
  exact sm_0 8
theorem sm_bd {f : Nat → Int} {K : Int} {n : Nat} (h : ∀ k, k < n → 0 ≤ f k ∧ f k ≤ K) : 0 ≤ sm f n ∧ sm f n ≤ n * K := by
  induction n with
  | zero => simp [sm]
  | succ n ih =>
    have a := ih (fun k hk => h k (by omega))
    have b := h n (by omega)
    simp only [sm]
    have e : ((n + 1 : Nat) : Int) * K = (n : Int) * K + K := by rw [Int.natCast_add, Int.add_mul]; simp
    rw [e]; omega
theorem totN_bd {w c : Nat → Nat} (hw : ∀ p, p < 80 → w p ≤ 100) (hc : ∀ p, p < 80 → c p ≤ 1) : 0 ≤ totN w c ∧ totN w c ≤ 8000 := by
  unfold totN tot
  have h := sm_bd (f := fun a => sm (fun e => ((c (10 * a + e) : Nat) : Int) * ((w (10 * a + e) : Nat) : Int)) 10) (K := 1000) (n := 8) (fun a ha => by
    have h2 := sm_bd (f := fun e => ((c (10 * a + e) : Nat) : Int) * ((w (10 * a + e) : Nat) : Int)) (K := 100) (n := 10) (fun e he => by
      have h3 := hw (10 * a + e) (by omega)
      have h4 := hc (10 * a + e) (by omega)
      rcases (show c (10 * a + e) = 0 ∨ c (10 * a + e) = 1 by omega) with q | q
      · rw [q]; simp
      · rw [q]; simp; omega)
    exact ⟨h2.1, by have := h2.2; omega⟩)
  exact ⟨h.1, Int.le_trans h.2 (by decide)⟩
/-- a set that keeps to what is fixed -/
def FS (A B h : Nat) (fx t : Nat → Nat) : Prop := (∀ p, p < 80 → t p ≤ 1 ∧ (t p = 1 → p / 10 < A ∧ p % 10 < B)) ∧ (∀ a e, a < A → e < B → (fx (10 * a + e) = 1 → t (10 * a + e) = 1) ∧ (fx (10 * a + e) = 2 → t (10 * a + e) = 0)) ∧ (∀ y, y < 18 → cnt t y ≤ h)
theorem FS.sub {A B h : Nat} {fx t : Nat → Nat} (H : FS A B h fx t) (a e p : Nat) : bs A B fx a e p ≤ t p := by
  unfold bs
  by_cases q : p / 10 < A ∧ p % 10 < B ∧ fx p = 1 ∧ (p / 10 < a ∨ (p / 10 = a ∧ p % 10 < e))
  · rw [if_pos q]
    have k := (H.2.1 (p / 10) (p % 10) q.1 q.2.1).1
    rw [show 10 * (p / 10) + p % 10 = p by omega] at k
    rw [k q.2.2.1]; exact Nat.le_refl _
  · rw [if_neg q]; exact Nat.zero_le _
/-- too many are fixed -/
theorem FS.none {A B h : Nat} {fx t : Nat → Nat} (H : FS A B h fx t) {a e y : Nat} (hy : y < 18) (hc : h < cnt (bs A B fx a e) y) : False := by
  have := cnt_mono hy (c := bs A B fx a e) (d := t) (fun p _ => H.sub a e p)
  have := H.2.2 y hy
  omega
/-- the best of the free pairs beside the fixed ones is best -/
theorem FS.best {A B h : Nat} {w fx mt : Nat → Nat} (hA : A ≤ 8) (hB : B ≤ 10) (hfx : ∀ p, p < 80 → fx p ≤ 2) (hmt : ∀ p, p < 80 → mt p ≤ 1 ∧ (mt p = 1 → okM A B fx p)) (hc : ∀ y, y < 18 → cnt (bs A B fx A 0) y + cnt mt y ≤ h)
    (hb : ∀ t : Nat → Nat, (∀ p, p < 80 → t p ≤ 1 ∧ (t p = 1 → okM A B fx p)) → (∀ y, y < 18 → cnt (bs A B fx A 0) y + cnt t y ≤ h) → totN w t ≤ totN w mt) :
    FS A B h fx (fun p => bs A B fx A 0 p + mt p) ∧ totN w (fun p => bs A B fx A 0 p + mt p) = totN w (bs A B fx A 0) + totN w mt ∧ ∀ t, FS A B h fx t → totN w t ≤ totN w (fun p => bs A B fx A 0 p + mt p) := by
  have bv : ∀ p, bs A B fx A 0 p = 1 → p / 10 < A ∧ p % 10 < B ∧ fx p = 1 := by
    intro p q
    unfold bs at q
    by_cases z : p / 10 < A ∧ p % 10 < B ∧ fx p = 1 ∧ (p / 10 < A ∨ (p / 10 = A ∧ p % 10 < 0))
    · exact ⟨z.1, z.2.1, z.2.2.1⟩
    · rw [if_neg z] at q; omega
  have bl := bs_le A B fx A 0
  have b1 : ∀ p, p / 10 < A → p % 10 < B → fx p = 1 → bs A B fx A 0 p = 1 := fun p h1 h2 h3 => by
    unfold bs; rw [if_pos ⟨h1, h2, h3, Or.inl h1⟩]
  have excl : ∀ p, p < 80 → ¬ (bs A B fx A 0 p = 1 ∧ mt p = 1) := fun p hp q => by
    have z1 := (bv p q.1).2.2
    have z2 := ((hmt p hp).2 q.2).2.2
    omega
  refine ⟨⟨fun p hp => ?_, fun a e ha he => ⟨fun q => ?_, fun q => ?_⟩, fun y hy => ?_⟩, totN_add _ _ _, fun t ht => ?_⟩
  · have z1 := bl p
    have z2 := hmt p hp
    have z3 := excl p hp
    dsimp only
    refine ⟨by omega, fun q => ?_⟩
    by_cases q1 : bs A B fx A 0 p = 1
    · have := bv p q1; exact ⟨this.1, this.2.1⟩
    · have := z2.2 (by omega); exact ⟨this.1, this.2.1⟩
  · dsimp only
    have z := b1 (10 * a + e) (by omega) (by omega) q
    have z2 := hmt (10 * a + e) (by omega)
    have z3 := excl (10 * a + e) (by omega)
    omega
  · dsimp only
    have z2 := hmt (10 * a + e) (by omega)
    have z1 := bl (10 * a + e)
    rcases (show bs A B fx A 0 (10 * a + e) = 0 ∨ bs A B fx A 0 (10 * a + e) = 1 by omega) with k | k
    · rcases (show mt (10 * a + e) = 0 ∨ mt (10 * a + e) = 1 by omega) with k2 | k2
      · omega
      · have := (z2.2 k2).2.2; omega
    · have := (bv _ k).2.2; omega
  · rw [cnt_add]; exact hc y hy
  · -- the part of t that is free
    have tv : ∀ p, p < 80 → t p = bs A B fx A 0 p + (t p - bs A B fx A 0 p) := fun p hp => by have := ht.sub A 0 p; omega
    have e1 : totN w t = totN w (bs A B fx A 0) + totN w (fun p => t p - bs A B fx A 0 p) := by
      rw [← totN_add]; exact totN_congr tv
    have e2 : ∀ y, y < 18 → cnt t y = cnt (bs A B fx A 0) y + cnt (fun p => t p - bs A B fx A 0 p) y := fun y hy => by
      rw [← cnt_add]; exact cnt_congr hy tv
    have k := hb (fun p => t p - bs A B fx A 0 p) (fun p hp => by
      have z := ht.1 p hp
      try dsimp only
      refine ⟨by omega, fun q => ?_⟩
      have z2 := z.2 (by omega)
      refine ⟨z2.1, z2.2, ?_⟩
      have z3 := ht.2.1 (p / 10) (p % 10) z2.1 z2.2
      rw [show 10 * (p / 10) + p % 10 = p by omega] at z3
      have z4 := hfx p hp
      rcases (show fx p = 0 ∨ fx p = 1 ∨ fx p = 2 by omega) with f | f | f
      · exact f
      · have := b1 p z2.1 z2.2 f; omega
      · have := z3.2 f; omega) (fun y hy => by rw [← e2 y hy]; exact ht.2.2 y hy)
    rw [totN_add, e1]
    omega
