/-! ===== the reference's set grows by a best way: pure ===== -/
theorem cnt_dA {c : Nat → Nat} {a : Nat} (ha : a < 8) : dA (fun p => ((c p : Nat) : Int)) a = ((cnt c a : Nat) : Int) := by
  unfold dA cnt
  rw [if_pos ha]
  exact smN_sm (fun e => c (10 * a + e)) 10
theorem cnt_dE {c : Nat → Nat} {e : Nat} : dE (fun p => ((c p : Nat) : Int)) e = ((cnt c (8 + e) : Nat) : Int) := by
  unfold dE cnt
  rw [if_neg (by omega), show 8 + e - 8 = e by omega]
  exact smN_sm (fun a => c (10 * a + e)) 8
def totN (w c : Nat → Nat) : Int := tot (fun p => ((w p : Nat) : Int)) (fun p => ((c p : Nat) : Int))
theorem totN_fli {w c : Nat → Nat} {p : Nat} (hp : p < 80) (hc : c p ≤ 1) : totN w (fli c p) = totN w c + (1 - 2 * (c p : Int)) * (w p : Int) := by
  unfold totN tot
  have h := sm_at (f := fun a => sm (fun e => ((fli c p (10 * a + e) : Nat) : Int) * ((w (10 * a + e) : Nat) : Int)) 10) (g := fun a => sm (fun e => ((c (10 * a + e) : Nat) : Int) * ((w (10 * a + e) : Nat) : Int)) 10) (n := 8) (j := p / 10) (by omega) (fun a ha hne => sm_congr (fun e he => by rw [fli_n (by omega)]))
  have h2 := sm_at (f := fun e => ((fli c p (10 * (p / 10) + e) : Nat) : Int) * ((w (10 * (p / 10) + e) : Nat) : Int)) (g := fun e => ((c (10 * (p / 10) + e) : Nat) : Int) * ((w (10 * (p / 10) + e) : Nat) : Int)) (n := 10) (j := p % 10) (by omega) (fun e he hne => by
    have : 10 * (p / 10) + e ≠ p := by omega
    show ((fli c p (10 * (p / 10) + e) : Nat) : Int) * _ = _
    rw [fli_n this])
  have e1 : 10 * (p / 10) + p % 10 = p := by omega
  rw [e1, fli_s] at h2
  rw [h, h2]
  rcases (show c p = 0 ∨ c p = 1 by omega) with q | q
  · rw [q]; simp; omega
  · rw [q]; simp; omega
/-- the free pairs -/
def okM (A B : Nat) (fx : Nat → Nat) (p : Nat) : Prop := p / 10 < A ∧ p % 10 < B ∧ fx p = 0
/-- potentials of the set met so far; b is the gain of the last way -/
def PV (A B : Nat) (w fx mt al el : Nat → Nat) (π : Nat → Int) (b : Int) : Prop := π 18 = 0 ∧ 0 ≤ b
  ∧ (∀ a e, a < A → e < B → fx (10 * a + e) = 0 → (mt (10 * a + e) = 0 → π a + (w (10 * a + e) : Int) ≤ π (8 + e)) ∧ (mt (10 * a + e) = 1 → π (8 + e) ≤ π a + (w (10 * a + e) : Int)))
  ∧ (∀ a, a < A → (0 < al a → 0 ≤ π a) ∧ (0 < cnt mt a → π a ≤ 0))
  ∧ (∀ e, e < B → (0 < el e → π (8 + e) ≤ b) ∧ (0 < cnt mt (8 + e) → b ≤ π (8 + e)))
section PVs
variable {A B : Nat} {w fx mt al el : Nat → Nat} {π : Nat → Int} {b : Int} {f fr : Nat → Int32}
theorem PV.arc (H : PV A B w fx mt al el π b) : ∀ u v g, ArcM A B w fx mt al u v g → π u + g ≤ π v := by
  intro u v g ha
  rcases ha with ⟨a, e, a1, a2, a3, a4, a5, a6, a7⟩ | ⟨a, e, a1, a2, a3, a4, a5, a6, a7⟩ | ⟨a1, a2, a3, a4⟩
  · have := (H.2.2.1 a e a1 a2 a5).1 a6; rw [a3, a4, a7]; exact this
  · have := (H.2.2.1 a e a1 a2 a5).2 a6; rw [a3, a4, a7]; omega
  · have := (H.2.2.2.1 v a2).1 a3; rw [a1, a4, H.1]; omega
theorem PV.used (H : PV A B w fx mt al el π b) (hA : A ≤ 8) (hB : B ≤ 10) : ∀ a e, a < A → e < B → fx (10 * a + e) = 0 → mt (10 * a + e) = 1 → π a ≤ π 18 := by
  intro a e h1 h2 _ h4
  rw [H.1]
  exact (H.2.2.2.1 a h1).2 (cnt_pos (by omega) (by omega) h4).1
/-- the potentials behind a search: its gains, or the old ones lowered -/
theorem PV.next (hA : A ≤ 8) (hB : B ≤ 10) (H : PV A B w fx mt al el π b) (S : SM A B w fx mt al π f fr) (cl : ∀ u v g, rdM f u → ArcM A B w fx mt al u v g → rdM f v ∧ DM f u + g ≤ DM f v) {L : Int} (hL0 : 0 ≤ L) (hLb : L ≤ b) (hL : ∀ e, e < B → 0 < el e → rdM f (8 + e) → DM f (8 + e) ≤ L) :
    ∃ ψ : Nat → Int, PV A B w fx mt al el ψ L ∧ ∀ v, rdM f v → DM f v ≤ ψ v := by
  have hex : ∃ ψ : Nat → Int, (∀ v, rdM f v → ψ v = if DM f v ≤ π v - (b - L) then π v - (b - L) else DM f v) ∧ (∀ v, ¬ rdM f v → ψ v = π v - (b - L)) := by
    refine ⟨fun v => if v = 18 ∨ (v < 18 ∧ f v ≠ -1000000000) then (if DM f v ≤ π v - (b - L) then π v - (b - L) else DM f v) else π v - (b - L), fun v hv => if_pos hv, fun v hv => if_neg hv⟩
  obtain ⟨ψ, h1, h2⟩ := hex
  have ge1 : ∀ v, rdM f v → DM f v ≤ ψ v ∧ π v - (b - L) ≤ ψ v ∧ (ψ v = DM f v ∨ ψ v = π v - (b - L)) := by
    intro v hv
    rw [h1 v hv]
    by_cases q : DM f v ≤ π v - (b - L)
    · rw [if_pos q]; exact ⟨q, Int.le_refl _, Or.inr rfl⟩
    · rw [if_neg q]; exact ⟨Int.le_refl _, by omega, Or.inl rfl⟩
  have ge2 : ∀ v, π v - (b - L) ≤ ψ v := by
    intro v
    by_cases q : rdM f v
    · exact (ge1 v q).2.1
    · rw [h2 v q]; exact Int.le_refl _
  have arc : ∀ u v g, ArcM A B w fx mt al u v g → ψ u + g ≤ ψ v := by
    intro u v g ha
    have p0 := H.arc u v g ha
    have p1 := ge2 v
    by_cases q : rdM f u
    · have c := cl u v g q ha
      have g1 := ge1 v c.1
      rcases (ge1 u q).2.2 with z | z
      · omega
      · omega
    · rw [h2 u q]; omega
  have up : ∀ v x, (rdM f v → DM f v ≤ x) → π v - (b - L) ≤ x → ψ v ≤ x := by
    intro v x z1 z2
    by_cases q : rdM f v
    · rcases (ge1 v q).2.2 with z | z
      · rw [z]; exact z1 q
      · rw [z]; exact z2
    · rw [h2 v q]; exact z2
  have d18 : DM f 18 = 0 := if_pos rfl
  refine ⟨ψ, ⟨?_, hL0, fun a e a1 a2 a3 => ⟨fun a4 => ?_, fun a4 => ?_⟩, fun a ha => ⟨fun q => ?_, fun q => ?_⟩, fun e he => ⟨fun q => ?_, fun q => ?_⟩⟩, fun v hv => (ge1 v hv).1⟩
  · have z := ge1 18 (Or.inl rfl)
    have := up 18 0 (fun _ => by omega) (by rw [H.1]; omega)
    omega
  · exact arc a (8 + e) _ (Or.inl ⟨a, e, a1, a2, rfl, rfl, a3, a4, rfl⟩)
  · have := arc (8 + e) a _ (Or.inr (Or.inl ⟨a, e, a1, a2, rfl, rfl, a3, a4, rfl⟩)); omega
  · have f0 := S.2.2.1 a ha q
    have r : rdM f a := Or.inr ⟨by omega, by rw [f0]; decide⟩
    have z := (ge1 a r).1
    have : DM f a = 0 := by unfold DM; rw [if_neg (by omega), f0]; decide
    omega
  · have z := (H.2.2.2.1 a ha).2 q
    refine up a 0 (fun r => ?_) (by omega)
    unfold DM; rw [if_neg (by omega)]
    rcases r with r | r
    · omega
    · exact ((S.2.1 a r.1 r.2).2.1 (by omega)).2
  · have z := (H.2.2.2.2 e he).1 q
    exact up (8 + e) L (fun r => hL e he q r) (by omega)
  · have z := (H.2.2.2.2 e he).2 q
    have := ge2 (8 + e); omega
/-- no way gains any more: the set met is best -/
theorem PV.best (hA : A ≤ 8) (hB : B ≤ 10) {capA capE : Nat → Nat} (H : PV A B w fx mt al el π 0) (hmt : ∀ p, p < 80 → mt p ≤ 1 ∧ (mt p = 1 → okM A B fx p)) (hal : ∀ a, a < A → al a + cnt mt a = capA a) (hel : ∀ e, e < B → el e + cnt mt (8 + e) = capE e)
    {t : Nat → Nat} (ht : ∀ p, p < 80 → t p ≤ 1 ∧ (t p = 1 → okM A B fx p)) (htA : ∀ a, a < A → cnt t a ≤ capA a) (htE : ∀ e, e < B → cnt t (8 + e) ≤ capE e) : totN w t ≤ totN w mt := by
  have zeroA : ∀ c : Nat → Nat, (∀ p, p < 80 → c p ≤ 1 ∧ (c p = 1 → okM A B fx p)) → ∀ a, a < 8 → ¬ a < A → cnt c a = 0 := by
    intro c hc a ha hn
    rcases Nat.eq_zero_or_pos (cnt c a) with q | q
    · exact q
    · obtain ⟨e, he, k⟩ := cnt_exA ha q
      have z := hc (10 * a + e) (by omega)
      have := (z.2 (by omega)).1
      omega
  have zeroE : ∀ c : Nat → Nat, (∀ p, p < 80 → c p ≤ 1 ∧ (c p = 1 → okM A B fx p)) → ∀ e, e < 10 → ¬ e < B → cnt c (8 + e) = 0 := by
    intro c hc e he hn
    rcases Nat.eq_zero_or_pos (cnt c (8 + e)) with q | q
    · exact q
    · obtain ⟨a, ha, k⟩ := cnt_exE q
      have z := hc (10 * a + e) (by omega)
      have := (z.2 (by omega)).2.1
      omega
  refine best_of (hA := fun a => if a < A then (capA a : Int) else 0) (hE := fun e => if e < B then (capE e : Int) else 0) (ok := okM A B fx) (π := fun v => if v = 18 then 0 else if v < 8 then (if v < A then π v else 0) else (if v - 8 < B then π v else 0)) ⟨fun p hp => ?_, fun a ha => ?_, fun e he => ?_⟩ ⟨fun a e ha he => ?_, fun a ha => ?_, fun e he => ?_⟩ ⟨fun p hp => ?_, fun a ha => ?_, fun e he => ?_⟩
  · try dsimp only
    have := hmt p hp
    exact ⟨by omega, fun q => this.2 (by omega)⟩
  · try dsimp only
    rw [cnt_dA ha]
    by_cases q : a < A
    · rw [if_pos q]; have := hal a q; omega
    · rw [if_neg q, zeroA mt hmt a ha q]; omega
  · try dsimp only
    rw [cnt_dE]
    by_cases q : e < B
    · rw [if_pos q]; have := hel e q; omega
    · rw [if_neg q, zeroE mt hmt e he q]; omega
  · try dsimp only
    refine ⟨fun o c0 => ?_, fun c1 => ?_⟩
    · obtain ⟨o1, o2, o3⟩ := o
      have aA : a < A := by omega
      have eB : e < B := by omega
      have := (H.2.2.1 a e aA eB o3).1 (by omega)
      simp only [if_neg (show ¬ a = 18 by omega), if_pos ha, if_pos aA, if_neg (show ¬ 8 + e = 18 by omega), if_neg (show ¬ 8 + e < 8 by omega), show 8 + e - 8 = e by omega, if_pos eB]
      exact this
    · have o := (hmt (10 * a + e) (by omega)).2 (by omega)
      obtain ⟨o1, o2, o3⟩ := o
      have aA : a < A := by omega
      have eB : e < B := by omega
      have := (H.2.2.1 a e aA eB o3).2 (by omega)
      simp only [if_neg (show ¬ a = 18 by omega), if_pos ha, if_pos aA, if_neg (show ¬ 8 + e = 18 by omega), if_neg (show ¬ 8 + e < 8 by omega), show 8 + e - 8 = e by omega, if_pos eB]
      exact this
  · try dsimp only
    rw [cnt_dA ha]
    simp only [if_true, if_neg (show ¬ a = 18 by omega), if_pos ha]
    by_cases q : a < A
    · rw [if_pos q, if_pos q]
      have z := H.2.2.2.1 a q
      have k := hal a q
      exact ⟨fun h => z.1 (by omega), fun h => z.2 (by omega)⟩
    · rw [if_neg q, if_neg q]; exact ⟨fun _ => Int.le_refl _, fun _ => Int.le_refl _⟩
  · try dsimp only
    rw [cnt_dE]
    simp only [if_true, if_neg (show ¬ 8 + e = 18 by omega), if_neg (show ¬ 8 + e < 8 by omega), show 8 + e - 8 = e by omega]
    by_cases q : e < B
    · rw [if_pos q, if_pos q]
      have z := H.2.2.2.2 e q
      have k := hel e q
      exact ⟨fun h => z.1 (by omega), fun h => z.2 (by omega)⟩
    · rw [if_neg q, if_neg q]; exact ⟨fun _ => Int.le_refl _, fun _ => Int.le_refl _⟩
  · try dsimp only
    have := ht p hp
    exact ⟨by omega, fun q => this.2 (by omega)⟩
  · try dsimp only
    rw [cnt_dA ha]
    by_cases q : a < A
    · rw [if_pos q]; have := htA a q; omega
    · rw [if_neg q, zeroA t ht a ha q]; omega
  · try dsimp only
    rw [cnt_dE]
    by_cases q : e < B
    · rw [if_pos q]; have := htE e q; omega
    · rw [if_neg q, zeroE t ht e he q]; omega
end PVs
