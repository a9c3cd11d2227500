/-! ===== the way that the reference takes back, and its turning: pure ===== -/
def WM (A B : Nat) (w fx mt al : Nat → Nat) (ψ : Nat → Int) (fr : Nat → Int32) (x : Nat → Nat) (n : Nat) : Prop :=
  x n = 18 ∧ (∀ j, j < n → x j < 18) ∧ (∀ i k, i ≤ n → k ≤ n → x i = x k → i = k)
  ∧ (∀ j, j < n → 8 ≤ x j → x (j + 1) < A ∧ x j - 8 < B ∧ fr (x j) = nI (x (j + 1)) ∧ fx (10 * x (j + 1) + (x j - 8)) = 0 ∧ mt (10 * x (j + 1) + (x j - 8)) = 0 ∧ ψ (x j) = ψ (x (j + 1)) + (w (10 * x (j + 1) + (x j - 8)) : Int))
  ∧ (∀ j, j < n → x j < 8 → (0 < al (x j) ∧ j + 1 = n ∧ ψ (x j) = 0) ∨ (al (x j) = 0 ∧ x j < A ∧ 8 ≤ x (j + 1) ∧ x (j + 1) < 18 ∧ x (j + 1) - 8 < B ∧ fr (x j) = nI (x (j + 1) - 8) ∧ fx (10 * x j + (x (j + 1) - 8)) = 0 ∧ mt (10 * x j + (x (j + 1) - 8)) = 1 ∧ ψ (x j) = ψ (x (j + 1)) - (w (10 * x j + (x (j + 1) - 8)) : Int)))
theorem bM_e {al : Nat → Nat} {fr : Nat → Int32} {v : Nat} (h1 : 8 ≤ v) (h2 : v ≠ 18) : bM al fr v = (fr v).toNatClampNeg := by unfold bM; rw [if_neg (by omega), if_neg h2]
theorem bM_s {al : Nat → Nat} {fr : Nat → Int32} {v : Nat} (h1 : v < 8) (h2 : 0 < al v) : bM al fr v = 18 := by unfold bM; rw [if_pos h1, if_pos h2]
theorem bM_a {al : Nat → Nat} {fr : Nat → Int32} {v : Nat} (h1 : v < 8) (h2 : ¬ 0 < al v) : bM al fr v = 8 + (fr v).toNatClampNeg := by unfold bM; rw [if_pos h1, if_neg h2]
theorem WM_of {A B : Nat} {w fx mt al el : Nat → Nat} {π ψ : Nat → Int} {L : Int} {f fr : Nat → Int32} {e0 : Nat} (hA : A ≤ 8) (hB : B ≤ 10) (S : SM A B w fx mt al π f fr) (cl : ∀ u v g, rdM f u → ArcM A B w fx mt al u v g → rdM f v ∧ DM f u + g ≤ DM f v) (H : PV A B w fx mt al el ψ L) (hψ : ∀ v, rdM f v → DM f v ≤ ψ v) (h0 : rdM f (8 + e0)) (he : e0 < 10) (hL : ψ (8 + e0) ≤ DM f (8 + e0)) :
    ∃ n, WM A B w fx mt al ψ fr (fun j => It (bM al fr) j (8 + e0)) n ∧ 2 ≤ n := by
  obtain ⟨⟨⟨s1, s2⟩, s3, s4, s5, s6⟩, t1, t2, t3⟩ := S
  obtain ⟨n, hn, hmin⟩ := pk_least (fun n => It (bM al fr) n (8 + e0) = 18) (s6 _ h0)
  have hfix : ∀ j, It (bM al fr) (j + 1) (8 + e0) = bM al fr (It (bM al fr) j (8 + e0)) := fun j => It_succ _ _ _
  have rr : ∀ j, j ≤ n → rdM f (It (bM al fr) j (8 + e0)) := by
    intro j
    induction j with
    | zero => intro _; exact h0
    | succ j ih =>
      intro hj
      rw [hfix]
      exact (s5 _ (ih (by omega)) (hmin j (by omega))).1
  have lt : ∀ j, j < n → It (bM al fr) j (8 + e0) < 18 := by
    intro j hj
    rcases rr j (by omega) with q | q
    · exact absurd q (hmin j hj)
    · exact q.1
  have hdist : ∀ i k, i ≤ n → k ≤ n → It (bM al fr) i (8 + e0) = It (bM al fr) k (8 + e0) → i = k := by
    intro i j hi hj e
    rcases Nat.lt_trichotomy i j with hij | hij | hij
    · exfalso
      have e2 : It (bM al fr) (i + (n - j)) (8 + e0) = 18 := by
        rw [It_add, e, ← It_add, show j + (n - j) = n by omega]; exact hn
      exact hmin (i + (n - j)) (by omega) e2
    · exact hij
    · exfalso
      have e2 : It (bM al fr) (j + (n - i)) (8 + e0) = 18 := by
        rw [It_add, ← e, ← It_add, show i + (n - i) = n by omega]; exact hn
      exact hmin (j + (n - i)) (by omega) e2
  -- the potentials are the gains on the way
  have arcs : ∀ j, j < n → ∃ g, ArcM A B w fx mt al (It (bM al fr) (j + 1) (8 + e0)) (It (bM al fr) j (8 + e0)) g ∧ DM f (It (bM al fr) j (8 + e0)) = DM f (It (bM al fr) (j + 1) (8 + e0)) + g := by
    intro j hj
    obtain ⟨r1, g, a1, d1⟩ := s5 _ (rr j (by omega)) (hmin j hj)
    have d2 := (cl _ _ _ r1 a1).2
    rw [hfix]
    exact ⟨g, a1, by omega⟩
  have eq : ∀ j, j ≤ n → ψ (It (bM al fr) j (8 + e0)) = DM f (It (bM al fr) j (8 + e0)) := by
    intro j
    induction j with
    | zero => intro _; have := hψ _ h0; simp only [It]; omega
    | succ j ih =>
      intro hj
      obtain ⟨g, a1, d1⟩ := arcs j (by omega)
      have i1 := ih (by omega)
      have i2 := H.arc _ _ _ a1
      have i3 := hψ _ (rr (j + 1) hj)
      omega
  have n0 : n ≠ 0 := fun e => by subst e; simp only [It] at hn; omega
  refine ⟨n, ⟨hn, lt, hdist, fun j hj h8 => ?_, fun j hj h8 => ?_⟩, ?_⟩
  · obtain ⟨g, a1, d1⟩ := arcs j hj
    have e1 := eq j (by omega)
    have e2 := eq (j + 1) (by omega)
    have b1 := lt j hj
    simp only at h8 ⊢
    have rj := rr j (by omega)
    have fj : f (It (bM al fr) j (8 + e0)) ≠ -1000000000 := by
      rcases rj with q | q
      · omega
      · exact q.2
    obtain ⟨k, k1, k2⟩ := (t3 _ b1 fj).2 h8
    have xb : It (bM al fr) (j + 1) (8 + e0) = k := by
      rw [hfix, bM_e h8 (by omega), k2]; exact nI_clamp (by omega)
    rcases a1 with ⟨a, e, z1, z2, z3, z4, z5, z6, z7⟩ | ⟨a, e, z1, z2, z3, z4, z5, z6, z7⟩ | ⟨z1, z2, z3, z4⟩
    · rw [z3, z4]
      rw [z4] at k2
      rw [show 8 + e - 8 = e by omega]
      refine ⟨z1, z2, by rw [k2]; congr 1; omega, z5, z6, ?_⟩
      have e3 : ψ (8 + e) = ψ a + g := by rw [← z4, ← z3, e1, e2, d1]
      rw [e3, z7]
    · omega
    · omega
  · obtain ⟨g, a1, d1⟩ := arcs j hj
    have e1 := eq j (by omega)
    have e2 := eq (j + 1) (by omega)
    have b1 := lt j hj
    simp only at h8 ⊢
    have rj := rr j (by omega)
    have fj : f (It (bM al fr) j (8 + e0)) ≠ -1000000000 := by
      rcases rj with q | q
      · omega
      · exact q.2
    by_cases ha : 0 < al (It (bM al fr) j (8 + e0))
    · left
      have x1 : It (bM al fr) (j + 1) (8 + e0) = 18 := by rw [hfix, bM_s h8 ha]
      refine ⟨ha, hdist (j + 1) n (by omega) (Nat.le_refl _) (by rw [x1, hn]), ?_⟩
      have aA := ((t1 _ b1 fj).2.1 h8).1
      have f0 := t2 _ aA ha
      rw [e1]; unfold DM; rw [if_neg (by omega), f0]; decide
    · right
      obtain ⟨k, k1, k2⟩ := (t3 _ b1 fj).1 h8 (by omega)
      have xb : It (bM al fr) (j + 1) (8 + e0) = 8 + k := by
        rw [hfix, bM_a h8 ha, k2, nI_clamp (by omega)]
      rcases a1 with ⟨a, e, z1, z2, z3, z4, z5, z6, z7⟩ | ⟨a, e, z1, z2, z3, z4, z5, z6, z7⟩ | ⟨z1, z2, z3, z4⟩
      · omega
      · have ek : e = k := by omega
        subst ek
        rw [z3, z4]
        rw [z4] at k2 ha
        rw [show 8 + e - 8 = e by omega]
        refine ⟨by omega, z1, by omega, by omega, z2, k2, z5, z6, ?_⟩
        have e3 : ψ a = ψ (8 + e) + g := by rw [← z4, ← z3, e1, e2, d1]
        rw [e3, z7]; omega
      · omega
  · rcases Nat.lt_or_ge n 2 with q | q
    · exfalso
      have n1 : n = 1 := by omega
      subst n1
      obtain ⟨g, a1, d1⟩ := arcs 0 (by omega)
      simp only [It] at hn a1
      rcases a1 with ⟨a, e, z1, z2, z3, z4, z5, z6, z7⟩ | ⟨a, e, z1, z2, z3, z4, z5, z6, z7⟩ | ⟨z1, z2, z3, z4⟩ <;> omega
    · exact q
/-- while the way is turned: it stands at the editor x j -/
def Gm (A B : Nat) (w fx mt : Nat → Nat) (ψ : Nat → Int) (x : Nat → Nat) (n j : Nat) (c : Nat → Nat) : Prop :=
  (∀ p, p < 80 → c p ≤ 1 ∧ (c p = 1 → okM A B fx p))
  ∧ (∀ a e, a < A → e < B → c (10 * a + e) = mt (10 * a + e) ∨ (fx (10 * a + e) = 0 ∧ ψ (8 + e) = ψ a + (w (10 * a + e) : Int)))
  ∧ (∀ i, j ≤ i → i < n → ∀ a e, a < 8 → e < 10 → ((x i = 8 + e ∧ x (i + 1) = a) ∨ (x i = a ∧ x (i + 1) = 8 + e)) → c (10 * a + e) = mt (10 * a + e))
  ∧ (∀ a, a < 8 → cnt c a = cnt mt a)
  ∧ (j = 0 → ∀ e, e < 10 → cnt c (8 + e) = cnt mt (8 + e))
  ∧ (0 < j → ∀ e, e < 10 → (8 + e = x j → cnt c (8 + e) + 1 = cnt mt (8 + e)) ∧ (8 + e = x 0 → cnt c (8 + e) = cnt mt (8 + e) + 1) ∧ (8 + e ≠ x j → 8 + e ≠ x 0 → cnt c (8 + e) = cnt mt (8 + e)))
  ∧ totN w c = totN w mt + ψ (x 0) - ψ (x j)
section Gms
variable {A B : Nat} {w fx mt al : Nat → Nat} {ψ : Nat → Int} {fr : Nat → Int32} {x : Nat → Nat} {n j : Nat} {c : Nat → Nat}
theorem Gm.init (hmt : ∀ p, p < 80 → mt p ≤ 1 ∧ (mt p = 1 → okM A B fx p)) : Gm A B w fx mt ψ x n 0 mt :=
  ⟨hmt, fun _ _ _ _ => Or.inl rfl, fun _ _ _ _ _ _ _ _ => rfl, fun _ _ => rfl, fun _ _ _ => rfl, fun h => by omega, by omega⟩
set_option maxHeartbeats 2000000 in
theorem Gm.step (hA : A ≤ 8) (hB : B ≤ 10) (Wm : WM A B w fx mt al ψ fr x n) (G : Gm A B w fx mt ψ x n j c) (hj : j + 2 < n) {a e e2 : Nat} (xa : x (j + 1) = a) (xe : x j = 8 + e) (xe2 : x (j + 2) = 8 + e2) (a8 : a < A) (eB : e < B) (e2B : e2 < B) :
    c (10 * a + e) = 0 ∧ (fli c (10 * a + e)) (10 * a + e2) = 1 ∧ Gm A B w fx mt ψ x n (j + 2) (fli (fli c (10 * a + e)) (10 * a + e2)) := by
  obtain ⟨w1, w2, w3, w4, w5⟩ := Wm
  obtain ⟨g1, g2, g3, g4, g5, g6, g7⟩ := G
  have k1 := w4 j (by omega) (by omega)
  rw [xa, xe, show 8 + e - 8 = e by omega] at k1
  have k2 := (w5 (j + 1) (by omega) (by omega)).resolve_left (fun q => by omega)
  rw [xa, show j + 1 + 1 = j + 2 from rfl, xe2, show 8 + e2 - 8 = e2 by omega] at k2
  have ne : e ≠ e2 := fun q => by
    have := w3 j (j + 2) (by omega) (by omega) (by rw [xe, xe2, q]); omega
  have c1 : c (10 * a + e) = 0 := by rw [g3 j (Nat.le_refl _) (by omega) a e (by omega) (by omega) (Or.inl ⟨xe, xa⟩)]; exact k1.2.2.2.2.1
  have c2 : c (10 * a + e2) = 1 := by rw [g3 (j + 1) (by omega) (by omega) a e2 (by omega) (by omega) (Or.inr ⟨xa, xe2⟩)]; exact k2.2.2.2.2.2.2.2.1
  have c2' : fli c (10 * a + e) (10 * a + e2) = 1 := by rw [fli_n (by omega)]; exact c2
  have b1 : ∀ p, p < 80 → fli c (10 * a + e) p ≤ 1 := fun p hp => by
    by_cases q : p = 10 * a + e
    · rw [q, fli_s]; omega
    · rw [fli_n q]; exact (g1 p hp).1
  have ct : ∀ y, y < 18 → cnt (fli (fli c (10 * a + e)) (10 * a + e2)) y + (if y = a ∨ y = 8 + e2 then 1 else 0) = cnt c y + (if y = a ∨ y = 8 + e then 1 else 0) := by
    intro y hy
    have m1 := (cnt_fli (c := c) (p := 10 * a + e) (n := y) (by omega) hy (by omega)).1
    have m2 := cnt_fli (c := fli c (10 * a + e)) (p := 10 * a + e2) (n := y) (by omega) hy (by omega)
    rw [m1] at m2
    rw [c1] at m1
    have d1 : (10 * a + e) / 10 = a := by omega
    have d2 : (10 * a + e) % 10 = e := by omega
    have d3 : (10 * a + e2) / 10 = a := by omega
    have d4 : (10 * a + e2) % 10 = e2 := by omega
    have v1 : cnt (fli c (10 * a + e)) y = cnt c y + (if y = a ∨ y = 8 + e then 1 else 0) := by
      rw [m1]; unfold tdg; rw [d1, d2, if_pos rfl]
      by_cases q : y = a ∨ y = 8 + e
      · rw [if_pos q, if_pos q]
      · rw [if_neg q, if_neg q]; rfl
    have m3 := (cnt_fli (c := fli c (10 * a + e)) (p := 10 * a + e2) (n := y) (by omega) hy (by omega)).1
    have m4 := (cnt_fli (c := fli c (10 * a + e)) (p := 10 * a + e2) (n := y) (by omega) hy (by omega)).2 c2'
    rw [d3, d4] at m4
    rw [c2'] at m3
    unfold tdg at m3
    rw [d3, d4, if_neg (show ¬ (1 : Nat) = 0 by decide)] at m3
    by_cases q : y = a ∨ y = 8 + e2
    · rw [if_pos q] at m3 ⊢
      have := m4 q
      omega
    · rw [if_neg q] at m3 ⊢
      omega
  refine ⟨c1, c2', fun p hp => ?_, fun a2 e3 ha2 he3 => ?_, fun i hi1 hi2 a2 e3 ha2 he3 hx => ?_, fun y hy => ?_, fun q => by omega, fun _ e3 he3 => ?_, ?_⟩
  · by_cases q : p = 10 * a + e2
    · rw [q, fli_s, c2']; exact ⟨by omega, fun z => by omega⟩
    · rw [fli_n q]
      by_cases q2 : p = 10 * a + e
      · rw [q2, fli_s, c1]; exact ⟨by omega, fun _ => ⟨by omega, by omega, k1.2.2.2.1⟩⟩
      · rw [fli_n q2]; exact g1 p hp
  · by_cases q : 10 * a2 + e3 = 10 * a + e2
    · right
      rw [q, show a2 = a by omega, show e3 = e2 by omega]
      exact ⟨k2.2.2.2.2.2.2.1, by have := k2.2.2.2.2.2.2.2.2; omega⟩
    · rw [fli_n q]
      by_cases q2 : 10 * a2 + e3 = 10 * a + e
      · right
        rw [q2, show a2 = a by omega, show e3 = e by omega]
        exact ⟨k1.2.2.2.1, k1.2.2.2.2.2⟩
      · rw [fli_n q2]; exact g2 a2 e3 ha2 he3
  · have no : a2 ≠ a := by
      intro q
      subst q
      have : i = j + 1 ∨ i + 1 = j + 1 := by
        rcases hx with ⟨z1, z2⟩ | ⟨z1, z2⟩
        · exact Or.inr (w3 (i + 1) (j + 1) (by omega) (by omega) (by rw [z2, xa]))
        · exact Or.inl (w3 i (j + 1) (by omega) (by omega) (by rw [z1, xa]))
      omega
    rw [fli_n (by omega), fli_n (by omega)]
    exact g3 i (by omega) hi2 a2 e3 ha2 he3 hx
  · have m := ct y (by omega)
    have := g4 y hy
    by_cases q : y = a
    · rw [if_pos (Or.inl q), if_pos (Or.inl q)] at m; omega
    · rw [if_neg (by omega), if_neg (by omega)] at m; omega
  · have m := ct (8 + e3) (by omega)
    rw [xe2]
    by_cases j0 : j = 0
    · have z := g5 j0 e3 he3
      subst j0
      rw [xe]
      refine ⟨fun q => ?_, fun q => ?_, fun q1 q2 => ?_⟩
      · rw [if_pos (Or.inr q), if_neg (by omega)] at m; omega
      · rw [if_neg (by omega), if_pos (Or.inr q)] at m; omega
      · rw [if_neg (by omega), if_neg (by omega)] at m; omega
    · have z := g6 (by omega) e3 he3
      rw [xe] at z
      have n0 : x 0 ≠ 8 + e2 := fun q => by have := w3 0 (j + 2) (by omega) (by omega) (by rw [q, xe2]); omega
      have n1 : x 0 ≠ 8 + e := fun q => by have := w3 0 j (by omega) (by omega) (by rw [q, xe]); omega
      refine ⟨fun q => ?_, fun q => ?_, fun q1 q2 => ?_⟩
      · rw [if_pos (Or.inr q), if_neg (by omega)] at m
        have := z.2.2 (by omega) (by omega); omega
      · rw [if_neg (by omega), if_neg (by omega)] at m
        have := z.2.1 q; omega
      · by_cases q3 : 8 + e3 = 8 + e
        · rw [if_neg (by omega), if_pos (Or.inr q3)] at m
          have := z.1 q3; omega
        · rw [if_neg (by omega), if_neg (by omega)] at m
          have := z.2.2 q3 q2; omega
  · rw [totN_fli (by omega) (by omega), totN_fli (by omega) (by omega), c1, c2', g7, xe, xe2]
    have z1 := k1.2.2.2.2.2
    have z2 := k2.2.2.2.2.2.2.2.2
    simp
    omega
set_option maxHeartbeats 2000000 in
theorem Gm.done (hA : A ≤ 8) (hB : B ≤ 10) (Wm : WM A B w fx mt al ψ fr x n) (G : Gm A B w fx mt ψ x n j c) (hj : j + 2 = n) {a e e0 : Nat} (xa : x (j + 1) = a) (xe : x j = 8 + e) (x0 : x 0 = 8 + e0) (a8 : a < A) (eB : e < B) (e0B : e0 < B) (ha : 0 < al a) {el : Nat → Nat} {L : Int} (hel : 0 < el e0) (H : PV A B w fx mt al el ψ L) (hL : ψ (8 + e0) = L) :
    c (10 * a + e) = 0 ∧ (∀ p, p < 80 → fli c (10 * a + e) p ≤ 1 ∧ (fli c (10 * a + e) p = 1 → okM A B fx p)) ∧ (∀ y, y < 8 → cnt (fli c (10 * a + e)) y = cnt mt y + (if y = a then 1 else 0)) ∧ (∀ y, y < 10 → cnt (fli c (10 * a + e)) (8 + y) = cnt mt (8 + y) + (if y = e0 then 1 else 0)) ∧ totN w (fli c (10 * a + e)) = totN w mt + L
    ∧ PV A B w fx (fli c (10 * a + e)) (fun y => if y = a then al y - 1 else al y) (fun y => if y = e0 then el y - 1 else el y) ψ L := by
  obtain ⟨w1, w2, w3, w4, w5⟩ := Wm
  obtain ⟨g1, g2, g3, g4, g5, g6, g7⟩ := G
  have k1 := w4 j (by omega) (by omega)
  rw [xa, xe, show 8 + e - 8 = e by omega] at k1
  have pa : ψ a = 0 := by
    rcases w5 (j + 1) (by omega) (by omega) with q | q
    · rw [xa] at q; exact q.2.2
    · rw [xa] at q; omega
  have c1 : c (10 * a + e) = 0 := by rw [g3 j (Nat.le_refl _) (by omega) a e (by omega) (by omega) (Or.inl ⟨xe, xa⟩)]; exact k1.2.2.2.2.1
  have d1 : (10 * a + e) / 10 = a := by omega
  have d2 : (10 * a + e) % 10 = e := by omega
  have v1 : ∀ y, y < 18 → cnt (fli c (10 * a + e)) y = cnt c y + (if y = a ∨ y = 8 + e then 1 else 0) := by
    intro y hy
    have m1 := (cnt_fli (c := c) (p := 10 * a + e) (n := y) (by omega) hy (by omega)).1
    rw [m1, c1]; unfold tdg; rw [d1, d2, if_pos rfl]
    by_cases q : y = a ∨ y = 8 + e
    · rw [if_pos q, if_pos q]
    · rw [if_neg q, if_neg q]; rfl
  have vA : ∀ y, y < 8 → cnt (fli c (10 * a + e)) y = cnt mt y + (if y = a then 1 else 0) := by
    intro y hy
    rw [v1 y (by omega), g4 y hy]
    by_cases q : y = a
    · rw [if_pos (Or.inl q), if_pos q]
    · rw [if_neg (by omega), if_neg q]
  have vE : ∀ y, y < 10 → cnt (fli c (10 * a + e)) (8 + y) = cnt mt (8 + y) + (if y = e0 then 1 else 0) := by
    intro y hy
    rw [v1 (8 + y) (by omega)]
    by_cases j0 : j = 0
    · have z := g5 j0 y hy
      subst j0
      have ee : e = e0 := by omega
      subst ee
      rw [z]
      by_cases q : y = e
      · rw [if_pos (Or.inr (by omega)), if_pos q]
      · rw [if_neg (by omega), if_neg q]
    · have z := g6 (by omega) y hy
      rw [xe, x0] at z
      have ne : e ≠ e0 := fun q => by have := w3 0 j (by omega) (by omega) (by rw [x0, xe, q]); omega
      by_cases q : y = e
      · have := z.1 (by omega)
        rw [if_pos (Or.inr (by omega)), if_neg (by omega)]; omega
      · by_cases q2 : y = e0
        · have := z.2.1 (by omega)
          rw [if_neg (by omega), if_pos q2]; omega
        · have := z.2.2 (by omega) (by omega)
          rw [if_neg (by omega), if_neg q2]; omega
  refine ⟨c1, fun p hp => ?_, vA, vE, ?_, H.1, H.2.1, fun a2 e3 ha2 he3 hf => ?_, fun y hy => ?_, fun y hy => ?_⟩
  · by_cases q2 : p = 10 * a + e
    · rw [q2, fli_s, c1]; exact ⟨by omega, fun _ => ⟨by omega, by omega, k1.2.2.2.1⟩⟩
    · rw [fli_n q2]; exact g1 p hp
  · rw [totN_fli (by omega) (by omega), c1, g7, xe, x0]
    have z1 := k1.2.2.2.2.2
    simp
    omega
  · by_cases q2 : 10 * a2 + e3 = 10 * a + e
    · have t := k1.2.2.2.2.2
      have ea : a2 = a := by omega
      have ee : e3 = e := by omega
      subst ea; subst ee
      exact ⟨fun _ => by omega, fun _ => by omega⟩
    · rw [fli_n q2]
      rcases g2 a2 e3 ha2 he3 with z | z
      · rw [z]; exact H.2.2.1 a2 e3 ha2 he3 hf
      · exact ⟨fun _ => by omega, fun _ => by omega⟩
  · have z := H.2.2.2.1 y hy
    dsimp only
    rw [vA y (by omega)]
    by_cases q : y = a
    · subst q
      rw [if_pos rfl, if_pos rfl]
      exact ⟨fun h => z.1 (by omega), fun _ => by omega⟩
    · rw [if_neg q, if_neg q]; exact z
  · have z := H.2.2.2.2 y hy
    dsimp only
    rw [vE y (by omega)]
    by_cases q : y = e0
    · subst q
      rw [if_pos rfl, if_pos rfl]
      exact ⟨fun h => z.1 (by omega), fun _ => by omega⟩
    · rw [if_neg q, if_neg q]; exact z
end Gms
