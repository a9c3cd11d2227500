/-! ===== the reference lays the table ===== -/
/-- k places are written, one after another -/
def Wr (pos val : Nat → Nat) (k : Nat) (g g0 : Nat → Nat) : Prop := (∀ j, j < k → g (pos j) = val j) ∧ ∀ q, (∀ j, j < k → q ≠ pos j) → g q = g0 q
theorem Wr.nil (pos val g0 : Nat → Nat) : Wr pos val 0 g0 g0 := ⟨fun j hj => by omega, fun _ _ => rfl⟩
theorem Wr.step {pos val : Nat → Nat} {k : Nat} {g g0 : Nat → Nat} (H : Wr pos val k g g0) {p x : Nat} (hp : p = pos k) (hx : x = val k) (hd : ∀ j, j < k → pos j = pos k → val j = val k) : Wr pos val (k + 1) (va_up g p x) g0 := by
  subst hp hx
  refine ⟨fun j hj => ?_, fun q hq => ?_⟩
  · by_cases e : pos j = pos k
    · rw [e, vu_s]
      by_cases e2 : j = k
      · rw [e2]
      · exact (hd j (by omega) e).symm
    · rw [vu_n _ _ e]
      have : j ≠ k := fun z => e (by rw [z])
      exact H.1 j (by omega)
  · rw [vu_n _ _ (hq k (by omega))]; exact H.2 q (fun j hj => hq j (by omega))
def wA (ea ae : Nat → Nat) (a b e0 k : Nat) : Nat := kA ea ae a b e0 (k / 2) - 1
def wE (ea ae : Nat → Nat) (a b e0 k : Nat) : Nat := kE ea ae a b e0 ((k + 1) / 2) - 1
/-- the way has n pairs -/
def NN (ea ae : Nat → Nat) (a b e0 n : Nat) : Prop := (∀ i, kA ea ae a b e0 i ≠ 0 ↔ 2 * i < n) ∧ (∀ i, kE ea ae a b e0 i ≠ 0 ↔ 2 * i < n + 1)
def hr (a b k : Nat) : Nat := if k % 2 = 0 then a else b
section NNs
variable {ea ae : Nat → Nat} {a b e0 n : Nat}
theorem KC.nn0 (K : KC ea ae a b e0) {i : Nat} (h1 : kE ea ae a b e0 i ≠ 0) (h2 : kA ea ae a b e0 i = 0) : NN ea ae a b e0 (2 * i) := by
  have z := KC.ez h2
  refine ⟨fun j => ⟨fun h => ?_, fun h => ?_⟩, fun j => ⟨fun h => ?_, fun h => ?_⟩⟩
  · rcases Nat.lt_or_ge j i with q | q
    · omega
    · exact absurd h2 (K.prev h i q)
  · intro q
    have := K.zE (KC.ez q) i h1; omega
  · have := K.zE z j h; omega
  · intro q
    have := K.zE q i h1; omega
theorem KC.nn1 (K : KC ea ae a b e0) {i : Nat} (h1 : kA ea ae a b e0 i ≠ 0) (h2 : kE ea ae a b e0 (i + 1) = 0) : NN ea ae a b e0 (2 * i + 1) := by
  refine ⟨fun j => ⟨fun h => ?_, fun h => ?_⟩, fun j => ⟨fun h => ?_, fun h => ?_⟩⟩
  · rcases Nat.lt_or_ge j (i + 1) with q | q
    · omega
    · exact absurd (KC.a0 h2) (K.prev h (i + 1) q)
  · exact K.prev h1 j (by omega)
  · have := K.zE h2 j h; omega
  · intro q
    have := K.prev h1 j (by omega)
    exact this (KC.a0 q)
theorem NN.le (N : NN ea ae a b e0 n) (K : KC ea ae a b e0) : n ≤ 16 := by
  rcases Nat.lt_or_ge 16 n with q | q
  · have := K.fin ((N.1 8).mpr (by omega)); omega
  · exact q
theorem NN.bd (N : NN ea ae a b e0 n) (K : KC ea ae a b e0) {k : Nat} (h : k < n) : kA ea ae a b e0 (k / 2) = wA ea ae a b e0 k + 1 ∧ wA ea ae a b e0 k < 8 ∧ kE ea ae a b e0 ((k + 1) / 2) = wE ea ae a b e0 k + 1 ∧ wE ea ae a b e0 k < 10 := by
  have h1 := (N.1 (k / 2)).mpr (by omega)
  have h2 := (N.2 ((k + 1) / 2)).mpr (by omega)
  have r1 := K.rng (k / 2)
  have r2 := K.rng ((k + 1) / 2)
  unfold wA wE; omega
/-- two pairs of the way with one agent at one hour, or one editor, are one -/
theorem NN.dA (N : NN ea ae a b e0 n) (K : KC ea ae a b e0) {j k : Nat} (hj : j < n) (hk : k < n) (h : wA ea ae a b e0 j = wA ea ae a b e0 k) (p : j % 2 = k % 2) : j = k := by
  have b1 := N.bd K hj
  have b2 := N.bd K hk
  have := K.injA (i := j / 2) (j := k / 2) (by omega) (by omega)
  omega
theorem NN.dE (N : NN ea ae a b e0 n) (K : KC ea ae a b e0) {j k : Nat} (hj : j < n) (hk : k < n) (h : wE ea ae a b e0 j = wE ea ae a b e0 k) (p : j % 2 = k % 2) : j = k := by
  have b1 := N.bd K hj
  have b2 := N.bd K hk
  have := K.injE ((j + 1) / 2) ((k + 1) / 2) (by omega) (by omega)
  omega
theorem hr_lt (ha : a < 8) (hb : b < 8) (k : Nat) : hr a b k < 8 := by unfold hr; split <;> omega
theorem hr_e {k : Nat} (h : k % 2 = 0) : hr a b k = a := if_pos h
theorem hr_o {k : Nat} (h : k % 2 ≠ 0) : hr a b k = b := if_neg h
theorem hr_inj (hab : a ≠ b) {j k : Nat} (h : hr a b j = hr a b k) : j % 2 = k % 2 := by
  rcases Nat.eq_zero_or_pos (j % 2) with q | q
  · rcases Nat.eq_zero_or_pos (k % 2) with r | r
    · omega
    · rw [hr_e q, hr_o (by omega)] at h; exact absurd h hab
  · rcases Nat.eq_zero_or_pos (k % 2) with r | r
    · rw [hr_o (by omega), hr_e r] at h; exact absurd h.symm hab
    · omega
theorem way_A (K : KC ea ae a b e0) (hab : a ≠ b) (N : NN ea ae a b e0 n) {g g2 : Nat → Nat} (W2 : Wr (fun k => 8 * wA ea ae a b e0 k + hr a b k) (fun _ => 0) n g2 ea) (W3 : Wr (fun k => 8 * wA ea ae a b e0 k + hr b a k) (fun k => wE ea ae a b e0 k + 1) n g g2) : ∀ q, q < 64 → g q = swp (inA ea ae a b e0) a b ea q := by
  intro q hq
  have ha := K.2.1
  have hb := K.2.2.1
  have un : (∀ j, j < n → wA ea ae a b e0 j ≠ q / 8 ∨ (q % 8 ≠ a ∧ q % 8 ≠ b)) → g q = ea q := fun h => by
    rw [W3.2 q (fun j hj e => ?_), W2.2 q (fun j hj e => ?_)]
    · have e2 : q = 8 * wA ea ae a b e0 j + hr a b j := e
      have := hr_lt ha hb j
      have z : hr a b j = a ∨ hr a b j = b := by unfold hr; split <;> omega
      have := h j hj; omega
    · have e2 : q = 8 * wA ea ae a b e0 j + hr b a j := e
      have := hr_lt hb ha j
      have z : hr b a j = a ∨ hr b a j = b := by unfold hr; split <;> omega
      have := h j hj; omega
  by_cases P : inA ea ae a b e0 (q / 8)
  · obtain ⟨i, hi⟩ := P
    have i2 := (N.1 i).mp (by omega)
    have bi := N.bd K i2
    rw [show 2 * i / 2 = i by omega, show (2 * i + 1) / 2 = i by omega] at bi
    have wi : wA ea ae a b e0 (2 * i) = q / 8 := by omega
    have bk := K.backA hi
    by_cases q1 : q % 8 = a
    · have e : q = 8 * (q / 8) + a := by omega
      have r : swp (inA ea ae a b e0) a b ea q = kE ea ae a b e0 (i + 1) := by
        rw [e, swp_a ha ⟨i, hi⟩, kE_s, if_neg (by omega), hi]; rfl
      rw [r]
      rcases Nat.lt_or_ge (2 * i + 1) n with k | k
      · have b2 := N.bd K k
        rw [show (2 * i + 1) / 2 = i by omega, show (2 * i + 1 + 1) / 2 = i + 1 by omega] at b2
        have := W3.1 (2 * i + 1) k
        dsimp only at this
        rw [hr_o (by omega), show wA ea ae a b e0 (2 * i + 1) = q / 8 by omega, ← e] at this
        omega
      · have kz : kE ea ae a b e0 (i + 1) = 0 := by
          rcases Nat.eq_zero_or_pos (kE ea ae a b e0 (i + 1)) with z | z
          · exact z
          · have := (N.2 (i + 1)).mp (by omega); omega
        rw [kz, W3.2 q (fun j hj e2 => ?_)]
        · have := W2.1 (2 * i) i2
          dsimp only at this
          rw [hr_e (by omega), wi, ← e] at this
          exact this
        · have e3 : q = 8 * wA ea ae a b e0 j + hr b a j := e2
          have := hr_lt hb ha j
          rcases Nat.eq_zero_or_pos (j % 2) with z | z
          · rw [hr_e z] at e3; omega
          · have bj := N.bd K hj
            have := K.injA (i := j / 2) (j := i) (by omega) (by omega)
            omega
    · by_cases q2 : q % 8 = b
      · have e : q = 8 * (q / 8) + b := by omega
        rw [e, swp_b hab hb ⟨i, hi⟩, ← e, bk.2.1]
        have := W3.1 (2 * i) i2
        dsimp only at this
        rw [hr_e (by omega), wi, ← e] at this
        omega
      · rw [swp_o q1 q2]; exact un (fun j hj => Or.inr ⟨q1, q2⟩)
  · rw [swp_n P]; exact un (fun j hj => Or.inl (fun e => P ⟨j / 2, by have := N.bd K hj; omega⟩))
theorem way_E (K : KC ea ae a b e0) (hab : a ≠ b) (N : NN ea ae a b e0 n) {g g2 : Nat → Nat} (W2 : Wr (fun k => 8 * wE ea ae a b e0 k + hr a b k) (fun _ => 0) n g2 ae) (W3 : Wr (fun k => 8 * wE ea ae a b e0 k + hr b a k) (fun k => wA ea ae a b e0 k + 1) n g g2) : ∀ q, q < 80 → g q = swp (inE ea ae a b e0) a b ae q := by
  intro q hq
  have ha := K.2.1
  have hb := K.2.2.1
  have h0 := K.2.2.2.2
  have un : (∀ j, j < n → wE ea ae a b e0 j ≠ q / 8 ∨ (q % 8 ≠ a ∧ q % 8 ≠ b)) → g q = ae q := fun h => by
    rw [W3.2 q (fun j hj e => ?_), W2.2 q (fun j hj e => ?_)]
    · have e2 : q = 8 * wE ea ae a b e0 j + hr a b j := e
      have := hr_lt ha hb j
      have z : hr a b j = a ∨ hr a b j = b := by unfold hr; split <;> omega
      have := h j hj; omega
    · have e2 : q = 8 * wE ea ae a b e0 j + hr b a j := e
      have := hr_lt hb ha j
      have z : hr b a j = a ∨ hr b a j = b := by unfold hr; split <;> omega
      have := h j hj; omega
  by_cases P : inE ea ae a b e0 (q / 8)
  · obtain ⟨i, hi⟩ := P
    have i1 := (N.2 i).mp (by omega)
    -- the place of this editor in a pair of the way
    have pl : ∀ j, j < n → wE ea ae a b e0 j = q / 8 → (j + 1) / 2 = i := fun j hj e => K.injE _ _ (by have := N.bd K hj; omega) (by have := N.bd K hj; omega)
    by_cases q1 : q % 8 = a
    · have e : q = 8 * (q / 8) + a := by omega
      rw [(congrArg (swp (inE ea ae a b e0) a b ae) e).trans (swp_a ha ⟨i, hi⟩)]
      cases i with
      | zero =>
        have e0q : e0 = q / 8 := by have : e0 + 1 = q / 8 + 1 := hi; omega
        rw [← e0q, h0, W3.2 q (fun j hj e2 => ?_)]
        · rcases Nat.eq_zero_or_pos n with z | z
          · rw [W2.2 q (fun j hj => by omega)]
            have k0 : kA ea ae a b e0 0 = 0 := by
              rcases Nat.eq_zero_or_pos (kA ea ae a b e0 0) with y | y
              · exact y
              · have := (N.1 0).mp (by omega); omega
            rw [kA_d, if_neg (by rw [hi]; omega), hi] at k0
            rw [e]; exact k0
          · have := W2.1 0 z
            dsimp only at this
            have b0 := N.bd K z
            have w0 : wE ea ae a b e0 0 = q / 8 := by have : kE ea ae a b e0 0 = e0 + 1 := rfl; rw [show (0 + 1) / 2 = 0 by omega] at b0; omega
            rw [hr_e (by omega), w0, ← e] at this
            exact this
        · have e3 : q = 8 * wE ea ae a b e0 j + hr b a j := e2
          have := hr_lt hb ha j
          have := pl j hj (by omega)
          rcases Nat.eq_zero_or_pos (j % 2) with z | z
          · rw [hr_e z] at e3; omega
          · omega
      | succ i =>
        have bk := K.backE hi
        have b2 := N.bd K (show 2 * i + 1 < n by omega)
        rw [show (2 * i + 1) / 2 = i by omega, show (2 * i + 1 + 1) / 2 = i + 1 by omega] at b2
        rw [bk.2.1]
        have := W3.1 (2 * i + 1) (by omega)
        dsimp only at this
        rw [hr_o (by omega), show wE ea ae a b e0 (2 * i + 1) = q / 8 by omega, ← e] at this
        omega
    · by_cases q2 : q % 8 = b
      · have e : q = 8 * (q / 8) + b := by omega
        have ka : ae (8 * (q / 8) + a) = kA ea ae a b e0 i := by rw [kA_d, if_neg (by omega), hi]; rfl
        rw [(congrArg (swp (inE ea ae a b e0) a b ae) e).trans (swp_b hab hb ⟨i, hi⟩), ka]
        rcases Nat.lt_or_ge (2 * i) n with k | k
        · have b2 := N.bd K k
          rw [show (2 * i) / 2 = i by omega, show (2 * i + 1) / 2 = i by omega] at b2
          have := W3.1 (2 * i) k
          dsimp only at this
          rw [hr_e (by omega), show wE ea ae a b e0 (2 * i) = q / 8 by omega, ← e] at this
          omega
        · have kz : kA ea ae a b e0 i = 0 := by
            rcases Nat.eq_zero_or_pos (kA ea ae a b e0 i) with z | z
            · exact z
            · have := (N.1 i).mp (by omega); omega
          rw [kz, W3.2 q (fun j hj e2 => ?_)]
          · cases i with
            | zero =>
              have e0q : e0 = q / 8 := by have : e0 + 1 = q / 8 + 1 := hi; omega
              rw [W2.2 q (fun j hj => by omega), e, ← e0q]; exact h0
            | succ i =>
              have b2 := N.bd K (show 2 * i + 1 < n by omega)
              rw [show (2 * i + 1 + 1) / 2 = i + 1 by omega] at b2
              have := W2.1 (2 * i + 1) (by omega)
              dsimp only at this
              rw [hr_o (by omega), show wE ea ae a b e0 (2 * i + 1) = q / 8 by omega, ← e] at this
              exact this
          · have e3 : q = 8 * wE ea ae a b e0 j + hr b a j := e2
            have := hr_lt hb ha j
            have := pl j hj (by omega)
            rcases Nat.eq_zero_or_pos (j % 2) with z | z
            · omega
            · rw [hr_o (by omega)] at e3; omega
      · rw [swp_o q1 q2]; exact un (fun j hj => Or.inr ⟨q1, q2⟩)
  · rw [swp_n P]; exact un (fun j hj => Or.inl (fun e => P ⟨(j + 1) / 2, by have := N.bd K hj; omega⟩))
end NNs
