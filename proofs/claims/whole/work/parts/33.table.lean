/-! ===== the table of half hours: pure ===== -/
def vI (x : Nat) : Int32 := nI x - 1
theorem vI_toInt {x : Nat} (h : x < 1000) : (vI x).toInt = (x : Int) - 1 := pred_T h
theorem vI_s (x : Nat) : vI (x + 1) = nI x := nI_pred x
theorem vI_0 : vI 0 = -1 := by decide
theorem vI_pos {x : Nat} (h : x ≠ 0) : vI x = nI (x - 1) := by
  have := vI_s (x - 1)
  rwa [show x - 1 + 1 = x by omega] at this
/-- the first hour below n at which g is 0, or n -/
def ff (g : Nat → Nat) : Nat → Nat
  | 0 => 0
  | n + 1 => if ff g n < n then ff g n else if g n = 0 then n else n + 1
theorem ff_sp (g : Nat → Nat) : ∀ n, ff g n ≤ n ∧ (ff g n < n → g (ff g n) = 0) ∧ ∀ k, k < ff g n → g k ≠ 0 := by
  intro n
  induction n with
  | zero => exact ⟨Nat.le_refl _, fun h => absurd h (Nat.lt_irrefl _), fun k hk => absurd hk (Nat.not_lt_zero _)⟩
  | succ n ih =>
    obtain ⟨i1, i2, i3⟩ := ih
    show (if ff g n < n then ff g n else if g n = 0 then n else n + 1) ≤ n + 1 ∧ ((if ff g n < n then ff g n else if g n = 0 then n else n + 1) < n + 1 → g (if ff g n < n then ff g n else if g n = 0 then n else n + 1) = 0) ∧ ∀ k, k < (if ff g n < n then ff g n else if g n = 0 then n else n + 1) → g k ≠ 0
    by_cases q : ff g n < n
    · rw [if_pos q]; exact ⟨by omega, fun _ => i2 q, i3⟩
    · rw [if_neg q]
      have e : ff g n = n := by omega
      by_cases r : g n = 0
      · rw [if_pos r]; exact ⟨by omega, fun _ => r, fun k hk => i3 k (by omega)⟩
      · rw [if_neg r]
        refine ⟨Nat.le_refl _, fun h => by omega, fun k hk => ?_⟩
        by_cases z : k = n
        · rw [z]; exact r
        · exact i3 k (by omega)
theorem ff_eq {g : Nat → Nat} {n k : Nat} (h1 : k < n) (h2 : g k = 0) (h3 : ∀ j, j < k → g j ≠ 0) : ff g n = k := by
  obtain ⟨s1, s2, s3⟩ := ff_sp g n
  rcases Nat.lt_trichotomy (ff g n) k with q | q | q
  · exact absurd (s2 (by omega)) (h3 _ q)
  · exact q
  · exact absurd h2 (s3 k q)
theorem ff_none {g : Nat → Nat} {n : Nat} (h : ∀ j, j < n → g j ≠ 0) : ff g n = n := by
  obtain ⟨s1, s2, s3⟩ := ff_sp g n
  rcases Nat.lt_or_ge (ff g n) n with q | q
  · exact absurd (s2 q) (h _ q)
  · omega
/-- the chain: editors and agents in turn, each one more than its number, 0 when it has ended -/
def kA0 (ae : Nat → Nat) (a c : Nat) : Nat := if c = 0 then 0 else ae (8 * (c - 1) + a)
def kE (ea ae : Nat → Nat) (a b e0 : Nat) : Nat → Nat
  | 0 => e0 + 1
  | i + 1 => if kA0 ae a (kE ea ae a b e0 i) = 0 then 0 else ea (8 * (kA0 ae a (kE ea ae a b e0 i) - 1) + b)
def kA (ea ae : Nat → Nat) (a b e0 i : Nat) : Nat := kA0 ae a (kE ea ae a b e0 i)
theorem kE_s (ea ae : Nat → Nat) (a b e0 i : Nat) : kE ea ae a b e0 (i + 1) = if kA ea ae a b e0 i = 0 then 0 else ea (8 * (kA ea ae a b e0 i - 1) + b) := rfl
theorem kA_d (ea ae : Nat → Nat) (a b e0 i : Nat) : kA ea ae a b e0 i = if kE ea ae a b e0 i = 0 then 0 else ae (8 * (kE ea ae a b e0 i - 1) + a) := rfl
/-- both sides of the table say the same -/
def TB (ea ae : Nat → Nat) : Prop := (∀ q, q < 64 → ea q ≤ 10) ∧ (∀ q, q < 80 → ae q ≤ 8) ∧ ∀ a e h, a < 8 → e < 10 → h < 8 → (ea (8 * a + h) = e + 1 ↔ ae (8 * e + h) = a + 1)
/-- where a chain begins: at an editor who is free at b -/
def KC (ea ae : Nat → Nat) (a b e0 : Nat) : Prop := TB ea ae ∧ a < 8 ∧ b < 8 ∧ e0 < 10 ∧ ae (8 * e0 + b) = 0
section KCs
variable {ea ae : Nat → Nat} {a b e0 : Nat}
theorem KC.rng (H : KC ea ae a b e0) : ∀ i, kE ea ae a b e0 i ≤ 10 ∧ kA ea ae a b e0 i ≤ 8 := by
  obtain ⟨⟨t1, t2, t3⟩, ha, hb, he, h0⟩ := H
  have step : ∀ i, kE ea ae a b e0 i ≤ 10 → kA ea ae a b e0 i ≤ 8 := by
    intro i h
    rw [kA_d]
    by_cases q : kE ea ae a b e0 i = 0
    · rw [if_pos q]; omega
    · rw [if_neg q]; exact t2 _ (by omega)
  intro i
  induction i with
  | zero => have : kE ea ae a b e0 0 ≤ 10 := by show e0 + 1 ≤ 10; omega
            exact ⟨this, step 0 this⟩
  | succ i ih =>
    have : kE ea ae a b e0 (i + 1) ≤ 10 := by
      rw [kE_s]
      by_cases q : kA ea ae a b e0 i = 0
      · rw [if_pos q]; omega
      · rw [if_neg q]; have := ih.2; exact t1 _ (by omega)
    exact ⟨this, step _ this⟩
theorem KC.backA (H : KC ea ae a b e0) {i v : Nat} (h : kA ea ae a b e0 i = v + 1) : kE ea ae a b e0 i ≠ 0 ∧ ea (8 * v + a) = kE ea ae a b e0 i ∧ ae (8 * (kE ea ae a b e0 i - 1) + a) = v + 1 ∧ v < 8 := by
  have r := H.rng i
  obtain ⟨⟨t1, t2, t3⟩, ha, hb, he, h0⟩ := H
  have hv : v < 8 := by omega
  rw [kA_d] at h
  by_cases q : kE ea ae a b e0 i = 0
  · rw [if_pos q] at h; omega
  · rw [if_neg q] at h
    refine ⟨q, ?_, h, hv⟩
    have := (t3 v (kE ea ae a b e0 i - 1) a hv (by omega) ha).mpr h
    omega
theorem KC.backE (H : KC ea ae a b e0) {i e : Nat} (h : kE ea ae a b e0 (i + 1) = e + 1) : kA ea ae a b e0 i ≠ 0 ∧ ae (8 * e + b) = kA ea ae a b e0 i ∧ ea (8 * (kA ea ae a b e0 i - 1) + b) = e + 1 ∧ e < 10 := by
  have r := H.rng i
  have r2 := H.rng (i + 1)
  obtain ⟨⟨t1, t2, t3⟩, ha, hb, he, h0⟩ := H
  rw [kE_s] at h
  by_cases q : kA ea ae a b e0 i = 0
  · rw [if_pos q] at h; omega
  · rw [if_neg q] at h
    have he10 : e < 10 := by have := t1 (8 * (kA ea ae a b e0 i - 1) + b) (by omega); omega
    refine ⟨q, ?_, h, he10⟩
    have := (t3 (kA ea ae a b e0 i - 1) e b (by omega) he10 hb).mp h
    omega
theorem KC.injE (H : KC ea ae a b e0) : ∀ i j, kE ea ae a b e0 i = kE ea ae a b e0 j → kE ea ae a b e0 i ≠ 0 → i = j := by
  have z0 : ∀ j, kE ea ae a b e0 (j + 1) = e0 + 1 → False := by
    intro j h
    have := H.backE h
    rw [H.2.2.2.2] at this
    exact this.1 this.2.1.symm
  intro i
  induction i with
  | zero =>
    intro j h _
    cases j with
    | zero => rfl
    | succ j => exact (z0 j h.symm).elim
  | succ i ih =>
    intro j h h2
    cases j with
    | zero => exact (z0 i h).elim
    | succ j =>
      obtain ⟨e, he⟩ : ∃ e, kE ea ae a b e0 (i + 1) = e + 1 := ⟨kE ea ae a b e0 (i + 1) - 1, by omega⟩
      have b1 := H.backE he
      have b2 := H.backE (h ▸ he)
      obtain ⟨v, hv⟩ : ∃ v, kA ea ae a b e0 i = v + 1 := ⟨kA ea ae a b e0 i - 1, by omega⟩
      have hv2 : kA ea ae a b e0 j = v + 1 := by rw [← b2.2.1, b1.2.1]; exact hv
      have c1 := H.backA hv
      have c2 := H.backA hv2
      rw [ih j (by rw [← c1.2.1, c2.2.1]) c1.1]
theorem KC.injA (H : KC ea ae a b e0) {i j : Nat} (h : kA ea ae a b e0 i = kA ea ae a b e0 j) (h2 : kA ea ae a b e0 i ≠ 0) : i = j := by
  obtain ⟨v, hv⟩ : ∃ v, kA ea ae a b e0 i = v + 1 := ⟨kA ea ae a b e0 i - 1, by omega⟩
  have c1 := H.backA hv
  have c2 := H.backA (h ▸ hv)
  exact H.injE i j (by rw [← c1.2.1, c2.2.1]) c1.1
theorem KC.prev (H : KC ea ae a b e0) {i : Nat} (h : kA ea ae a b e0 i ≠ 0) : ∀ j, j ≤ i → kA ea ae a b e0 j ≠ 0 := by
  intro j hj
  obtain ⟨d, rfl⟩ : ∃ d, i = j + d := ⟨i - j, by omega⟩
  clear hj
  induction d with
  | zero => exact h
  | succ d ih =>
    refine ih (fun q => h ?_)
    rw [kA_d, show j + (d + 1) = (j + d) + 1 by omega, kE_s, if_pos q, if_pos rfl]
theorem KC.fin (H : KC ea ae a b e0) {i : Nat} (h : kA ea ae a b e0 i ≠ 0) : i < 8 := by
  rcases Nat.lt_or_ge i 8 with q | q
  · exact q
  · exfalso
    have : 9 ≤ 8 := inj_le (fun j => kA ea ae a b e0 j - 1) (fun j hj => by have := (H.rng j).2; have := H.prev h j (by omega); show kA ea ae a b e0 j - 1 < 8; omega) (fun j k hj hk e => by
      have n1 := H.prev h j (by omega)
      have n2 := H.prev h k (by omega)
      have e2 : kA ea ae a b e0 j - 1 = kA ea ae a b e0 k - 1 := e
      exact H.injA (by omega) n1)
    omega
/-- hours a and b are changed in the rows of P -/
noncomputable def swp (P : Nat → Prop) (a b : Nat) (f : Nat → Nat) : Nat → Nat := fun q => @ite Nat (P (q / 8)) (Classical.propDecidable _) (if q % 8 = a then f (8 * (q / 8) + b) else if q % 8 = b then f (8 * (q / 8) + a) else f q) (f q)
theorem swp_n {P : Nat → Prop} {f : Nat → Nat} {q : Nat} (h : ¬ P (q / 8)) : swp P a b f q = f q := by unfold swp; rw [if_neg h]
theorem swp_o {P : Nat → Prop} {f : Nat → Nat} {q : Nat} (h1 : q % 8 ≠ a) (h2 : q % 8 ≠ b) : swp P a b f q = f q := by
  unfold swp; rw [if_neg h1, if_neg h2]
  by_cases h : P (q / 8)
  · rw [if_pos h]
  · rw [if_neg h]
theorem swp_a {P : Nat → Prop} {f : Nat → Nat} {v : Nat} (ha : a < 8) (h : P v) : swp P a b f (8 * v + a) = f (8 * v + b) := by
  unfold swp; rw [show (8 * v + a) / 8 = v by omega, show (8 * v + a) % 8 = a by omega, if_pos h, if_pos rfl]
theorem swp_b {P : Nat → Prop} {f : Nat → Nat} {v : Nat} (hab : a ≠ b) (hb : b < 8) (h : P v) : swp P a b f (8 * v + b) = f (8 * v + a) := by
  unfold swp; rw [show (8 * v + b) / 8 = v by omega, show (8 * v + b) % 8 = b by omega, if_pos h, if_neg (Ne.symm hab), if_pos rfl]
def inE (ea ae : Nat → Nat) (a b e0 : Nat) : Nat → Prop := fun v => ∃ i, kE ea ae a b e0 i = v + 1
def inA (ea ae : Nat → Nat) (a b e0 : Nat) : Nat → Prop := fun v => ∃ i, kA ea ae a b e0 i = v + 1
/-- along an hour of the chain both are in it or none -/
theorem KC.same (H : KC ea ae a b e0) {v e h : Nat} (hv : v < 8) (he : e < 10) (hh : h = a ∨ h = b) (k : ea (8 * v + h) = e + 1) : inA ea ae a b e0 v ↔ inE ea ae a b e0 e := by
  have H0 := H
  obtain ⟨⟨t1, t2, t3⟩, ha, hb, he0, h0⟩ := H
  have k2 := (t3 v e h hv he (by omega)).mp k
  constructor
  · rintro ⟨i, hi⟩
    have z := H0.backA hi
    rcases hh with rfl | rfl
    · exact ⟨i, by rw [← z.2.1]; exact k⟩
    · refine ⟨i + 1, ?_⟩
      rw [kE_s, if_neg (by omega), hi]; exact k
  · rintro ⟨i, hi⟩
    rcases hh with rfl | rfl
    · refine ⟨i, ?_⟩
      rw [kA_d, if_neg (by omega), hi]; exact k2
    · cases i with
      | zero =>
        have : e0 = e := by have : e0 + 1 = e + 1 := hi; omega
        rw [this, k2] at h0; omega
      | succ i => have z := H0.backE hi; exact ⟨i, by rw [← z.2.1]; exact k2⟩
theorem KC.swap (H : KC ea ae a b e0) (hab : a ≠ b) : TB (swp (inA ea ae a b e0) a b ea) (swp (inE ea ae a b e0) a b ae) := by
  have H0 := H
  obtain ⟨⟨t1, t2, t3⟩, ha, hb, he0, h0⟩ := H
  refine ⟨fun q hq => ?_, fun q hq => ?_, fun v e h hv he hh => ?_⟩
  · unfold swp; split
    · split
      · exact t1 _ (by omega)
      · split
        · exact t1 _ (by omega)
        · exact t1 _ hq
    · exact t1 _ hq
  · unfold swp; split
    · split
      · exact t2 _ (by omega)
      · split
        · exact t2 _ (by omega)
        · exact t2 _ hq
    · exact t2 _ hq
  · by_cases h1 : h = a
    · subst h1
      by_cases p1 : inA ea ae h b e0 v
      · rw [swp_a ha p1]
        by_cases p2 : inE ea ae h b e0 e
        · rw [swp_a ha p2]; exact t3 v e b hv he hb
        · rw [swp_n (by rw [show (8 * e + h) / 8 = e by omega]; exact p2)]
          exact ⟨fun k => absurd ((H0.same hv he (Or.inr rfl) k).mp p1) p2, fun k => absurd ((H0.same hv he (Or.inl rfl) ((t3 v e h hv he ha).mpr k)).mp p1) p2⟩
      · rw [swp_n (by rw [show (8 * v + h) / 8 = v by omega]; exact p1)]
        by_cases p2 : inE ea ae h b e0 e
        · rw [swp_a ha p2]
          exact ⟨fun k => absurd ((H0.same hv he (Or.inl rfl) k).mpr p2) p1, fun k => absurd ((H0.same hv he (Or.inr rfl) ((t3 v e b hv he hb).mpr k)).mpr p2) p1⟩
        · rw [swp_n (by rw [show (8 * e + h) / 8 = e by omega]; exact p2)]; exact t3 v e h hv he hh
    · by_cases h2 : h = b
      · subst h2
        by_cases p1 : inA ea ae a h e0 v
        · rw [swp_b hab hb p1]
          by_cases p2 : inE ea ae a h e0 e
          · rw [swp_b hab hb p2]; exact t3 v e a hv he ha
          · rw [swp_n (by rw [show (8 * e + h) / 8 = e by omega]; exact p2)]
            exact ⟨fun k => absurd ((H0.same hv he (Or.inl rfl) k).mp p1) p2, fun k => absurd ((H0.same hv he (Or.inr rfl) ((t3 v e h hv he hb).mpr k)).mp p1) p2⟩
        · rw [swp_n (by rw [show (8 * v + h) / 8 = v by omega]; exact p1)]
          by_cases p2 : inE ea ae a h e0 e
          · rw [swp_b hab hb p2]
            exact ⟨fun k => absurd ((H0.same hv he (Or.inr rfl) k).mpr p2) p1, fun k => absurd ((H0.same hv he (Or.inl rfl) ((t3 v e a hv he ha).mpr k)).mpr p2) p1⟩
          · rw [swp_n (by rw [show (8 * e + h) / 8 = e by omega]; exact p2)]; exact t3 v e h hv he hh
      · rw [swp_o (by omega) (by omega), swp_o (by omega) (by omega)]; exact t3 v e h hv he hh
end KCs
/-- the table after one more pair is laid -/
noncomputable def layF (h : Nat) (t : (Nat → Nat) × (Nat → Nat)) (ag ed : Nat) : (Nat → Nat) × (Nat → Nat) :=
  if ff (fun k => t.1 (8 * ag + k) + t.2 (8 * ed + k)) h < h then (va_up t.1 (8 * ag + ff (fun k => t.1 (8 * ag + k) + t.2 (8 * ed + k)) h) (ed + 1), va_up t.2 (8 * ed + ff (fun k => t.1 (8 * ag + k) + t.2 (8 * ed + k)) h) (ag + 1))
  else (va_up (swp (inA t.1 t.2 (ff (fun k => t.1 (8 * ag + k)) h) (ff (fun k => t.2 (8 * ed + k)) h) ed) (ff (fun k => t.1 (8 * ag + k)) h) (ff (fun k => t.2 (8 * ed + k)) h) t.1) (8 * ag + ff (fun k => t.1 (8 * ag + k)) h) (ed + 1),
    va_up (swp (inE t.1 t.2 (ff (fun k => t.1 (8 * ag + k)) h) (ff (fun k => t.2 (8 * ed + k)) h) ed) (ff (fun k => t.1 (8 * ag + k)) h) (ff (fun k => t.2 (8 * ed + k)) h) t.2) (8 * ed + ff (fun k => t.1 (8 * ag + k)) h) (ag + 1))
/-- the table of the pairs of c below p, laid one after another -/
noncomputable def TF (h : Nat) (c : Nat → Nat) : Nat → (Nat → Nat) × (Nat → Nat)
  | 0 => (fun _ => 0, fun _ => 0)
  | p + 1 => if c p = 1 then layF h (TF h c p) (p / 10) (p % 10) else TF h c p
/-- what holds of it -/
def TI (h : Nat) (c : Nat → Nat) (p : Nat) (ea ae : Nat → Nat) : Prop := TB ea ae ∧ (∀ a k e, a < 8 → k < 8 → ea (8 * a + k) = e + 1 → k < h ∧ c (10 * a + e) = 1 ∧ 10 * a + e < p) ∧ (∀ a k k2 e, a < 8 → k < 8 → k2 < 8 → ea (8 * a + k) = e + 1 → ea (8 * a + k2) = e + 1 → k = k2)
theorem smN_inj {n : Nat} : ∀ (k : Nat) (f g : Nat → Nat), (∀ i, i < k → g i < n ∧ 1 ≤ f (g i)) → (∀ i j, i < k → j < k → g i = g j → i = j) → k ≤ smN f n := by
  intro k
  induction k with
  | zero => intro f g _ _; exact Nat.zero_le _
  | succ k ih =>
    intro f g h1 h2
    have i1 := ih (fun x => if x = g k then f x - 1 else f x) g (fun i hi => ⟨(h1 i (by omega)).1, by
      have : g i ≠ g k := fun e => by have := h2 i k (by omega) (by omega) e; omega
      show 1 ≤ (if g i = g k then f (g i) - 1 else f (g i))
      rw [if_neg this]; exact (h1 i (by omega)).2⟩) (fun i j hi hj e => h2 i j (by omega) (by omega) e)
    have q := smN_at (f := fun x => if x = g k then f x - 1 else f x) (g := f) (n := n) (j := g k) (h1 k (by omega)).1 (fun x _ hx => if_neg hx)
    rw [if_pos rfl] at q
    have := (h1 k (by omega)).2
    omega
section TIs
variable {h p : Nat} {c ea ae : Nat → Nat}
theorem TI.freeA (H : TI h c p ea ae) (h8 : h ≤ 8) (hp : p < 80) (hc : c p = 1) (hn : cnt c (p / 10) ≤ h) : ff (fun k => ea (8 * (p / 10) + k)) h < h := by
  obtain ⟨⟨t1, t2, t3⟩, t4, t5⟩ := H
  obtain ⟨s1, s2, s3⟩ := ff_sp (fun k => ea (8 * (p / 10) + k)) h
  rcases Nat.lt_or_ge (ff (fun k => ea (8 * (p / 10) + k)) h) h with q | q
  · exact q
  · exfalso
    have full : ∀ k, k < h → ∃ e, ea (8 * (p / 10) + k) = e + 1 := fun k hk => ⟨ea (8 * (p / 10) + k) - 1, by have := s3 k (by omega); omega⟩
    have f2 : ∀ k, k < h → c (10 * (p / 10) + (ea (8 * (p / 10) + k) - 1)) = 1 ∧ 10 * (p / 10) + (ea (8 * (p / 10) + k) - 1) < p := fun k hk => by
      obtain ⟨e, he⟩ := full k hk
      have z := t4 (p / 10) k e (by omega) (by omega) he
      rw [he]; exact ⟨z.2.1, by have := z.2.2; omega⟩
    have := smN_inj (n := 10) (h + 1) (fun e => c (10 * (p / 10) + e)) (fun k => if k = h then p % 10 else ea (8 * (p / 10) + k) - 1) (fun i hi => by
      by_cases e : i = h
      · rw [if_pos e]; refine ⟨by omega, ?_⟩; rw [show 10 * (p / 10) + p % 10 = p by omega]; omega
      · rw [if_neg e]; have z := f2 i (by omega); have := t1 (8 * (p / 10) + i) (by omega); exact ⟨by omega, by rw [z.1]; omega⟩) (fun i j hi hj e => by
      by_cases e1 : i = h
      · by_cases e2 : j = h
        · omega
        · rw [if_pos e1, if_neg e2] at e; have := (f2 j (by omega)).2; omega
      · by_cases e2 : j = h
        · rw [if_neg e1, if_pos e2] at e; have := (f2 i (by omega)).2; omega
        · rw [if_neg e1, if_neg e2] at e
          obtain ⟨x, hx⟩ := full i (by omega)
          obtain ⟨y, hy⟩ := full j (by omega)
          exact t5 (p / 10) i j x (by omega) (by omega) (by omega) hx (by omega))
    unfold cnt at hn; rw [if_pos (by omega)] at hn; omega
theorem TI.freeE (H : TI h c p ea ae) (h8 : h ≤ 8) (hp : p < 80) (hc : c p = 1) (hn : cnt c (8 + p % 10) ≤ h) : ff (fun k => ae (8 * (p % 10) + k)) h < h := by
  obtain ⟨⟨t1, t2, t3⟩, t4, t5⟩ := H
  obtain ⟨s1, s2, s3⟩ := ff_sp (fun k => ae (8 * (p % 10) + k)) h
  rcases Nat.lt_or_ge (ff (fun k => ae (8 * (p % 10) + k)) h) h with q | q
  · exact q
  · exfalso
    have full : ∀ k, k < h → ∃ v, v < 8 ∧ ae (8 * (p % 10) + k) = v + 1 := fun k hk => ⟨ae (8 * (p % 10) + k) - 1, by have := s3 k (by omega); have := t2 (8 * (p % 10) + k) (by omega); omega⟩
    have f2 : ∀ k, k < h → ∀ v, v < 8 → ae (8 * (p % 10) + k) = v + 1 → ea (8 * v + k) = p % 10 + 1 ∧ c (10 * v + p % 10) = 1 ∧ 10 * v + p % 10 < p := fun k hk v hv e => by
      have z1 := (t3 v (p % 10) k hv (by omega) (by omega)).mpr e
      have z := t4 v k (p % 10) hv (by omega) z1
      exact ⟨z1, z.2.1, z.2.2⟩
    have := smN_inj (n := 8) (h + 1) (fun v => c (10 * v + p % 10)) (fun k => if k = h then p / 10 else ae (8 * (p % 10) + k) - 1) (fun i hi => by
      by_cases e : i = h
      · rw [if_pos e]; refine ⟨by omega, ?_⟩; rw [show 10 * (p / 10) + p % 10 = p by omega]; omega
      · rw [if_neg e]
        obtain ⟨v, hv, hv2⟩ := full i (by omega)
        have z := f2 i (by omega) v hv hv2
        rw [hv2, show v + 1 - 1 = v by omega]; exact ⟨hv, by omega⟩) (fun i j hi hj e => by
      by_cases e1 : i = h
      · by_cases e2 : j = h
        · omega
        · rw [if_pos e1, if_neg e2] at e
          obtain ⟨v, hv, hv2⟩ := full j (by omega)
          have := (f2 j (by omega) v hv hv2).2.2; omega
      · by_cases e2 : j = h
        · rw [if_neg e1, if_pos e2] at e
          obtain ⟨v, hv, hv2⟩ := full i (by omega)
          have := (f2 i (by omega) v hv hv2).2.2; omega
        · rw [if_neg e1, if_neg e2] at e
          obtain ⟨x, hx, hx2⟩ := full i (by omega)
          obtain ⟨y, hy, hy2⟩ := full j (by omega)
          have exy : x = y := by omega
          subst exy
          exact t5 x i j (p % 10) hx (by omega) (by omega) (f2 i (by omega) x hx hx2).1 (f2 j (by omega) x hx hy2).1)
    unfold cnt at hn; rw [if_neg (by omega), show 8 + p % 10 - 8 = p % 10 by omega] at hn; omega
/-- a pair put where both are free -/
theorem TI.put (H : TI h c p ea ae) {v e k : Nat} (hv : v < 8) (he : e < 10) (hk : k < 8) (hkh : k < h) (pe : p = 10 * v + e) (hc : c p = 1) (f1 : ea (8 * v + k) = 0) (f2 : ae (8 * e + k) = 0) : TI h c (p + 1) (va_up ea (8 * v + k) (e + 1)) (va_up ae (8 * e + k) (v + 1)) := by
  obtain ⟨⟨t1, t2, t3⟩, t4, t5⟩ := H
  refine ⟨⟨fun q hq => ?_, fun q hq => ?_, fun a e2 k2 ha he2 hk2 => ?_⟩, fun a k2 e2 ha hk2 hh => ?_, fun a k2 k3 e2 ha hk2 hk3 h1 h2 => ?_⟩
  · by_cases q2 : q = 8 * v + k
    · rw [q2, vu_s]; omega
    · rw [vu_n _ _ q2]; exact t1 q hq
  · by_cases q2 : q = 8 * e + k
    · rw [q2, vu_s]; omega
    · rw [vu_n _ _ q2]; exact t2 q hq
  · have tt := t3 a e2 k2 ha he2 hk2
    by_cases q1 : 8 * a + k2 = 8 * v + k
    · have a1 : a = v := by omega
      have a2 : k2 = k := by omega
      subst a1 a2
      rw [vu_s]
      by_cases q2 : 8 * e2 + k2 = 8 * e + k2
      · rw [q2, vu_s]; constructor <;> intro _ <;> omega
      · rw [vu_n _ _ q2]; constructor <;> intro z
        · omega
        · have := tt.mpr z; omega
    · rw [vu_n _ _ q1]
      by_cases q2 : 8 * e2 + k2 = 8 * e + k
      · have a1 : e2 = e := by omega
        have a2 : k2 = k := by omega
        subst a1 a2
        rw [vu_s]; constructor <;> intro z
        · have := tt.mp z; omega
        · omega
      · rw [vu_n _ _ q2]; exact tt
  · by_cases q1 : 8 * a + k2 = 8 * v + k
    · have a1 : a = v := by omega
      have a2 : k2 = k := by omega
      rw [q1, vu_s] at hh
      have a3 : e2 = e := by omega
      subst a1 a2 a3
      exact ⟨hkh, by rw [← pe]; exact hc, by omega⟩
    · rw [vu_n _ _ q1] at hh
      have := t4 a k2 e2 ha hk2 hh
      exact ⟨this.1, this.2.1, by omega⟩
  · by_cases q1 : 8 * a + k2 = 8 * v + k
    · rw [q1, vu_s] at h1
      by_cases q2 : 8 * a + k3 = 8 * v + k
      · omega
      · rw [vu_n _ _ q2] at h2
        have := (t4 a k3 e2 ha hk3 h2).2.2; omega
    · rw [vu_n _ _ q1] at h1
      by_cases q2 : 8 * a + k3 = 8 * v + k
      · rw [q2, vu_s] at h2
        have := (t4 a k2 e2 ha hk2 h1).2.2; omega
      · rw [vu_n _ _ q2] at h2; exact t5 a k2 k3 e2 ha hk2 hk3 h1 h2
theorem swp_val {P : Nat → Prop} {f : Nat → Nat} {a b v k : Nat} (ha : a < 8) (hb : b < 8) (hk : k < 8) : ∃ k2, k2 < 8 ∧ swp P a b f (8 * v + k) = f (8 * v + k2) ∧ (k2 = k ∨ (P v ∧ ((k = a ∧ k2 = b) ∨ (k ≠ a ∧ k = b ∧ k2 = a)))) ∧ (¬ P v → k2 = k) ∧ (P v → k = a → k2 = b) ∧ (P v → k ≠ a → k = b → k2 = a) := by
  by_cases p1 : P v
  · by_cases q1 : k = a
    · subst q1; exact ⟨b, hb, swp_a ha p1, Or.inr ⟨p1, Or.inl ⟨rfl, rfl⟩⟩, fun n => absurd p1 n, fun _ _ => rfl, fun _ n => absurd rfl n⟩
    · by_cases q2 : k = b
      · subst q2; exact ⟨a, ha, swp_b (Ne.symm q1) hb p1, Or.inr ⟨p1, Or.inr ⟨q1, rfl, rfl⟩⟩, fun n => absurd p1 n, fun _ e => absurd e q1, fun _ _ _ => rfl⟩
      · exact ⟨k, hk, swp_o (by omega) (by omega), Or.inl rfl, fun _ => rfl, fun _ e => absurd e q1, fun _ _ e => absurd e q2⟩
  · exact ⟨k, hk, swp_n (by rw [show (8 * v + k) / 8 = v by omega]; exact p1), Or.inl rfl, fun _ => rfl, fun n => absurd n p1, fun n => absurd n p1⟩
theorem TI.swap (H : TI h c p ea ae) {a b e0 : Nat} (ha : a < h) (hb : b < h) (h8 : h ≤ 8) (he0 : e0 < 10) (hab : a ≠ b) (h0 : ae (8 * e0 + b) = 0) : TI h c p (swp (inA ea ae a b e0) a b ea) (swp (inE ea ae a b e0) a b ae) := by
  have KC0 : KC ea ae a b e0 := ⟨H.1, by omega, by omega, he0, h0⟩
  obtain ⟨t, t4, t5⟩ := H
  refine ⟨KC0.swap hab, fun v k e hv hk hh => ?_, fun v k k2 e hv hk hk2 h1 h2 => ?_⟩
  · obtain ⟨j, hj, e1, e2, -⟩ := swp_val (P := inA ea ae a b e0) (f := ea) (v := v) (show a < 8 by omega) (show b < 8 by omega) hk
    rw [e1] at hh
    have := t4 v j e hv hj hh
    exact ⟨by omega, this.2⟩
  · obtain ⟨j, hj, e1, -, e3, e4, e5⟩ := swp_val (P := inA ea ae a b e0) (f := ea) (v := v) (show a < 8 by omega) (show b < 8 by omega) hk
    obtain ⟨j2, hj2, f1, -, f3, f4, f5⟩ := swp_val (P := inA ea ae a b e0) (f := ea) (v := v) (show a < 8 by omega) (show b < 8 by omega) hk2
    rw [e1] at h1
    rw [f1] at h2
    have jj := t5 v j j2 e hv hj hj2 h1 h2
    by_cases P : inA ea ae a b e0 v
    · have e4 := e4 P
      have e5 := e5 P
      have f4 := f4 P
      have f5 := f5 P
      have e6 : k ≠ a → k ≠ b → j = k := fun q1 q2 => by
        obtain ⟨_, hj', e1', e2', -⟩ := swp_val (P := inA ea ae a b e0) (f := ea) (v := v) (show a < 8 by omega) (show b < 8 by omega) hk
        have s := swp_o (P := inA ea ae a b e0) (f := ea) (a := a) (b := b) (q := 8 * v + k) (by omega) (by omega)
        rw [e1] at s
        exact t5 v j k e hv hj hk h1 (by rw [← s]; exact h1)
      have f6 : k2 ≠ a → k2 ≠ b → j2 = k2 := fun q1 q2 => by
        have s := swp_o (P := inA ea ae a b e0) (f := ea) (a := a) (b := b) (q := 8 * v + k2) (by omega) (by omega)
        rw [f1] at s
        exact t5 v j2 k2 e hv hj2 hk2 h2 (by rw [← s]; exact h2)
      omega
    · have := e3 P; have := f3 P; omega
theorem TI.up (H : TI h c p ea ae) : TI h c (p + 1) ea ae := ⟨H.1, fun a k e ha hk q => by have := H.2.1 a k e ha hk q; exact ⟨this.1, this.2.1, by omega⟩, H.2.2⟩
/-- laying the next pair -/
theorem TI.lay (H : TI h c p ea ae) (h8 : h ≤ 8) (hp : p < 80) (hc : c p = 1) (n1 : cnt c (p / 10) ≤ h) (n2 : cnt c (8 + p % 10) ≤ h) : TI h c (p + 1) (layF h (ea, ae) (p / 10) (p % 10)).1 (layF h (ea, ae) (p / 10) (p % 10)).2 := by
  have fa := H.freeA h8 hp hc n1
  have fb := H.freeE h8 hp hc n2
  have s := ff_sp (fun k => ea (8 * (p / 10) + k) + ae (8 * (p % 10) + k)) h
  have sa := ff_sp (fun k => ea (8 * (p / 10) + k)) h
  have sb := ff_sp (fun k => ae (8 * (p % 10) + k)) h
  unfold layF
  dsimp only
  by_cases q : ff (fun k => ea (8 * (p / 10) + k) + ae (8 * (p % 10) + k)) h < h
  · rw [if_pos q]
    have z := s.2.1 q
    dsimp only at z ⊢
    exact H.put (by omega) (by omega) (by omega) q (by omega) hc (by omega) (by omega)
  · rw [if_neg q]
    have za := sa.2.1 fa
    have zb := sb.2.1 fb
    dsimp only at za zb ⊢
    have hab : ff (fun k => ea (8 * (p / 10) + k)) h ≠ ff (fun k => ae (8 * (p % 10) + k)) h := by
      intro e
      have := s.2.2 (ff (fun k => ea (8 * (p / 10) + k)) h) (by omega)
      rw [za, e, zb] at this
      exact this rfl
    have S := H.swap fa fb h8 (e0 := p % 10) (by omega) hab zb
    have K : KC ea ae (ff (fun k => ea (8 * (p / 10) + k)) h) (ff (fun k => ae (8 * (p % 10) + k)) h) (p % 10) := ⟨H.1, by omega, by omega, by omega, zb⟩
    refine S.put (by omega) (by omega) (by omega) fa (by omega) hc ?_ ?_
    · rw [swp_n]
      · exact za
      · rw [show (8 * (p / 10) + ff (fun k => ea (8 * (p / 10) + k)) h) / 8 = p / 10 by omega]
        rintro ⟨i, hi⟩
        have := K.backA hi
        rw [za] at this
        exact this.1 this.2.1.symm
    · rw [swp_a (by omega) ⟨0, rfl⟩]; exact zb
theorem TF_TI (h8 : h ≤ 8) (hc : ∀ p, p < 80 → c p ≤ 1) (hn : ∀ y, y < 18 → cnt c y ≤ h) : ∀ p, p ≤ 80 → TI h c p (TF h c p).1 (TF h c p).2 := by
  intro p
  induction p with
  | zero => intro _; exact ⟨⟨fun q _ => Nat.zero_le _, fun q _ => Nat.zero_le _, fun a e k _ _ _ => ⟨fun q => absurd (show (0 : Nat) = e + 1 from q) (by omega), fun q => absurd (show (0 : Nat) = a + 1 from q) (by omega)⟩⟩, fun a k e _ _ q => absurd (show (0 : Nat) = e + 1 from q) (by omega), fun a k k2 e _ _ _ q => absurd (show (0 : Nat) = e + 1 from q) (by omega)⟩
  | succ p ih =>
    intro hp
    have i := ih (by omega)
    by_cases q : c p = 1
    · have : TF h c (p + 1) = layF h (TF h c p) (p / 10) (p % 10) := if_pos q
      rw [this]
      exact i.lay h8 (by omega) q (hn _ (by omega)) (hn _ (by omega))
    · have : TF h c (p + 1) = TF h c p := if_neg q
      rw [this]; exact i.up
end TIs
theorem TF_cg {h : Nat} {c d : Nat → Nat} : ∀ {p : Nat}, (∀ q, q < p → c q = d q) → TF h c p = TF h d p := by
  intro p
  induction p with
  | zero => intro _; rfl
  | succ p ih =>
    intro e
    have e1 := e p (by omega)
    have e2 := ih (fun q hq => e q (by omega))
    show (if c p = 1 then layF h (TF h c p) (p / 10) (p % 10) else TF h c p) = (if d p = 1 then layF h (TF h d p) (p / 10) (p % 10) else TF h d p)
    rw [e1, e2]
theorem TF_1 {h : Nat} {c : Nat → Nat} {p : Nat} (q : c p = 1) : TF h c (p + 1) = layF h (TF h c p) (p / 10) (p % 10) := if_pos q
theorem TF_0 {h : Nat} {c : Nat → Nat} {p : Nat} (q : c p ≠ 1) : TF h c (p + 1) = TF h c p := if_neg q
