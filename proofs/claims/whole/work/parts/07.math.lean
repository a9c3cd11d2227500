/-! ===== sums and the duality of the best set: pure ===== -/
def sm (f : Nat → Int) : Nat → Int
  | 0 => 0
  | n + 1 => sm f n + f n
theorem sm_congr {f g : Nat → Int} : ∀ {n : Nat}, (∀ k, k < n → f k = g k) → sm f n = sm g n := by
  intro n
  induction n with
  | zero => intro _; rfl
  | succ n ih => intro h; simp only [sm]; rw [ih (fun k hk => h k (by omega)), h n (by omega)]
theorem sm_le {f g : Nat → Int} : ∀ {n : Nat}, (∀ k, k < n → f k ≤ g k) → sm f n ≤ sm g n := by
  intro n
  induction n with
  | zero => intro _; exact Int.le_refl _
  | succ n ih => intro h; simp only [sm]; have := ih (fun k hk => h k (by omega)); have := h n (by omega); omega
theorem sm_add (f g : Nat → Int) (n : Nat) : sm (fun k => f k + g k) n = sm f n + sm g n := by
  induction n with
  | zero => rfl
  | succ n ih => simp only [sm]; rw [ih]; omega
theorem sm_sub (f g : Nat → Int) (n : Nat) : sm (fun k => f k - g k) n = sm f n - sm g n := by
  induction n with
  | zero => rfl
  | succ n ih => simp only [sm]; rw [ih]; omega
theorem sm_mulL (c : Int) (f : Nat → Int) (n : Nat) : sm (fun k => c * f k) n = c * sm f n := by
  induction n with
  | zero => simp [sm]
  | succ n ih => simp only [sm]; rw [ih, Int.mul_add]
theorem sm_mulR (c : Int) (f : Nat → Int) (n : Nat) : sm (fun k => f k * c) n = sm f n * c := by
  induction n with
  | zero => simp [sm]
  | succ n ih => simp only [sm]; rw [ih, Int.add_mul]
theorem sm_0 (n : Nat) : sm (fun _ => 0) n = 0 := by
  induction n with
  | zero => rfl
  | succ n ih => simp only [sm]; rw [ih]; rfl
theorem sm_comm (F : Nat → Nat → Int) (n m : Nat) : sm (fun a => sm (fun e => F a e) m) n = sm (fun e => sm (fun a => F a e) n) m := by
  induction n with
  | zero => simp only [sm]; rw [sm_0]
  | succ n ih => simp only [sm]; rw [ih, sm_add]
theorem sm_nonneg {f : Nat → Int} {n : Nat} (h : ∀ k, k < n → 0 ≤ f k) : 0 ≤ sm f n := by
  have := sm_le (f := fun _ => 0) (g := f) (n := n) h
  rw [sm_0] at this; exact this
theorem sm_at {f g : Nat → Int} {n j : Nat} (hj : j < n) (h : ∀ k, k < n → k ≠ j → f k = g k) : sm f n = sm g n - g j + f j := by
  induction n with
  | zero => omega
  | succ n ih =>
    simp only [sm]
    by_cases hn : j = n
    · subst hn
      rw [sm_congr (f := f) (g := g) (n := j) (fun k hk => h k (by omega) (by omega))]; omega
    · rw [ih (by omega) (fun k hk hne => h k (by omega) hne), h n (by omega) (fun e => hn e.symm)]; omega
/-- the meetings of an agent, of an editor -/
def dA (c : Nat → Int) (a : Nat) : Int := sm (fun e => c (10 * a + e)) 10
def dE (c : Nat → Int) (e : Nat) : Int := sm (fun a => c (10 * a + e)) 8
def tot (W c : Nat → Int) : Int := sm (fun a => sm (fun e => c (10 * a + e) * W (10 * a + e)) 10) 8
/-- a set of meetings: pairs that are allowed, nobody in more than the limit -/
def Fe (hA hE : Nat → Int) (ok : Nat → Prop) (c : Nat → Int) : Prop := (∀ p, p < 80 → (c p = 0 ∨ c p = 1) ∧ (c p = 1 → ok p)) ∧ (∀ a, a < 8 → dA c a ≤ hA a) ∧ (∀ e, e < 10 → dE c e ≤ hE e)
/-- potentials that show a set to be best -/
def Po (hA hE : Nat → Int) (ok : Nat → Prop) (W c π : Nat → Int) : Prop :=
  (∀ a e, a < 8 → e < 10 → (ok (10 * a + e) → c (10 * a + e) = 0 → π a + W (10 * a + e) ≤ π (8 + e)) ∧ (c (10 * a + e) = 1 → π (8 + e) ≤ π a + W (10 * a + e)))
  ∧ (∀ a, a < 8 → (dA c a < hA a → π 18 ≤ π a) ∧ (0 < dA c a → π a ≤ π 18))
  ∧ (∀ e, e < 10 → (dE c e < hE e → π (8 + e) ≤ π 18) ∧ (0 < dE c e → π 18 ≤ π (8 + e)))
theorem mul_np {x y : Int} (h1 : 0 < x → y ≤ 0) (h2 : x < 0 → 0 ≤ y) : x * y ≤ 0 := by
  rcases Int.lt_trichotomy x 0 with h | h | h
  · have := Int.mul_nonneg (a := -x) (b := y) (by omega) (h2 h)
    rw [Int.neg_mul] at this; omega
  · subst h; simp
  · have := Int.mul_nonneg (a := x) (b := -y) (by omega) (by have := h1 h; omega)
    rw [Int.mul_neg] at this; omega
theorem dA_nonneg {c : Nat → Int} {a : Nat} (ha : a < 8) (h : ∀ p, p < 80 → c p = 0 ∨ c p = 1) : 0 ≤ dA c a := sm_nonneg (fun e he => by have := h (10 * a + e) (by omega); omega)
theorem dE_nonneg {c : Nat → Int} {e : Nat} (he : e < 10) (h : ∀ p, p < 80 → c p = 0 ∨ c p = 1) : 0 ≤ dE c e := sm_nonneg (fun a ha => by have := h (10 * a + e) (by omega); omega)
/-- a set with potentials is best -/
theorem best_of {hA hE : Nat → Int} {ok : Nat → Prop} {W c π t : Nat → Int} (hc : Fe hA hE ok c) (hp : Po hA hE ok W c π) (ht : Fe hA hE ok t) : tot W t ≤ tot W c := by
  obtain ⟨p1, p2, p3⟩ := hp
  have h1 : tot W t - tot W c ≤ sm (fun a => sm (fun e => (t (10 * a + e) - c (10 * a + e)) * (π (8 + e) - π a)) 10) 8 := by
    unfold tot
    rw [← sm_sub]
    refine sm_le (fun a ha => ?_)
    rw [← sm_sub]
    refine sm_le (fun e he => ?_)
    have q := p1 a e ha he
    have c1 := hc.1 (10 * a + e) (by omega)
    have t1 := ht.1 (10 * a + e) (by omega)
    rcases c1.1 with c0 | c0 <;> rcases t1.1 with t0 | t0
    · rw [c0, t0]; simp
    · rw [c0, t0]; have := q.1 (t1.2 t0) c0; simp; omega
    · rw [c0, t0]; have := q.2 c0; simp; omega
    · rw [c0, t0]; simp
  have h2 : sm (fun a => sm (fun e => (t (10 * a + e) - c (10 * a + e)) * (π (8 + e) - π a)) 10) 8 = sm (fun e => (dE t e - dE c e) * (π (8 + e) - π 18)) 10 - sm (fun a => (dA t a - dA c a) * (π a - π 18)) 8 := by
    have e1 : sm (fun a => sm (fun e => (t (10 * a + e) - c (10 * a + e)) * (π (8 + e) - π a)) 10) 8 = sm (fun a => sm (fun e => (t (10 * a + e) - c (10 * a + e)) * (π (8 + e) - π 18)) 10 - sm (fun e => (t (10 * a + e) - c (10 * a + e)) * (π a - π 18)) 10) 8 := by
      refine sm_congr (fun a _ => ?_)
      rw [← sm_sub]
      refine sm_congr (fun e _ => ?_)
      rw [← Int.mul_sub]
      congr 1
      omega
    rw [e1, sm_sub, sm_comm]
    congr 1
    · refine sm_congr (fun e _ => ?_)
      rw [sm_mulR, sm_sub]; rfl
    · refine sm_congr (fun a _ => ?_)
      rw [sm_mulR, sm_sub]; rfl
  have h3 : sm (fun e => (dE t e - dE c e) * (π (8 + e) - π 18)) 10 ≤ 0 := by
    have := sm_le (f := fun e => (dE t e - dE c e) * (π (8 + e) - π 18)) (g := fun _ => 0) (n := 10) (fun e he => by
      have a1 := p3 e he
      have a2 := ht.2.2 e he
      have a3 := dE_nonneg he (fun p hp => (ht.1 p hp).1)
      refine mul_np (fun h => ?_) (fun h => ?_)
      · have := a1.1 (by omega); omega
      · have := a1.2 (by omega); omega)
    rw [sm_0] at this; exact this
  have h4 : 0 ≤ sm (fun a => (dA t a - dA c a) * (π a - π 18)) 8 := by
    refine sm_nonneg (fun a ha => ?_)
    have a1 := p2 a ha
    have a2 := ht.2.1 a ha
    have a3 := dA_nonneg ha (fun p hp => (ht.1 p hp).1)
    have := mul_np (x := dA t a - dA c a) (y := π 18 - π a) (fun h => by have := a1.1 (by omega); omega) (fun h => by have := a1.2 (by omega); omega)
    have e2 : (dA t a - dA c a) * (π a - π 18) = -((dA t a - dA c a) * (π 18 - π a)) := by rw [← Int.mul_neg]; congr 1; omega
    rw [e2]; omega
  omega
/-! ===== pigeons ===== -/
theorem nodup_len : ∀ (n : Nat) (l : List Nat), l.Nodup → (∀ x ∈ l, x < n) → l.length ≤ n := by
  intro n
  induction n with
  | zero => intro l _ h; cases l with
    | nil => simp
    | cons x xs => exact absurd (h x (by simp)) (by omega)
  | succ n ih =>
    intro l hl h
    have h1 := ih (l.filter (fun x => x != n)) (hl.filter _) (fun x hx => by
      have := List.mem_filter.mp hx
      have h2 := h x this.1
      have h3 : x ≠ n := by simpa using this.2
      omega)
    have h2 : l.length ≤ (l.filter (fun x => x != n)).length + 1 := by
      clear h1 ih h
      induction l with
      | nil => simp
      | cons x xs ih2 =>
        have hx := List.nodup_cons.mp hl
        by_cases e : x = n
        · subst e
          have : xs.filter (fun y => y != x) = xs := List.filter_eq_self.mpr (fun y hy => by
            have : y ≠ x := fun e => hx.1 (e ▸ hy)
            simpa using this)
          simp [this]
        · have := ih2 hx.2
          simp [List.filter_cons, e]
          omega
    omega
theorem inj_le {n k : Nat} (f : Nat → Nat) (hf : ∀ i, i < k → f i < n) (hi : ∀ i j, i < k → j < k → f i = f j → i = j) : k ≤ n := by
  have h := nodup_len n ((List.range k).map f) (by
    rw [List.nodup_iff_pairwise_ne, List.pairwise_map]
    refine List.Pairwise.imp_of_mem ?_ (List.nodup_range (n := k))
    intro a b ha hb hab e
    exact hab (hi a b (List.mem_range.mp ha) (List.mem_range.mp hb) e)) (fun x hx => by
    obtain ⟨i, hi', rfl⟩ := List.mem_map.mp hx
    exact hf i (List.mem_range.mp hi'))
  simpa using h
/-! ===== ways of most gain: what holds while they are sought. Arc u v g: a step from u to v gains g ===== -/
/-- a chain of k steps back from v comes to the start -/
def It (bf : Nat → Nat) : Nat → Nat → Nat
  | 0, v => v
  | n + 1, v => It bf n (bf v)
theorem It_add (bf : Nat → Nat) (m n v : Nat) : It bf (m + n) v = It bf n (It bf m v) := by
  induction m generalizing v with
  | zero => simp [It]
  | succ m ih => rw [Nat.succ_add]; simp only [It]; exact ih (bf v)
theorem It_succ (bf : Nat → Nat) (n v : Nat) : It bf (n + 1) v = bf (It bf n v) := by
  rw [It_add]; rfl
/-- the state of a search: rd (reached), D (gains), bf (before) over the nodes; π bounds all steps -/
def Sk (Arc : Nat → Nat → Int → Prop) (π : Nat → Int) (s : Nat) (rd : Nat → Prop) (D : Nat → Int) (bf : Nat → Nat) : Prop :=
  (rd s ∧ D s = 0) ∧ (∀ v, rd v → v < 19) ∧ (∀ v, rd v → D v ≤ π v - π s) ∧ (∀ v, rd v → v ≠ s → rd (bf v) ∧ ∃ g, Arc (bf v) v g ∧ D v ≤ D (bf v) + g) ∧ (∀ v, rd v → ∃ n, It bf n v = s)
theorem Sk_step {Arc : Nat → Nat → Int → Prop} {π : Nat → Int} {s : Nat} {rd : Nat → Prop} {D : Nat → Int} {bf : Nat → Nat} (hπ : ∀ u v g, Arc u v g → π u + g ≤ π v) (h : Sk Arc π s rd D bf) {u v : Nat} {g : Int} (hu : rd u) (ha : Arc u v g) (hv : v < 19) (hn : ¬ rd v ∨ D v < D u + g) :
    Sk Arc π s (fun x => x = v ∨ rd x) (fun x => if x = v then D u + g else D x) (fun x => if x = v then u else bf x) := by
  obtain ⟨⟨h1, h1'⟩, h2, h3, h4, h5⟩ := h
  have hvs : v ≠ s := by
    rintro rfl
    rcases hn with hn | hn
    · exact hn h1
    · have := h3 u hu; have := hπ u v g ha; omega
  have huv : u ≠ v := by
    rintro rfl
    rcases hn with hn | hn
    · exact hn hu
    · have := hπ u u g ha; omega
  -- along a chain the slack falls
  have slack : ∀ n x, rd x → (∀ i, i < n → It bf i x ≠ s) → rd (It bf n x) ∧ π (It bf n x) - D (It bf n x) ≤ π x - D x := by
    intro n
    induction n with
    | zero => intro x hx _; exact ⟨hx, Int.le_refl _⟩
    | succ n ih =>
      intro x hx hi
      have hxs : x ≠ s := hi 0 (by omega)
      obtain ⟨r1, g1, a1, d1⟩ := h4 x hx hxs
      have := ih (bf x) r1 (fun i hi' => hi (i + 1) (by omega))
      have b1 := hπ _ _ _ a1
      simp only [It]
      exact ⟨this.1, by omega⟩
  -- the chain of u does not pass v
  have away : ∀ n, (∀ i, i < n → It bf i u ≠ s) → It bf n u ≠ v := by
    intro n hi e
    have := slack n u hu hi
    rw [e] at this
    rcases hn with hn | hn
    · exact hn this.1
    · have := hπ u v g ha; omega
  have least : ∀ x, rd x → ∃ n, It bf n x = s ∧ ∀ i, i < n → It bf i x ≠ s := by
    intro x hx
    obtain ⟨n, hn', hmin⟩ := pk_least (fun n => It bf n x = s) (h5 x hx)
    exact ⟨n, hn', hmin⟩
  have keep : ∀ n x, (∀ i, i < n → It bf i x ≠ v) → It (fun x => if x = v then u else bf x) n x = It bf n x := by
    intro n
    induction n with
    | zero => intro x _; rfl
    | succ n ih =>
      intro x hi
      have hx : x ≠ v := hi 0 (by omega)
      simp only [It, if_neg hx]
      exact ih (bf x) (fun i hi' => hi (i + 1) (by omega))
  obtain ⟨nu, hu1, hu2⟩ := least u hu
  have chu : It (fun x => if x = v then u else bf x) nu u = s := by
    rw [keep nu u (fun i hi => away i (fun j hj => hu2 j (by omega)))]
    exact hu1
  have chv : It (fun x => if x = v then u else bf x) (nu + 1) v = s := by
    show It _ nu (if v = v then u else bf v) = s
    rw [if_pos rfl]; exact chu
  refine ⟨⟨Or.inr h1, by simp [Ne.symm hvs, h1']⟩, fun x hx => ?_, fun x hx => ?_, fun x hx hxs => ?_, fun x hx => ?_⟩
  · rcases hx with rfl | hx
    · exact hv
    · exact h2 x hx
  · by_cases e : x = v
    · subst e
      have := h3 u hu; have := hπ u x g ha
      simp; omega
    · rcases hx with hx | hx
      · exact absurd hx e
      · simp only [if_neg e]; exact h3 x hx
  · by_cases e : x = v
    · subst e
      simp only [if_pos]
      exact ⟨Or.inr hu, g, ha, by simp [huv]⟩
    · rcases hx with hx | hx
      · exact absurd hx e
      · obtain ⟨r1, g1, a1, d1⟩ := h4 x hx hxs
        simp only [if_neg e]
        refine ⟨Or.inr r1, g1, a1, ?_⟩
        by_cases e2 : bf x = v
        · rw [if_pos e2]
          rcases hn with hn | hn
          · rw [e2] at r1; exact absurd r1 hn
          · rw [e2] at d1; omega
        · rw [if_neg e2]; exact d1
  · -- chains
    by_cases e : x = v
    · subst e; exact ⟨_, chv⟩
    · rcases hx with hx | hx
      · exact absurd hx e
      obtain ⟨n, hn1⟩ := h5 x hx
      clear hn1
      obtain ⟨n, hn1, hn2⟩ := least x hx
      by_cases hp : ∃ i, It bf i x = v ∧ i < n
      · obtain ⟨i, ⟨hi1, hi2⟩, hmin⟩ := pk_least (fun i => It bf i x = v ∧ i < n) hp
        refine ⟨i + (nu + 1), ?_⟩
        rw [It_add, keep i x (fun j hj e2 => hmin j hj ⟨e2, by omega⟩), hi1]
        exact chv
      · refine ⟨n, ?_⟩
        rw [keep n x (fun i hi e2 => hp ⟨i, e2, hi⟩)]
        exact hn1
/-- at a search's end, when enough ways are known, no step gains more -/
theorem Sk_closed {Arc : Nat → Nat → Int → Prop} {π : Nat → Int} {s : Nat} {rd : Nat → Prop} {D : Nat → Int} {bf : Nat → Nat} (hπ : ∀ u v g, Arc u v g → π u + g ≤ π v) (hA : ∀ u v g, Arc u v g → v < 19) (h : Sk Arc π s rd D bf) (Wk : Nat → Nat → Int → Prop)
    (w0 : Wk 0 s 0) (ws : ∀ k u v g1 g2, Wk k u g1 → Arc u v g2 → Wk (k + 1) v (g1 + g2)) (hd : ∀ k, k ≤ 18 → ∀ v g, Wk k v g → rd v ∧ g ≤ D v) : ∀ u v g, rd u → Arc u v g → rd v ∧ D u + g ≤ D v := by
  obtain ⟨⟨h1, h1'⟩, h2, h3, h4, h5⟩ := h
  have slack : ∀ n x, rd x → (∀ i, i < n → It bf i x ≠ s) → rd (It bf n x) ∧ π (It bf n x) - D (It bf n x) ≤ π x - D x := by
    intro n
    induction n with
    | zero => intro x hx _; exact ⟨hx, Int.le_refl _⟩
    | succ n ih =>
      intro x hx hi
      have hxs : x ≠ s := hi 0 (by omega)
      obtain ⟨r1, g1, a1, d1⟩ := h4 x hx hxs
      have := ih (bf x) r1 (fun i hi' => hi (i + 1) (by omega))
      have b1 := hπ _ _ _ a1
      simp only [It]
      exact ⟨this.1, by omega⟩
  have way : ∀ n x, rd x → It bf n x = s → (∀ i, i < n → It bf i x ≠ s) → ∃ G, Wk n x G ∧ D x ≤ G := by
    intro n
    induction n with
    | zero => intro x _ hs _; simp only [It] at hs; subst hs; exact ⟨0, w0, by omega⟩
    | succ n ih =>
      intro x hx hs hi
      have hxs : x ≠ s := hi 0 (by omega)
      obtain ⟨r1, g1, a1, d1⟩ := h4 x hx hxs
      obtain ⟨G, hG, hGe⟩ := ih (bf x) r1 hs (fun i hi' => hi (i + 1) (by omega))
      exact ⟨G + g1, ws _ _ _ _ _ hG a1, by omega⟩
  intro u v g hu ha
  obtain ⟨n, hn, hmin⟩ := pk_least (fun n => It bf n u = s) (h5 u hu)
  by_cases hp : ∃ i, i ≤ n ∧ It bf i u = v
  · obtain ⟨i, hi, e⟩ := hp
    have := slack i u hu (fun j hj => hmin j (by omega))
    rw [e] at this
    have b := hπ u v g ha
    exact ⟨this.1, by omega⟩
  · -- the chain and v are apart: at most 19 nodes
    have hdist : ∀ i j, i ≤ n → j ≤ n → It bf i u = It bf j u → i = j := by
      intro i j hi hj e
      rcases Nat.lt_trichotomy i j with hij | hij | hij
      · exfalso
        have e2 : It bf (i + (n - j)) u = s := by
          rw [It_add, e, ← It_add, show j + (n - j) = n by omega]; exact hn
        exact hmin (i + (n - j)) (by omega) e2
      · exact hij
      · exfalso
        have e2 : It bf (j + (n - i)) u = s := by
          rw [It_add, ← e, ← It_add, show i + (n - i) = n by omega]; exact hn
        exact hmin (j + (n - i)) (by omega) e2
    have hlt : ∀ i, i ≤ n → It bf i u < 19 := fun i hi => h2 _ (slack i u hu (fun j hj => hmin j (by omega))).1
    have hle : n + 2 ≤ 19 := by
      refine inj_le (fun i => if i = n + 1 then v else It bf i u) (fun i hi => ?_) (fun i j hi hj e => ?_)
      · by_cases e : i = n + 1
        · simp only [if_pos e]; exact hA u v g ha
        · simp only [if_neg e]; exact hlt i (by omega)
      · by_cases e1 : i = n + 1 <;> by_cases e2 : j = n + 1
        · omega
        · simp only [if_pos e1, if_neg e2] at e
          exact absurd ⟨j, by omega, e.symm⟩ hp
        · simp only [if_neg e1, if_pos e2] at e
          exact absurd ⟨i, by omega, e⟩ hp
        · simp only [if_neg e1, if_neg e2] at e
          exact hdist i j (by omega) (by omega) e
    obtain ⟨G, hG, hGe⟩ := way n u hu hn hmin
    have := hd (n + 1) (by omega) v (G + g) (ws _ _ _ _ _ hG ha)
    exact ⟨this.1, by omega⟩
