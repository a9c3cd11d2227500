/-! ===== one worth changes: what the search gives ===== -/
theorem ArcB_bar {h : Nat} {w c dg : Nat → Nat} {p x : Nat} (hp : p < 80) {u v : Nat} {g : Int} (ha : ArcB h (va_up w p x) c dg p u v g) : ArcB h w c dg 80 u v g := by
  rcases ha with ⟨a, e, a1, a2, a3, a4, a5, a6, a7, a8⟩ | ⟨a, e, a1, a2, a3, a4, a5, a6, a7⟩ | q | q | q | q
  · rw [vu_n _ _ a7] at a5 a8
    exact Or.inl ⟨a, e, a1, a2, a3, a4, a5, a6, by omega, a8⟩
  · rw [vu_n _ _ a6] at a7
    exact Or.inr (Or.inl ⟨a, e, a1, a2, a3, a4, a5, by omega, a7⟩)
  · exact Or.inr (Or.inr (Or.inl q))
  · exact Or.inr (Or.inr (Or.inr (Or.inl q)))
  · exact Or.inr (Or.inr (Or.inr (Or.inr (Or.inl q))))
  · exact Or.inr (Or.inr (Or.inr (Or.inr (Or.inr q))))
/-- with the pair p counted too -/
theorem ArcB_all {h : Nat} {w c dg : Nat → Nat} {p : Nat} {ψ : Nat → Int} (hψ : ∀ u v g, ArcB h w c dg p u v g → ψ u + g ≤ ψ v) (h0 : c p = 0 → 0 < w p → ψ (p / 10) + wt (w p) p ≤ ψ (8 + p % 10)) (h1 : c p = 1 → ψ (8 + p % 10) ≤ ψ (p / 10) + wt (w p) p) : ∀ u v g, ArcB h w c dg 80 u v g → ψ u + g ≤ ψ v := by
  intro u v g ha
  rcases ha with ⟨a, e, a1, a2, a3, a4, a5, a6, a7, a8⟩ | ⟨a, e, a1, a2, a3, a4, a5, a6, a7⟩ | q | q | q | q
  · by_cases ep : 10 * a + e = p
    · have := h0 (by rw [← ep]; exact a6) (by rw [← ep]; exact a5)
      rw [a3, a4, a8, ep, show a = p / 10 by omega, show e = p % 10 by omega]; exact this
    · exact hψ u v g (Or.inl ⟨a, e, a1, a2, a3, a4, a5, a6, ep, a8⟩)
  · by_cases ep : 10 * a + e = p
    · have := h1 (by rw [← ep]; exact a5)
      rw [a3, a4, a7, ep, show a = p / 10 by omega, show e = p % 10 by omega]; omega
    · exact hψ u v g (Or.inr (Or.inl ⟨a, e, a1, a2, a3, a4, a5, ep, a7⟩))
  · exact hψ u v g (Or.inr (Or.inr (Or.inl q)))
  · exact hψ u v g (Or.inr (Or.inr (Or.inr (Or.inl q))))
  · exact hψ u v g (Or.inr (Or.inr (Or.inr (Or.inr (Or.inl q)))))
  · exact hψ u v g (Or.inr (Or.inr (Or.inr (Or.inr (Or.inr q)))))
/-- the goal of a search is reached, and no worse than by the hub where a pair leaves -/
theorem goal_0 {h : Nat} {w c dg : Nat → Nat} {p : Nat} {F : Nat → Int32} {D : Nat → Int} (hp : p < 80) (hh : 1 ≤ h) (hc : c p = 0) (hc1 : ∀ r, r < 80 → c r ≤ 1) (hd : ∀ n, n < 18 → dg n = cnt c n) (cl : ∀ u v g, rch F u → ArcB h w c dg p u v g → rch F v ∧ D u + g ≤ D v) (hs : rch F (8 + p % 10)) : rch F (p / 10) := by
  have hub : rch F 18 := by
    by_cases f : dg (8 + p % 10) < h
    · exact (cl _ _ _ hs (Or.inr (Or.inr (Or.inr (Or.inl ⟨by omega, by omega, rfl, f, rfl⟩))))).1
    · have k : 0 < cnt c (8 + p % 10) := by rw [← hd _ (by omega)]; omega
      obtain ⟨a, ha, ka⟩ := cnt_exE k
      have c1 : c (10 * a + p % 10) = 1 := by have := hc1 (10 * a + p % 10) (by omega); omega
      have r1 := (cl _ _ _ hs (Or.inr (Or.inl ⟨a, p % 10, ha, by omega, rfl, rfl, c1, fun e => by rw [e] at c1; omega, rfl⟩))).1
      have k2 := (cnt_pos ha (show p % 10 < 10 by omega) c1).1
      exact (cl _ _ _ r1 (Or.inr (Or.inr (Or.inl ⟨ha, rfl, by rw [hd _ (by omega)]; exact k2, rfl⟩)))).1
  by_cases f : dg (p / 10) < h
  · exact (cl _ _ _ hub (Or.inr (Or.inr (Or.inr (Or.inr (Or.inl ⟨rfl, by omega, f, rfl⟩)))))).1
  · have k : 0 < cnt c (p / 10) := by rw [← hd _ (by omega)]; omega
    obtain ⟨e, he, ke⟩ := cnt_exA (by omega) k
    have c1 : c (10 * (p / 10) + e) = 1 := by have := hc1 (10 * (p / 10) + e) (by omega); omega
    have k2 := (cnt_pos (show p / 10 < 8 by omega) he c1).2
    have r1 := (cl 18 (8 + e) 0 hub (Or.inr (Or.inr (Or.inr (Or.inr (Or.inr ⟨rfl, by omega, by omega, by rw [hd (8 + e) (by omega)]; exact k2, rfl⟩)))))).1
    exact (cl _ _ _ r1 (Or.inr (Or.inl ⟨p / 10, e, by omega, he, rfl, rfl, c1, fun e => by rw [e] at c1; omega, rfl⟩))).1
theorem goal_1 {h : Nat} {w c dg : Nat → Nat} {p : Nat} {F : Nat → Int32} {D : Nat → Int} (hp : p < 80) (hc : c p = 1) (hd : ∀ n, n < 18 → dg n = cnt c n) (cl : ∀ u v g, rch F u → ArcB h w c dg p u v g → rch F v ∧ D u + g ≤ D v) (hs : rch F (p / 10)) : rch F (8 + p % 10) ∧ D (p / 10) ≤ D (8 + p % 10) := by
  have k := cnt_pos (show p / 10 < 8 by omega) (show p % 10 < 10 by omega) (c := c) (by rw [show 10 * (p / 10) + p % 10 = p by omega]; exact hc)
  have r1 := cl _ _ _ hs (Or.inr (Or.inr (Or.inl ⟨by omega, rfl, by rw [hd _ (by omega)]; exact k.1, rfl⟩)))
  have r2 := cl 18 (8 + p % 10) 0 r1.1 (Or.inr (Or.inr (Or.inr (Or.inr (Or.inr ⟨rfl, by omega, by omega, by rw [hd (8 + p % 10) (by omega)]; exact k.2, rfl⟩)))))
  exact ⟨r2.1, by omega⟩
/-- the way back from the goal -/
theorem way_of {h : Nat} {w c dg : Nat → Nat} {p : Nat} {π ψ : Nat → Int} {s G : Nat} {K : Int} {F : Nat → Int32} {Hh Ll : Nat → Int64} (hw : ∀ r, r < 80 → c r = 1 → r ≠ p → 0 < w r) (hS : SI (ArcB h w c dg p) π s K F Hh Ll) (cl : ∀ u v g, rch F u → ArcB h w c dg p u v g → rch F v ∧ Dv Hh Ll u + g ≤ Dv Hh Ll v) (hψ : ∀ v, rch F v → ψ v = Dv Hh Ll v) (hG : rch F G) (hne : G ≠ s) :
    ∃ n, (1 ≤ n ∧ n ≤ 18) ∧ It (bfn F) n G = s ∧ (∀ j, j ≤ n → It (bfn F) j G < 19) ∧ (∀ j, j < n → F (It (bfn F) j G) = nI (It (bfn F) (j + 1) G)) ∧ (∀ i k, i ≤ n → k ≤ n → It (bfn F) i G = It (bfn F) k G → i = k) ∧ (∀ j, j < n → Rg h w c dg ψ p (fun j => It (bfn F) j G) j) := by
  obtain ⟨⟨⟨s1, s2⟩, s3, s4, s5, s6⟩, s7⟩ := hS
  obtain ⟨n, hn, hmin⟩ := pk_least (fun n => It (bfn F) n G = s) (s6 G hG)
  have rr : ∀ j, j ≤ n → rch F (It (bfn F) j G) := by
    intro j
    induction j with
    | zero => intro _; exact hG
    | succ j ih =>
      intro hj
      have r := ih (by omega)
      rw [It_succ]
      exact (s5 _ r (hmin j (by omega))).1
  have hdist : ∀ i k, i ≤ n → k ≤ n → It (bfn F) i G = It (bfn F) k G → i = k := by
    intro i j hi hj e
    rcases Nat.lt_trichotomy i j with hij | hij | hij
    · exfalso
      have e2 : It (bfn F) (i + (n - j)) G = s := by
        rw [It_add, e, ← It_add, show j + (n - j) = n by omega]; exact hn
      exact hmin (i + (n - j)) (by omega) e2
    · exact hij
    · exfalso
      have e2 : It (bfn F) (j + (n - i)) G = s := by
        rw [It_add, ← e, ← It_add, show i + (n - i) = n by omega]; exact hn
      exact hmin (j + (n - i)) (by omega) e2
  have h19 : ∀ j, j ≤ n → It (bfn F) j G < 19 := fun j hj => (rr j hj).1
  have hn0 : n ≠ 0 := fun e => by subst e; exact hne hn
  have hn18 : n + 1 ≤ 19 := inj_le (fun i => It (bfn F) i G) (fun i hi => h19 i (by omega)) (fun i j hi hj e => hdist i j (by omega) (by omega) e)
  refine ⟨n, ⟨by omega, by omega⟩, hn, h19, fun j hj => ?_, hdist, fun j hj => ?_⟩
  · rw [It_succ]; exact (s7 _ (rr j (by omega))).1
  · have r := rr j (by omega)
    obtain ⟨r1, g, a1, d1⟩ := s5 _ r (hmin j hj)
    have d2 := (cl _ _ _ r1 a1).2
    refine Rg_of (g := g) hw ?_ ?_
    · show ArcB h w c dg p (It (bfn F) (j + 1) G) (It (bfn F) j G) g
      rw [It_succ]; exact a1
    · show ψ (It (bfn F) j G) = ψ (It (bfn F) (j + 1) G) + g
      rw [It_succ, hψ _ r, hψ _ r1]; omega
theorem gain_iff {a b x y : Int64} (ha : wi (2 ^ 60) a) (hb : wi (2 ^ 60) b) (hx : wi (2 ^ 50) x) (hy : wi (2 ^ 50) y) : gai (a + x) (b + y) ↔ 0 < (a.toInt * 2 ^ 100 + b.toInt) + (x.toInt * 2 ^ 100 + y.toInt) := by
  simp only [wi] at ha hb hx hy
  have e1 : (a + x).toInt = a.toInt + x.toInt := add64 (by omega) (by omega)
  have e2 : (b + y).toInt = b.toInt + y.toInt := add64 (by omega) (by omega)
  simp only [gai, e1, e2]
  omega
theorem BS.rw {T : gSh} {R : gR} {ca : Nat → Nat} (hC : CO T R ca) {I : gI} {h : Nat} {w c dg : Nat → Nat} {F B : Nat → Int32} (hB : BS I ca h w c dg) : BS (rwI I ca F B) ca h w c dg :=
  ⟨hB.h0 hC, hB.2.1, fun p hp => ⟨hB.wr hC hp, (hB.2.2.1 p hp).2⟩, fun p hp => ⟨hB.cr hC hp, (hB.2.2.2.1 p hp).2⟩, fun n hn => ⟨hB.dr hC hn, (hB.2.2.2.2 n hn).2⟩⟩
theorem BS.setw {T : gSh} {R : gR} {ca : Nat → Nat} (hC : CO T R ca) {I : gI} {h : Nat} {w c dg : Nat → Nat} {p x : Nat} (hB : BS I ca h w c dg) (hx : x ≤ 100) : BS (u2 I (ca 17) p (nI x)) ca h (va_up w p x) c dg := by
  obtain ⟨b1, b2, b3, b4, b5⟩ := hB
  refine ⟨?_, b2, fun r hr => ?_, fun r hr => ?_, fun n hn => ?_⟩
  · rw [u2_a _ _ _ _ (hC.ne 14 17 (by decide) (by decide) (by decide))]; exact b1
  · by_cases e : r = p
    · subst e; rw [u2_s, vu_s]; exact ⟨rfl, hx⟩
    · rw [u2_k _ _ _ _ e, vu_n _ _ e]; exact b3 r hr
  · rw [u2_a _ _ _ _ (hC.ne 16 17 (by decide) (by decide) (by decide))]; exact b4 r hr
  · rw [u2_a _ _ _ _ (hC.ne 18 17 (by decide) (by decide) (by decide))]; exact b5 n hn
/-- nothing but the best set's own rows has changed -/
def Ag5 (I I' : gI) (ca : Nat → Nat) : Prop := ∀ a, a ≠ ca 16 → a ≠ ca 17 → a ≠ ca 18 → a ≠ ca 21 → a ≠ ca 22 → I' a = I a
def AgJ (J J' : gJ) (ca : Nat → Nat) : Prop := ∀ a, a ≠ ca 19 → a ≠ ca 20 → J' a = J a
theorem c_isFreeB (l : Launch) {T : gSh} {R : gR} {J : gJ} {ca : Nat → Nat} {I : gI} {h : Nat} {w c dg : Nat → Nat} (hC : CO T R ca) (hB : BS I ca h w c dg) {n : Nat} (hn : n < 18) : Con l yX1_isFree wsX1_isFree ({ frames := 0, cells := 0, slots := 0, locals := 0 }) [.ref (ca 14), .int (nI n)] T I J R (gP (some (.int (bI (dg n < h)))) T I J R) := by
  have q := c_isFree l (I := I) (J := J) hC hn
  have b1 := (hB.2.2.2.2 n hn).2
  have b2 := hB.2.1
  rw [(hB.2.2.2.2 n hn).1, hB.1, bI_c (q := dg n < h) (by rw [nI_toInt (by omega), nI_toInt (by omega)]; omega)] at q
  exact q
/-- the end of changeWorth() -/
def PC (T : gSh) (R : gR) (I : gI) (J : gJ) (ca : Nat → Nat) (h : Nat) (w : Nat → Nat) : gPost := fun r T' I' J' R' => r = none ∧ T = T' ∧ R = R' ∧ Ag5 I I' ca ∧ AgJ J J' ca ∧ (∀ v, v < 19 → I' (ca 22) v = 0) ∧ ∃ c' dg' : Nat → Nat, BS I' ca h w c' dg' ∧ OpB h w c' dg'
