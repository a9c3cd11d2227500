/-! ===== the reference's search: rows far and from ===== -/
def ArcM (A B : Nat) (w fx mt al : Nat → Nat) : Nat → Nat → Int → Prop := fun u v g =>
  (∃ a e, a < A ∧ e < B ∧ u = a ∧ v = 8 + e ∧ fx (10 * a + e) = 0 ∧ mt (10 * a + e) = 0 ∧ g = (w (10 * a + e) : Int))
  ∨ (∃ a e, a < A ∧ e < B ∧ u = 8 + e ∧ v = a ∧ fx (10 * a + e) = 0 ∧ mt (10 * a + e) = 1 ∧ g = -(w (10 * a + e) : Int))
  ∨ (u = 18 ∧ v < A ∧ 0 < al v ∧ g = 0)
def rdM (f : Nat → Int32) (v : Nat) : Prop := v = 18 ∨ (v < 18 ∧ f v ≠ -1000000000)
def DM (f : Nat → Int32) (v : Nat) : Int := if v = 18 then 0 else (f v).toInt
def bM (al : Nat → Nat) (fr : Nat → Int32) (v : Nat) : Nat := if v < 8 then (if 0 < al v then 18 else 8 + (fr v).toNatClampNeg) else if v = 18 then 18 else (fr v).toNatClampNeg
def crM (f : Nat → Int32) : Nat := smN (fun v => if f v = -1000000000 then 0 else 1) 18
def muM (f : Nat → Int32) : Nat := smN (fun v => (200 - (f v).toInt).toNat) 18
def SM (A B : Nat) (w fx mt al : Nat → Nat) (π : Nat → Int) (f fr : Nat → Int32) : Prop :=
  Sk (ArcM A B w fx mt al) π 18 (rdM f) (DM f) (bM al fr)
  ∧ (∀ v, v < 18 → f v ≠ -1000000000 → -(100 * (crM f : Int)) ≤ (f v).toInt ∧ (v < 8 → v < A ∧ (f v).toInt ≤ 0) ∧ (8 ≤ v → (f v).toInt ≤ 100))
  ∧ (∀ v, v < A → 0 < al v → f v = 0)
  ∧ (∀ v, v < 18 → f v ≠ -1000000000 → (v < 8 → al v = 0 → ∃ k, k < B ∧ fr v = nI k) ∧ (8 ≤ v → ∃ k, k < A ∧ fr v = nI k))
section SMs
variable {A B : Nat} {w fx mt al : Nat → Nat} {π : Nat → Int} {f fr : Nat → Int32}
theorem crM_le (f : Nat → Int32) : crM f ≤ 18 := smN_le (fun k _ => by by_cases h : f k = -1000000000 <;> simp [h])
theorem farT : (-1000000000 : Int32).toInt = -1000000000 := rfl
theorem add32 {x y : Int32} (h1 : -1000000000 ≤ x.toInt ∧ x.toInt ≤ 1000000000) (h2 : -1000000000 ≤ y.toInt ∧ y.toInt ≤ 1000000000) : (x + y).toInt = x.toInt + y.toInt := by
  rw [Int32.toInt_add]
  exact Int.bmod_eq_of_le (by omega) (by omega)
theorem sub32 {x y : Int32} (h1 : -1000000000 ≤ x.toInt ∧ x.toInt ≤ 1000000000) (h2 : -1000000000 ≤ y.toInt ∧ y.toInt ≤ 1000000000) : (x - y).toInt = x.toInt - y.toInt := by
  rw [Int32.toInt_sub]
  exact Int.bmod_eq_of_le (by omega) (by omega)
/-- a better value comes to v, by u -/
theorem SM.up (hA : A ≤ 8) (hB : B ≤ 10) (hπ : ∀ u v g, ArcM A B w fx mt al u v g → π u + g ≤ π v) (hU : ∀ a e, a < A → e < B → fx (10 * a + e) = 0 → mt (10 * a + e) = 1 → π a ≤ π 18) (hw : ∀ p, p < 80 → w p ≤ 100)
    (H : SM A B w fx mt al π f fr) {u v : Nat} {g : Int} {x b : Int32} (hu : rdM f u) (hu18 : u < 18) (ha : ArcM A B w fx mt al u v g) (hv : v < 18) (hx : x.toInt = DM f u + g) (hn : (f v).toInt < x.toInt) (hb : (v < 8 → ∃ k, k < B ∧ b = nI k ∧ u = 8 + k) ∧ (8 ≤ v → b = nI u ∧ u < A)) :
    SM A B w fx mt al π (fun j => if j = v then x else f j) (fun j => if j = v then b else fr j) ∧ muM (fun j => if j = v then x else f j) < muM f := by
  obtain ⟨h1, h2, h3, h4⟩ := H
  have hg : -100 ≤ g ∧ g ≤ 100 := by
    rcases ha with ⟨a, e, a1, a2, a3, a4, a5, a6, a7⟩ | ⟨a, e, a1, a2, a3, a4, a5, a6, a7⟩ | a1
    · have := hw (10 * a + e) (by omega); omega
    · have := hw (10 * a + e) (by omega); omega
    · omega
  have eDu : DM f u = (f u).toInt := if_neg (by omega)
  have hfu : f u ≠ -1000000000 := by rcases hu with q | q
                                     · omega
                                     · exact q.2
  have bu := h2 u hu18 hfu
  have cr := crM_le f
  have xne : x ≠ -1000000000 := fun e => by
    have := farT
    rw [e, farT] at hx
    omega
  have nrd : ¬ rdM f v ∨ DM f v < DM f u + g := by
    by_cases q : f v = -1000000000
    · left; rintro (e | e)
      · omega
      · exact e.2 q
    · right
      have : DM f v = (f v).toInt := if_neg (by omega)
      omega
  have al0 : v < 8 → al v = 0 := by
    intro v8
    rcases Nat.eq_zero_or_pos (al v) with q | q
    · exact q
    · exfalso
      rcases ha with ⟨a, e, a1, a2, a3, a4, a5, a6, a7⟩ | ⟨a, e, a1, a2, a3, a4, a5, a6, a7⟩ | a1
      · omega
      · subst a4
        have f0 := h3 v a1 q
        have b1 := hU v e a1 a2 a5 a6
        have b2 := h1.2.2.1 u hu
        have b3 := hπ u v g (Or.inr (Or.inl ⟨v, e, a1, a2, a3, rfl, a5, a6, a7⟩))
        rw [f0] at hn
        have : (0 : Int32).toInt = 0 := rfl
        omega
      · omega
  have K := Sk_step hπ h1 hu ha (by omega) nrd
  have e1 : rdM (fun j => if j = v then x else f j) = fun y => y = v ∨ rdM f y := by
    funext y
    apply propext
    simp only [rdM]
    by_cases e : y = v
    · subst e; simp only [if_true, true_or, iff_true]; exact Or.inr ⟨hv, xne⟩
    · simp [e]
  have e2 : DM (fun j => if j = v then x else f j) = fun y => if y = v then DM f u + g else DM f y := by
    funext y
    simp only [DM]
    by_cases e : y = v
    · subst e
      rw [if_neg (by omega), if_pos rfl, if_pos rfl]; rw [hx]; rfl
    · simp only [if_neg e]
  have e3 : bM al (fun j => if j = v then b else fr j) = fun y => if y = v then u else bM al fr y := by
    funext y
    by_cases e : y = v
    · subst e
      simp only [if_true]
      unfold bM
      by_cases y8 : y < 8
      · rw [if_pos y8, if_neg (by have := al0 y8; omega)]
        obtain ⟨k, k1, k2, k3⟩ := hb.1 y8
        simp only [if_true, k2]
        rw [nI_clamp (by omega)]; omega
      · rw [if_neg y8, if_neg (by omega)]
        have k := hb.2 (by omega)
        simp only [if_true, k.1]
        exact nI_clamp (by omega)
    · simp only [bM, if_neg e]
  have crle : crM f ≤ crM (fun j => if j = v then x else f j) ∧ (f v = -1000000000 → crM f + 1 ≤ crM (fun j => if j = v then x else f j)) := by
    have k : crM (fun j => if j = v then x else f j) + (if f v = -1000000000 then 0 else 1) = crM f + (if (if v = v then x else f v) = -1000000000 then 0 else 1) := smN_at (f := fun y => if (if y = v then x else f y) = -1000000000 then 0 else 1) (g := fun y => if f y = -1000000000 then 0 else 1) (n := 18) (j := v) hv (fun y _ hy => by simp only [if_neg hy])
    rw [if_pos rfl, if_neg xne] at k
    constructor
    · by_cases q : f v = -1000000000
      · rw [if_pos q] at k; omega
      · rw [if_neg q] at k; omega
    · intro q
      rw [if_pos q] at k; omega
  refine ⟨⟨by rw [e1, e2, e3]; exact K, fun y hy hne => ?_, fun y hy hal => ?_, fun y hy hne => ?_⟩, ?_⟩
  · by_cases e : y = v
    · subst e
      simp only [if_true]
      refine ⟨?_, fun y8 => ⟨?_, ?_⟩, fun y8 => ?_⟩
      · by_cases q : f y = -1000000000
        · have := crle.2 q; omega
        · have := h2 y hy q; omega
      · rcases ha with ⟨a, e, a1, a2, a3, a4, a5, a6, a7⟩ | ⟨a, e, a1, a2, a3, a4, a5, a6, a7⟩ | a1 <;> omega
      · rcases ha with ⟨a, e, a1, a2, a3, a4, a5, a6, a7⟩ | ⟨a, e, a1, a2, a3, a4, a5, a6, a7⟩ | a1
        · omega
        · subst a4
          have b1 := hU y e a1 a2 a5 a6
          have b2 := h1.2.2.1 u hu
          have b3 := hπ u y g (Or.inr (Or.inl ⟨y, e, a1, a2, a3, rfl, a5, a6, a7⟩))
          omega
        · omega
      · have k := hb.2 y8
        have := bu.2.1 (by omega)
        omega
    · simp only [if_neg e] at hne ⊢
      have q := h2 y hy hne
      have := crle.1
      exact ⟨by omega, q.2.1, q.2.2⟩
  · have e : y ≠ v := fun e => by
      subst e
      have := al0 (by omega); omega
    simp only [if_neg e]; exact h3 y hy hal
  · by_cases e : y = v
    · subst e
      simp only [if_true]
      exact ⟨fun y8 _ => by obtain ⟨k, k1, k2, _⟩ := hb.1 y8; exact ⟨k, k1, k2⟩, fun y8 => ⟨u, (hb.2 y8).2, (hb.2 y8).1⟩⟩
    · simp only [if_neg e] at hne ⊢
      exact h4 y hy hne
  · have k : muM (fun j => if j = v then x else f j) + (200 - (f v).toInt).toNat = muM f + (200 - (if v = v then x else f v).toInt).toNat := smN_at (f := fun y => (200 - (if y = v then x else f y).toInt).toNat) (g := fun y => (200 - (f y).toInt).toNat) (n := 18) (j := v) hv (fun y _ hy => by simp only [if_neg hy])
    rw [if_pos rfl] at k
    have xl : x.toInt ≤ 100 := by
      by_cases v8 : v < 8
      · rcases ha with ⟨a, e, a1, a2, a3, a4, a5, a6, a7⟩ | ⟨a, e, a1, a2, a3, a4, a5, a6, a7⟩ | a1
        · omega
        · have := bu.2.2 (by omega); omega
        · omega
      · have k := hb.2 (by omega)
        have := bu.2.1 (by omega); omega
    omega
theorem SM.init (hA : A ≤ 8) (hf : ∀ v, v < 18 → f v = if v < A ∧ 0 < al v then 0 else -1000000000) (hp : ∀ v, v < A → 0 < al v → π 18 ≤ π v) : SM A B w fx mt al π f fr := by
  have r : ∀ v, v < 18 → (f v ≠ -1000000000 ↔ (v < A ∧ 0 < al v)) := by
    intro v hv
    rw [hf v hv]
    by_cases q : v < A ∧ 0 < al v
    · rw [if_pos q]; exact ⟨fun _ => q, fun _ => by decide⟩
    · rw [if_neg q]; exact ⟨fun h => absurd rfl h, fun h => absurd h q⟩
  have z : ∀ v, v < 18 → f v ≠ -1000000000 → f v = 0 := fun v hv hne => by rw [hf v hv, if_pos ((r v hv).mp hne)]
  refine ⟨⟨⟨Or.inl rfl, rfl⟩, fun v hv => ?_, fun v hv => ?_, fun v hv hne => ?_, fun v hv => ?_⟩, fun v hv hne => ?_, fun v hv hal => ?_, fun v hv hne => ?_⟩
  · rcases hv with q | q <;> omega
  · rcases hv with q | q
    · subst q; unfold DM; rw [if_pos rfl]; omega
    · have k := (r v q.1).mp q.2
      unfold DM; rw [if_neg (by omega), z v q.1 q.2]
      have := hp v k.1 k.2
      have : (0 : Int32).toInt = 0 := rfl
      omega
  · rcases hv with q | q
    · exact absurd q hne
    · have k := (r v q.1).mp q.2
      have e : bM al fr v = 18 := by unfold bM; rw [if_pos (by omega), if_pos k.2]
      rw [e]
      refine ⟨Or.inl rfl, 0, Or.inr (Or.inr ⟨rfl, k.1, k.2, rfl⟩), ?_⟩
      unfold DM; rw [if_neg (by omega), if_pos rfl, z v q.1 q.2]; decide
  · rcases hv with q | q
    · exact ⟨0, q⟩
    · have k := (r v q.1).mp q.2
      refine ⟨1, ?_⟩
      show bM al fr v = 18
      unfold bM; rw [if_pos (by omega), if_pos k.2]
  · have k := (r v hv).mp hne
    rw [z v hv hne]
    have : (0 : Int32).toInt = 0 := rfl
    exact ⟨by omega, fun _ => ⟨k.1, by omega⟩, fun _ => by omega⟩
  · rw [hf v (by omega), if_pos ⟨hv, hal⟩]
  · have k := (r v hv).mp hne
    exact ⟨fun _ h => by omega, fun h => by omega⟩
end SMs
/-- the reference's rows far and from in the heap -/
def rmI (I : gI) (ad : Nat → Nat) (f fr : Nat → Int32) : gI := va_up (va_up I (ad 15) f) (ad 16) fr
theorem rmI_o {T : gSh} {R : gR} {m : Nat} {ad : Nat → Nat} {I : gI} {f fr : Nat → Int32} (h : MO T R m ad) (k : Nat) (hk : mA k = true) (h1 : k ≠ 15) (h2 : k ≠ 16) : rmI I ad f fr (ad k) = I (ad k) := by
  unfold rmI
  rw [vu_n _ _ (h.ne k 16 hk rfl h2), vu_n _ _ (h.ne k 15 hk rfl h1)]
theorem rmI_m {T : gSh} {R : gR} {m : Nat} {ad : Nat → Nat} {I : gI} {f fr : Nat → Int32} (h : MO T R m ad) : rmI I ad f fr m = I m := by
  unfold rmI
  rw [vu_n _ _ (Ne.symm (h.nm 16 rfl)), vu_n _ _ (Ne.symm (h.nm 15 rfl))]
theorem rmI_f {T : gSh} {R : gR} {m : Nat} {ad : Nat → Nat} {I : gI} {f fr : Nat → Int32} (h : MO T R m ad) : rmI I ad f fr (ad 15) = f := by
  unfold rmI
  rw [vu_n _ _ (h.ne 15 16 rfl rfl (by decide)), vu_s]
theorem rmI_fr {ad : Nat → Nat} {I : gI} {f fr : Nat → Int32} : rmI I ad f fr (ad 16) = fr := vu_s _ _ _
/-- the reference's meetings in the heap: agents, editors, worths, fixed, met, what is left -/
def MS (I : gI) (m : Nat) (ad : Nat → Nat) (A B : Nat) (w fx mt al el : Nat → Nat) : Prop := (I m 7 = nI A ∧ A ≤ 8) ∧ (I m 8 = nI B ∧ B ≤ 10) ∧ (∀ p, p < 80 → I (ad 10) p = nI (w p) ∧ w p ≤ 100) ∧ (∀ p, p < 80 → I (ad 11) p = nI (fx p) ∧ fx p ≤ 2) ∧ (∀ a e, a < A → e < B → I (ad 12) (10 * a + e) = nI (mt (10 * a + e)) ∧ mt (10 * a + e) ≤ 1) ∧ (∀ a, a < A → I (ad 13) a = nI (al a) ∧ al a ≤ 8) ∧ (∀ e, e < B → I (ad 14) e = nI (el e) ∧ el e ≤ 8)
/-- the end of ways() -/
def PM (T : gSh) (J : gJ) (R : gR) (I : gI) (ad : Nat → Nat) (A B : Nat) (w fx mt al : Nat → Nat) (π : Nat → Int) : gPost := fun r T' I' J' R' => r = none ∧ T = T' ∧ J = J' ∧ R = R' ∧ ∃ f fr : Nat → Int32, I' = rmI I ad f fr ∧ SM A B w fx mt al π f fr ∧ ∀ u v g, rdM f u → ArcM A B w fx mt al u v g → rdM f v ∧ DM f u + g ≤ DM f v
