/-! ===== the search for ways of most gain: rows and what holds of them ===== -/
def Dv (Hh Ll : Nat → Int64) (v : Nat) : Int := (Hh v).toInt * 2 ^ 100 + (Ll v).toInt
def rch (F : Nat → Int32) (v : Nat) : Prop := v < 19 ∧ F v ≠ -1
def bfn (F : Nat → Int32) (v : Nat) : Nat := (F v).toNatClampNeg
def wi (K : Int) (x : Int64) : Prop := -K ≤ x.toInt ∧ x.toInt ≤ K
def SI (Arc : Nat → Nat → Int → Prop) (π : Nat → Int) (s : Nat) (K : Int) (F : Nat → Int32) (Hh Ll : Nat → Int64) : Prop :=
  Sk Arc π s (rch F) (Dv Hh Ll) (bfn F) ∧ (∀ v, rch F v → F v = nI (bfn F v) ∧ bfn F v < 19 ∧ wi K (Hh v) ∧ wi K (Ll v))
/-- what a node's steps do to the rows -/
def RX (Arc : Nat → Nat → Int → Prop) (u : Nat) (F0 B0 : Nat → Int32) (H0 L0 : Nat → Int64) (F B : Nat → Int32) (Hh Ll : Nat → Int64) : Prop :=
  (∀ x, rch F0 x → rch F x ∧ Dv H0 L0 x ≤ Dv Hh Ll x) ∧ (F u = F0 u ∧ B u = B0 u ∧ Hh u = H0 u ∧ Ll u = L0 u) ∧ (∀ x, B x = 1 ∨ (B x = B0 x ∧ F x = F0 x ∧ Hh x = H0 x ∧ Ll x = L0 x)) ∧ ((∀ v g, Arc u v g → rch F0 v ∧ Dv H0 L0 u + g ≤ Dv H0 L0 v) → F = F0 ∧ B = B0 ∧ Hh = H0 ∧ Ll = L0) ∧ (∀ x, B x = B0 x ∨ (B x = 1 ∧ rch F x))
theorem RX.rf {Arc : Nat → Nat → Int → Prop} {u : Nat} {F B : Nat → Int32} {Hh Ll : Nat → Int64} : RX Arc u F B Hh Ll F B Hh Ll :=
  ⟨fun _ h => ⟨h, Int.le_refl _⟩, ⟨rfl, rfl, rfl, rfl⟩, fun _ => Or.inr ⟨rfl, rfl, rfl, rfl⟩, fun _ => ⟨rfl, rfl, rfl, rfl⟩, fun _ => Or.inl rfl⟩
theorem RX.tr {Arc : Nat → Nat → Int → Prop} {u : Nat} {F0 B0 F1 B1 F2 B2 : Nat → Int32} {H0 L0 H1 L1 H2 L2 : Nat → Int64} (a : RX Arc u F0 B0 H0 L0 F1 B1 H1 L1) (b : RX Arc u F1 B1 H1 L1 F2 B2 H2 L2) : RX Arc u F0 B0 H0 L0 F2 B2 H2 L2 := by
  obtain ⟨a1, ⟨a2, a3, a4, a5⟩, a6, a7, a8⟩ := a
  obtain ⟨b1, ⟨b2, b3, b4, b5⟩, b6, b7, b8⟩ := b
  refine ⟨fun x h => ?_, ⟨b2.trans a2, b3.trans a3, b4.trans a4, b5.trans a5⟩, fun x => ?_, fun h => ?_, fun x => ?_⟩
  · have h1 := a1 x h; have h2 := b1 x h1.1
    exact ⟨h2.1, Int.le_trans h1.2 h2.2⟩
  · rcases b6 x with h | ⟨h1, h2, h3, h4⟩
    · exact Or.inl h
    · rcases a6 x with g | ⟨g1, g2, g3, g4⟩
      · exact Or.inl (h1.trans g)
      · exact Or.inr ⟨h1.trans g1, h2.trans g2, h3.trans g3, h4.trans g4⟩
  · obtain ⟨e1, e2, e3, e4⟩ := a7 h
    subst e1; subst e2; subst e3; subst e4
    exact b7 h
  · rcases b8 x with h | h
    · rcases a8 x with g | g
      · exact Or.inl (h.trans g)
      · exact Or.inr ⟨h.trans g.1, (b1 x g.2).1⟩
    · exact Or.inr h
/-- the rows behind one step -/
abbrev scC (F : Nat → Int32) (Hh Ll : Nat → Int64) (u v : Nat) (h g : Int64) : Prop := F v = -1 ∨ gai (Hh u + h - Hh v) (Ll u + g - Ll v)
def scF (F : Nat → Int32) (Hh Ll : Nat → Int64) (u v : Nat) (h g : Int64) : Nat → Int32 := if scC F Hh Ll u v h g then (fun j => if j = v then nI u else F j) else F
def scB (F B : Nat → Int32) (Hh Ll : Nat → Int64) (u v : Nat) (h g : Int64) : Nat → Int32 := if scC F Hh Ll u v h g then (fun j => if j = v then 1 else B j) else B
def scH (F : Nat → Int32) (Hh Ll : Nat → Int64) (u v : Nat) (h g : Int64) : Nat → Int64 := if scC F Hh Ll u v h g then (fun j => if j = v then Hh u + h else Hh j) else Hh
def scL (F : Nat → Int32) (Hh Ll : Nat → Int64) (u v : Nat) (h g : Int64) : Nat → Int64 := if scC F Hh Ll u v h g then (fun j => if j = v then Ll u + g else Ll j) else Ll
theorem nI_ne1 {u : Nat} (h : u < 2 ^ 31) : nI u ≠ -1 := by
  intro e
  have h1 := nI_toInt h
  rw [e] at h1
  have h2 : (-1 : Int32).toInt = -1 := rfl
  omega
set_option maxHeartbeats 1000000 in
theorem relax {Arc : Nat → Nat → Int → Prop} {π : Nat → Int} {s u v : Nat} {K K' : Int} {F B : Nat → Int32} {Hh Ll : Nat → Int64} {h g : Int64} {w : Int} (hπ : ∀ u v g, Arc u v g → π u + g ≤ π v) (hS : SI Arc π s K' F Hh Ll) (hu : rch F u) (hub : wi K (Hh u) ∧ wi K (Ll u)) (hK : K + 2 ^ 50 ≤ K') (hK2 : K' ≤ 2 ^ 60) (ha : Arc u v w) (hv : v < 19) (hw : w = h.toInt * 2 ^ 100 + g.toInt) (hh : wi (2 ^ 50) h) (hg : wi (2 ^ 50) g) :
    SI Arc π s K' (scF F Hh Ll u v h g) (scH F Hh Ll u v h g) (scL F Hh Ll u v h g) ∧ RX Arc u F B Hh Ll (scF F Hh Ll u v h g) (scB F B Hh Ll u v h g) (scH F Hh Ll u v h g) (scL F Hh Ll u v h g) ∧ rch (scF F Hh Ll u v h g) v ∧ Dv Hh Ll u + w ≤ Dv (scH F Hh Ll u v h g) (scL F Hh Ll u v h g) v := by
  obtain ⟨hS1, hS2⟩ := hS
  simp only [wi] at hub hh hg
  have e1 : (Hh u + h).toInt = (Hh u).toInt + h.toInt := add64 (by omega) (by omega)
  have e2 : (Ll u + g).toInt = (Ll u).toInt + g.toInt := add64 (by omega) (by omega)
  have hu19 : u < 19 := hu.1
  -- the comparison is that of the gains
  have cmp : rch F v → (gai (Hh u + h - Hh v) (Ll u + g - Ll v) ↔ Dv Hh Ll v < Dv Hh Ll u + w) := by
    intro hr
    have b := (hS2 v hr).2.2
    simp only [wi] at b
    have e3 : (Hh u + h - Hh v).toInt = (Hh u).toInt + h.toInt - (Hh v).toInt := by rw [sub64 (by rw [e1]; omega) (by omega), e1]
    have e4 : (Ll u + g - Ll v).toInt = (Ll u).toInt + g.toInt - (Ll v).toInt := by rw [sub64 (by rw [e2]; omega) (by omega), e2]
    simp only [gai, e3, e4, Dv, hw]
    omega
  by_cases hc : scC F Hh Ll u v h g
  · have hn : ¬ rch F v ∨ Dv Hh Ll v < Dv Hh Ll u + w := by
      by_cases hr : rch F v
      · rcases hc with hc | hc
        · exact absurd hc hr.2
        · exact Or.inr ((cmp hr).mp hc)
      · exact Or.inl hr
    have huv : u ≠ v := by
      rintro rfl
      rcases hn with hn | hn
      · exact hn hu
      · have := hπ u u w ha; omega
    have hSk := Sk_step hπ hS1 hu ha hv hn
    have eF : scF F Hh Ll u v h g = fun j => if j = v then nI u else F j := if_pos hc
    have eB : scB F B Hh Ll u v h g = fun j => if j = v then 1 else B j := if_pos hc
    have eH : scH F Hh Ll u v h g = fun j => if j = v then Hh u + h else Hh j := if_pos hc
    have eL : scL F Hh Ll u v h g = fun j => if j = v then Ll u + g else Ll j := if_pos hc
    have r1 : rch (scF F Hh Ll u v h g) = fun x => x = v ∨ rch F x := by
      funext x
      apply propext
      rw [eF]
      simp only [rch]
      by_cases hx : x = v
      · subst hx
        simp only [if_true, true_or, iff_true]
        exact ⟨hv, nI_ne1 (by omega)⟩
      · simp [hx]
    have r2 : Dv (scH F Hh Ll u v h g) (scL F Hh Ll u v h g) = fun x => if x = v then Dv Hh Ll u + w else Dv Hh Ll x := by
      funext x
      rw [eH, eL]
      simp only [Dv]
      by_cases hx : x = v
      · simp only [if_pos hx, e1, e2, hw]; omega
      · simp only [if_neg hx]
    have r3 : bfn (scF F Hh Ll u v h g) = fun x => if x = v then u else bfn F x := by
      funext x
      rw [eF]
      simp only [bfn]
      by_cases hx : x = v
      · simp only [if_pos hx]; exact nI_clamp (by omega)
      · simp only [if_neg hx]
    refine ⟨⟨by rw [r1, r2, r3]; exact hSk, fun x hx => ?_⟩, ⟨fun x hx => ?_, ?_, fun x => ?_, fun hid => ?_, fun x => ?_⟩, ?_, ?_⟩
    · rw [r3, eF, eH, eL]
      simp only [wi]
      by_cases e : x = v
      · simp only [if_pos e]
        exact ⟨trivial, hu19, by rw [e1]; omega, by rw [e2]; omega⟩
      · simp only [if_neg e]
        rw [r1] at hx
        rcases hx with hx | hx
        · exact absurd hx e
        · exact hS2 x hx
    · rw [r1, r2]
      refine ⟨Or.inr hx, ?_⟩
      by_cases e : x = v
      · simp only [if_pos e]
        subst e
        rcases hn with hn | hn
        · exact absurd hx hn
        · omega
      · simp only [if_neg e]; exact Int.le_refl _
    · rw [eF, eB, eH, eL]
      simp only [if_neg huv]
      exact ⟨trivial, trivial, trivial, trivial⟩
    · rw [eF, eB, eH, eL]
      by_cases e : x = v
      · simp only [if_pos e]; exact Or.inl trivial
      · simp only [if_neg e]; exact Or.inr ⟨trivial, trivial, trivial, trivial⟩
    · have := hid v w ha
      rcases hn with hn | hn
      · exact absurd this.1 hn
      · omega
    · rw [r1, eB]
      by_cases e : x = v
      · simp only [if_pos e]; exact Or.inr ⟨trivial, Or.inl e⟩
      · simp only [if_neg e]; exact Or.inl trivial
    · rw [r1]; exact Or.inl rfl
    · rw [r2]; simp
  · have hr : rch F v := ⟨hv, fun e => hc (Or.inl e)⟩
    have hge : ¬ Dv Hh Ll v < Dv Hh Ll u + w := fun q => hc (Or.inr ((cmp hr).mpr q))
    have eF : scF F Hh Ll u v h g = F := if_neg hc
    have eB : scB F B Hh Ll u v h g = B := if_neg hc
    have eH : scH F Hh Ll u v h g = Hh := if_neg hc
    have eL : scL F Hh Ll u v h g = Ll := if_neg hc
    rw [eF, eB, eH, eL]
    exact ⟨⟨hS1, hS2⟩, RX.rf, hr, by omega⟩
/-- the rows of a search in the heap -/
def rwI (I : gI) (ca : Nat → Nat) (F B : Nat → Int32) : gI := va_up (va_up I (ca 21) F) (ca 22) B
def rwJ (J : gJ) (ca : Nat → Nat) (Hh Ll : Nat → Int64) : gJ := va_up (va_up J (ca 19) Hh) (ca 20) Ll
section RW
variable {T : gSh} {R : gR} {ca : Nat → Nat} {I : gI} {J : gJ} {F B : Nat → Int32} {Hh Ll : Nat → Int64}
theorem rwI_o (h : CO T R ca) (i : Nat) (hi : i < 30) (h1 : i ≠ 21) (h2 : i ≠ 22) : rwI I ca F B (ca i) = I (ca i) := by
  unfold rwI
  rw [vu_n _ _ (h.ne i 22 hi (by decide) h2), vu_n _ _ (h.ne i 21 hi (by decide) h1)]
theorem rwI_F (h : CO T R ca) : rwI I ca F B (ca 21) = F := by
  unfold rwI
  rw [vu_n _ _ (h.ne 21 22 (by decide) (by decide) (by decide)), vu_s]
theorem rwI_B : rwI I ca F B (ca 22) = B := vu_s _ _ _
theorem rwJ_H (h : CO T R ca) : rwJ J ca Hh Ll (ca 19) = Hh := by
  unfold rwJ
  rw [vu_n _ _ (h.ne 19 20 (by decide) (by decide) (by decide)), vu_s]
theorem rwJ_L : rwJ J ca Hh Ll (ca 20) = Ll := vu_s _ _ _
theorem rw_id (h : CO T R ca) : rwI I ca (I (ca 21)) (I (ca 22)) = I := by
  unfold rwI
  rw [vu_id]
  exact vu_id I (ca 22)
theorem rw_idJ (h : CO T R ca) : rwJ J ca (J (ca 19)) (J (ca 20)) = J := by
  unfold rwJ
  rw [vu_id]
  exact vu_id J (ca 20)
theorem rw_st (h : CO T R ca) (u v : Nat) (x y : Int64) : stI (rwI I ca F B) (rwJ J ca Hh Ll) ca u v x y = rwI I ca (scF F Hh Ll u v x y) (scB F B Hh Ll u v x y) ∧ stJ (rwI I ca F B) (rwJ J ca Hh Ll) ca u v x y = rwJ J ca (scH F Hh Ll u v x y) (scL F Hh Ll u v x y) := by
  have e : stC (rwI I ca F B) (rwJ J ca Hh Ll) ca u v x y ↔ scC F Hh Ll u v x y := by
    simp only [stC, scC]
    rw [rwI_F h, rwJ_H h, rwJ_L]
  by_cases hc : scC F Hh Ll u v x y
  · have hc' := e.mpr hc
    refine ⟨?_, ?_⟩
    · unfold stI scF scB
      rw [if_pos hc', if_pos hc, if_pos hc]
      unfold rwI
      rw [u2_out _ _ _ _ (h.ne 21 22 (by decide) (by decide) (by decide)), u2_in, u2_in]
    · unfold stJ scH scL
      rw [if_pos hc', if_pos hc, if_pos hc, rwJ_H h, rwJ_L]
      unfold rwJ
      rw [u2_out _ _ _ _ (h.ne 19 20 (by decide) (by decide) (by decide)), u2_in, u2_in]
  · have hc' : ¬ stC (rwI I ca F B) (rwJ J ca Hh Ll) ca u v x y := fun q => hc (e.mp q)
    refine ⟨?_, ?_⟩
    · unfold stI scF scB
      rw [if_neg hc', if_neg hc, if_neg hc]
    · unfold stJ scH scL
      rw [if_neg hc', if_neg hc, if_neg hc]
/-- step(), in rows -/
theorem c_stepR (l : Launch) (hC : CO T R ca) {u v : Nat} (hu : u < 19) (hv : v < 19) (x y : Int64) : Con l yX1_step wsX1_step ({ frames := 1, cells := 0, slots := 0, locals := 26 }) [.ref (ca 14), .int (nI u), .int (nI v), .long x, .long y] T (rwI I ca F B) (rwJ J ca Hh Ll) R (gP none T (rwI I ca (scF F Hh Ll u v x y) (scB F B Hh Ll u v x y)) (rwJ J ca (scH F Hh Ll u v x y) (scL F Hh Ll u v x y)) R) := by
  have h := c_step l (I := rwI I ca F B) (J := rwJ J ca Hh Ll) hC hu hv x y
  rw [(rw_st hC u v x y).1, (rw_st hC u v x y).2] at h
  exact h
end RW
/-- the best set in the heap: the half hours, the worths told, the chosen pairs, the meetings of each -/
def BS (I : gI) (ca : Nat → Nat) (h : Nat) (w c dg : Nat → Nat) : Prop := I (ca 14) 0 = nI h ∧ (h ≤ 8) ∧ (∀ p, p < 80 → I (ca 17) p = nI (w p) ∧ w p ≤ 100) ∧ (∀ p, p < 80 → I (ca 16) p = nI (c p) ∧ c p ≤ 1) ∧ (∀ n, n < 18 → I (ca 18) n = nI (dg n) ∧ dg n ≤ 10)
def wt (w p : Nat) : Int := hwI w p * 2 ^ 100 + lwI p
/-- the steps that can be made, but not by the pair q -/
def ArcB (h : Nat) (w c dg : Nat → Nat) (q : Nat) : Nat → Nat → Int → Prop := fun u v g =>
  (∃ a e, a < 8 ∧ e < 10 ∧ u = a ∧ v = 8 + e ∧ 0 < w (10 * a + e) ∧ c (10 * a + e) = 0 ∧ 10 * a + e ≠ q ∧ g = wt (w (10 * a + e)) (10 * a + e))
  ∨ (∃ a e, a < 8 ∧ e < 10 ∧ u = 8 + e ∧ v = a ∧ c (10 * a + e) = 1 ∧ 10 * a + e ≠ q ∧ g = -wt (w (10 * a + e)) (10 * a + e))
  ∨ (u < 8 ∧ v = 18 ∧ 0 < dg u ∧ g = 0)
  ∨ (8 ≤ u ∧ u < 18 ∧ v = 18 ∧ dg u < h ∧ g = 0)
  ∨ (u = 18 ∧ v < 8 ∧ dg v < h ∧ g = 0)
  ∨ (u = 18 ∧ 8 ≤ v ∧ v < 18 ∧ 0 < dg v ∧ g = 0)
/-- ways of at most k steps from s -/
def Wk (Arc : Nat → Nat → Int → Prop) (s : Nat) : Nat → Nat → Int → Prop
  | 0, v, g => v = s ∧ g = 0
  | k + 1, v, g => Wk Arc s k v g ∨ ∃ u g1 g2, Wk Arc s k u g1 ∧ Arc u v g2 ∧ g = g1 + g2
theorem Wk_mono {Arc : Nat → Nat → Int → Prop} {s i k v : Nat} {g : Int} (h : Wk Arc s k v g) (hk : k ≤ i) : Wk Arc s i v g := by
  induction i with
  | zero => have : k = 0 := by omega
            subst this; exact h
  | succ i ih =>
    by_cases e : k = i + 1
    · subst e; exact h
    · exact Or.inl (ih (by omega))
theorem SI.mono {Arc : Nat → Nat → Int → Prop} {π : Nat → Int} {s : Nat} {K K' : Int} {F : Nat → Int32} {Hh Ll : Nat → Int64} (h : SI Arc π s K F Hh Ll) (hK : K ≤ K') : SI Arc π s K' F Hh Ll := by
  refine ⟨h.1, fun v hv => ?_⟩
  have := h.2 v hv
  simp only [wi] at this ⊢
  exact ⟨this.1, this.2.1, by omega, by omega⟩
/-- what holds while a round goes on: i rounds are done, j nodes of this one -/
def SV (Arc : Nat → Nat → Int → Prop) (π : Nat → Int) (s i j g : Nat) (F B : Nat → Int32) (Hh Ll : Nat → Int64) : Prop :=
  SI Arc π s (((19 * i + j : Nat) : Int) * 2 ^ 50) F Hh Ll ∧ (∀ u, rch F u → B u = 0 → ∀ v g, Arc u v g → rch F v ∧ Dv Hh Ll u + g ≤ Dv Hh Ll v) ∧ (∀ v, v < 19 → B v = 0 ∨ B v = 1) ∧ (∀ v, v < 19 → B v ≠ 0 → rch F v) ∧ (∀ v g, Wk Arc s i v g → rch F v ∧ g ≤ Dv Hh Ll v) ∧ (∀ x, x < j → ∀ g1, Wk Arc s i x g1 → ∀ v g2, Arc x v g2 → rch F v ∧ g1 + g2 ≤ Dv Hh Ll v) ∧ ((g = 0 ∨ 18 ≤ i) → ∀ x, x < j → B x = 0)
section SVs
variable {Arc : Nat → Nat → Int → Prop} {π : Nat → Int} {s i j g : Nat} {F B : Nat → Int32} {Hh Ll : Nat → Int64}
theorem SV.skip (h : SV Arc π s i j g F B Hh Ll) (hj : j < 19) (hb : B j = 0) : SV Arc π s i (j + 1) g F B Hh Ll := by
  obtain ⟨h1, h2, h3, h4, h5, h6, h7⟩ := h
  refine ⟨h1.mono (by omega), h2, h3, h4, h5, fun x hx g1 hw v g2 ha => ?_, fun hg x hx => ?_⟩
  · by_cases e : x = j
    · subst e
      have a := h5 x g1 hw
      have b := h2 x a.1 hb v g2 ha
      exact ⟨b.1, by omega⟩
    · exact h6 x (by omega) g1 hw v g2 ha
  · by_cases e : x = j
    · subst e; exact hb
    · exact h7 hg x (by omega)
theorem SV.proc (hπ : ∀ u v g, Arc u v g → π u + g ≤ π v) (hA : ∀ u v g, Arc u v g → v < 19) (h : SV Arc π s i j g F B Hh Ll) (hj : j < 19) (hr : rch F j) {F' B' : Nat → Int32} {H' L' : Nat → Int64} (hS : SI Arc π s (((19 * i + (j + 1) : Nat) : Int) * 2 ^ 50) F' H' L') (hX : RX Arc j F (fun x => if x = j then 0 else B x) Hh Ll F' B' H' L') (hc : ∀ v g, Arc j v g → rch F' v ∧ Dv Hh Ll j + g ≤ Dv H' L' v) : SV Arc π s i (j + 1) 1 F' B' H' L' := by
  obtain ⟨h1, h2, h3, h4, h5, h6, h7⟩ := h
  obtain ⟨x1, ⟨x2, x3, x4, x5⟩, x6, x7, x8⟩ := hX
  have eD : Dv H' L' j = Dv Hh Ll j := by simp only [Dv]; rw [x4, x5]
  have xj : B' j = 0 := by rw [x3]; simp
  refine ⟨hS, fun u hu hb v g ha => ?_, fun v hv => ?_, fun v hv hb => ?_, fun v g hw => ?_, fun x hx g1 hw v g2 ha => ?_, fun hg x hx => ?_⟩
  · by_cases e : u = j
    · subst e
      rw [eD]; exact hc v g ha
    · rcases x6 u with q | ⟨q1, q2, q3, q4⟩
      · rw [q] at hb; exact absurd hb (by decide)
      · have eu : Dv H' L' u = Dv Hh Ll u := by simp only [Dv]; rw [q3, q4]
        have b0 : B u = 0 := by rw [q1] at hb; simpa [e] using hb
        have r0 : rch F u := ⟨hu.1, by rw [← q2]; exact hu.2⟩
        have a := h2 u r0 b0 v g ha
        have b := x1 v a.1
        rw [eu]
        exact ⟨b.1, by omega⟩
  · rcases x8 v with q | q
    · rw [q]
      by_cases e : v = j
      · simp [e]
      · simp only [if_neg e]; exact h3 v hv
    · exact Or.inr q.1
  · rcases x8 v with q | q
    · rw [q] at hb
      by_cases e : v = j
      · simp [e] at hb
      · simp only [if_neg e] at hb
        exact (x1 v (h4 v hv hb)).1
    · exact q.2
  · have a := h5 v g hw
    have b := x1 v a.1
    exact ⟨b.1, by omega⟩
  · by_cases e : x = j
    · subst e
      have a := h5 x g1 hw
      have b := hc v g2 ha
      exact ⟨b.1, by omega⟩
    · have a := h6 x (by omega) g1 hw v g2 ha
      have b := x1 v a.1
      exact ⟨b.1, by omega⟩
  · have hi : 18 ≤ i := by rcases hg with q | q
                           · omega
                           · exact q
    have cl := Sk_closed hπ hA h1.1 (Wk Arc s) ⟨rfl, rfl⟩ (fun k u v g1 g2 a b => Or.inr ⟨u, g1, g2, a, b, rfl⟩) (fun k hk v g hw => h5 v g (Wk_mono hw (by omega)))
    obtain ⟨e1, e2, e3, e4⟩ := x7 (fun v g ha => cl j v g hr ha)
    rw [e2]
    by_cases e : x = j
    · simp [e]
    · simp only [if_neg e]; exact h7 (Or.inr hi) x (by omega)
theorem SV.next (h : SV Arc π s i 19 g F B Hh Ll) : SV Arc π s (i + 1) 0 1 F B Hh Ll ∧ ((g = 0 ∨ 19 ≤ i + 1) → ∀ x, x < 19 → B x = 0) := by
  obtain ⟨h1, h2, h3, h4, h5, h6, h7⟩ := h
  refine ⟨⟨h1.mono (by omega), h2, h3, h4, fun v g hw => ?_, fun x hx => absurd hx (by omega), fun _ x hx => absurd hx (by omega)⟩, fun hg x hx => h7 (by omega) x hx⟩
  rcases hw with hw | ⟨u, g1, g2, hw, ha, rfl⟩
  · exact h5 v g hw
  · exact h6 u (h5 u g1 hw).1.1 g1 hw v g2 ha
theorem SV.init (hs : s < 19) (hF : ∀ v, F v = if v = s then nI s else if v < 19 then -1 else F v) (hB : ∀ v, v < 19 → B v = if v = s then 1 else 0) (hH : Hh s = 0) (hL : Ll s = 0) : SV Arc π s 0 0 1 F B Hh Ll := by
  have r : ∀ v, rch F v ↔ v = s := by
    intro v
    simp only [rch]
    rw [hF v]
    by_cases e : v = s
    · subst e; simp only [if_true, iff_true]; exact ⟨hs, nI_ne1 (by omega)⟩
    · simp only [if_neg e]
      constructor
      · rintro ⟨h1, h2⟩; rw [if_pos h1] at h2; exact absurd rfl h2
      · intro h; exact absurd h e
  have bs : bfn F s = s := by simp only [bfn]; rw [hF s, if_pos rfl]; exact nI_clamp (by omega)
  have ds : Dv Hh Ll s = 0 := by simp only [Dv]; rw [hH, hL]; decide
  refine ⟨⟨⟨⟨(r s).mpr rfl, ds⟩, fun v hv => hv.1, fun v hv => ?_, fun v hv hne => absurd ((r v).mp hv) hne, fun v hv => ⟨0, (r v).mp hv⟩⟩, fun v hv => ?_⟩, fun u hu hb => ?_, fun v hv => ?_, fun v hv hb => ?_, fun v g hw => ?_, fun x hx => absurd hx (by omega), fun _ x hx => absurd hx (by omega)⟩
  · rw [(r v).mp hv, ds]; omega
  · rw [(r v).mp hv, bs]
    refine ⟨by rw [hF s, if_pos rfl], hs, ?_, ?_⟩
    · rw [hH]; unfold wi; decide
    · rw [hL]; unfold wi; decide
  · have e := (r u).mp hu
    rw [hB u hu.1, if_pos e] at hb; exact absurd hb (by decide)
  · rw [hB v hv]; by_cases e : v = s
    · rw [if_pos e]; exact Or.inr rfl
    · rw [if_neg e]; exact Or.inl rfl
  · refine (r v).mpr ?_
    rw [hB v hv] at hb
    by_cases e : v = s
    · exact e
    · rw [if_neg e] at hb; exact absurd rfl hb
  · obtain ⟨e1, e2⟩ := hw
    subst e1; subst e2
    exact ⟨(r v).mpr rfl, by rw [ds]; omega⟩
end SVs
