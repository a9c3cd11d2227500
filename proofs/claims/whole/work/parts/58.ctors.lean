/-! ===== constructors ===== -/
/-- a cell: address, kind, length, its ints, longs, references -/
abbrev gC : Type := Nat × Nat × Nat × (Nat → Int32) × (Nat → Int64) × (Nat → Option Nat)
def zC (q kd n : Nat) : gC := (q, kd, n, fun _ => 0, fun _ => 0, fun _ => none)
def CL (T : gSh) (I : gI) (J : gJ) (R : gR) (c : gC) : Prop := c.1 ∈ T.1 ∧ T.2.1 c.1 = c.2.1 ∧ T.2.2 c.1 = c.2.2.1 ∧ I c.1 = c.2.2.2.1 ∧ J c.1 = c.2.2.2.2.1 ∧ R c.1 = c.2.2.2.2.2
def Wd (T : gSh) (I : gI) (J : gJ) (R : gR) (l : List gC) : Prop := (∀ (i : Nat) (c : gC), l[i]? = some c → CL T I J R c) ∧ ∀ (i j : Nat) (c d : gC), l[i]? = some c → l[j]? = some d → c.1 = d.1 → i = j
/-- since T0 nothing old has changed but u; the cells l are known, new but for u -/
def Bd (T0 : gSh) (I0 : gI) (J0 : gJ) (R0 : gR) (u : Nat) (T : gSh) (I : gI) (J : gJ) (R : gR) (l : List gC) : Prop := GrT T0 T ∧ (∀ x, x ∈ T0.1 → x ≠ u → I x = I0 x ∧ J x = J0 x ∧ R x = R0 x) ∧ Wd T I J R l ∧ ∀ (i : Nat) (c : gC), l[i]? = some c → c.1 = u ∨ c.1 ∉ T0.1
section BdS
variable {T0 T T' : gSh} {I0 I I' : gI} {J0 J J' : gJ} {R0 R R' : gR} {u : Nat} {l : List gC}
theorem Wd.push (h : Wd T I J R l) {q : Nat} (hq : q ∉ T.1) (kd n : Nat) : Wd (T.1 ++ [q], va_up T.2.1 q kd, va_up T.2.2 q n) (va_up I q (fun _ => 0)) (va_up J q (fun _ => 0)) (va_up R q (fun _ => none)) (l ++ [zC q kd n]) := by
  have key : ∀ (i : Nat) (c : gC), (l ++ [zC q kd n])[i]? = some c → (i < l.length ∧ l[i]? = some c) ∨ (i = l.length ∧ c = zC q kd n) := by
    intro i c hc
    by_cases hi : i < l.length
    · rw [List.getElem?_append_left hi] at hc; exact Or.inl ⟨hi, hc⟩
    · rw [List.getElem?_append_right (by omega)] at hc
      have h0 : i - l.length = 0 := by
        rcases Nat.eq_zero_or_pos (i - l.length) with z | z
        · exact z
        · rw [List.getElem?_eq_none (by simp; omega)] at hc; cases hc
      rw [h0] at hc
      exact Or.inr ⟨by omega, (Option.some.inj hc).symm⟩
  refine ⟨fun i c hc => ?_, fun i j c d hc hd e => ?_⟩
  · rcases key i c hc with ⟨hi, h1⟩ | ⟨hi, rfl⟩
    · have h2 := h.1 i c h1
      have hne : c.1 ≠ q := fun z => hq (z ▸ h2.1)
      exact ⟨List.mem_append_left _ h2.1, (vu_n _ _ hne).trans h2.2.1, (vu_n _ _ hne).trans h2.2.2.1, (vu_n _ _ hne).trans h2.2.2.2.1, (vu_n _ _ hne).trans h2.2.2.2.2.1, (vu_n _ _ hne).trans h2.2.2.2.2.2⟩
    · exact ⟨List.mem_append_right _ (by simp [zC]), vu_s _ _ _, vu_s _ _ _, vu_s _ _ _, vu_s _ _ _, vu_s _ _ _⟩
  · rcases key i c hc with ⟨hi, h1⟩ | ⟨hi, rfl⟩ <;> rcases key j d hd with ⟨hj, h2⟩ | ⟨hj, rfl⟩
    · exact h.2 i j c d h1 h2 e
    · exact absurd ((show q = c.1 from e.symm) ▸ (h.1 i c h1).1) hq
    · exact absurd ((show q = d.1 from e) ▸ (h.1 j d h2).1) hq
    · omega
theorem Wd.set (h : Wd T I J R l) {p : Nat} {c c' : gC} (hp : l[p]? = some c) (h1 : c'.1 = c.1) (hc' : CL T I' J' R' c') (ho : ∀ x, x ≠ c.1 → I' x = I x ∧ J' x = J x ∧ R' x = R x) : Wd T I' J' R' (l.set p c') := by
  have hlen : p < l.length := by
    rcases Nat.lt_or_ge p l.length with z | z
    · exact z
    · rw [List.getElem?_eq_none z] at hp; cases hp
  have key : ∀ (i : Nat) (d : gC), (l.set p c')[i]? = some d → (i = p ∧ d = c') ∨ (i ≠ p ∧ l[i]? = some d) := by
    intro i d hd
    by_cases z : p = i
    · subst z
      rw [List.getElem?_set_self hlen] at hd
      exact Or.inl ⟨rfl, (Option.some.inj hd).symm⟩
    · rw [List.getElem?_set_ne z] at hd
      exact Or.inr ⟨Ne.symm z, hd⟩
  refine ⟨fun i d hd => ?_, fun i j d d2 hd hd2 e => ?_⟩
  · rcases key i d hd with ⟨z, rfl⟩ | ⟨z, w⟩
    · exact hc'
    · have h2 := h.1 i d w
      have hne : d.1 ≠ c.1 := fun y => z (h.2 i p d c w hp y)
      have h3 := ho d.1 hne
      exact ⟨h2.1, h2.2.1, h2.2.2.1, h3.1.trans h2.2.2.2.1, h3.2.1.trans h2.2.2.2.2.1, h3.2.2.trans h2.2.2.2.2.2⟩
  · rcases key i d hd with ⟨z, rfl⟩ | ⟨z, w⟩ <;> rcases key j d2 hd2 with ⟨z2, rfl⟩ | ⟨z2, w2⟩
    · omega
    · exact absurd (h.2 p j c d2 hp w2 (h1.symm.trans e)) (Ne.symm z2)
    · exact absurd (h.2 i p d c w hp (e.trans h1)) z
    · exact h.2 i j d d2 w w2 e
theorem Bd.cl (h : Bd T0 I0 J0 R0 u T I J R l) (p : Nat) {c : gC} (hp : l[p]? = some c) : CL T I J R c := h.2.2.1.1 p c hp
theorem Bd.ob (h : Bd T0 I0 J0 R0 u T I J R l) (p : Nat) {x kd n : Nat} {f : Nat → Int32} {g : Nat → Int64} {r : Nat → Option Nat} (hp : l[p]? = some (x, kd, n, f, g, r)) : OB T x kd := ⟨(h.cl p hp).1, (h.cl p hp).2.1⟩
theorem Bd.ar (h : Bd T0 I0 J0 R0 u T I J R l) (p : Nat) {x kd n : Nat} {f : Nat → Int32} {g : Nat → Int64} {r : Nat → Option Nat} (hp : l[p]? = some (x, kd, n, f, g, r)) : AR T x kd n := ⟨(h.cl p hp).1, (h.cl p hp).2.1, (h.cl p hp).2.2.1⟩
theorem Bd.push (h : Bd T0 I0 J0 R0 u T I J R l) {q : Nat} (hq : q ∉ T.1) (kd n : Nat) : Bd T0 I0 J0 R0 u (T.1 ++ [q], va_up T.2.1 q kd, va_up T.2.2 q n) (va_up I q (fun _ => 0)) (va_up J q (fun _ => 0)) (va_up R q (fun _ => none)) (l ++ [zC q kd n]) := by
  refine ⟨h.1.tr (GrT.push hq), fun x hx hn => ?_, h.2.2.1.push hq kd n, fun i c hc => ?_⟩
  · have hne : x ≠ q := fun z => hq (z ▸ (h.1 x hx).1)
    rw [vu_n _ _ hne, vu_n _ _ hne, vu_n _ _ hne]
    exact h.2.1 x hx hn
  · by_cases hi : i < l.length
    · rw [List.getElem?_append_left hi] at hc; exact h.2.2.2 i c hc
    · rw [List.getElem?_append_right (by omega)] at hc
      have hm := List.mem_of_getElem? hc
      rw [List.mem_singleton] at hm
      exact Or.inr (fun z => hq (h.1 q (by rw [hm] at z; exact z)).1)
theorem Bd.set (h : Bd T0 I0 J0 R0 u T I J R l) {p : Nat} {c c' : gC} (hp : l[p]? = some c) (h1 : c'.1 = c.1) (hc' : CL T I' J' R' c') (ho : ∀ x, x ≠ c.1 → I' x = I x ∧ J' x = J x ∧ R' x = R x) : Bd T0 I0 J0 R0 u T I' J' R' (l.set p c') := by
  have hu := h.2.2.2 p c hp
  refine ⟨h.1, fun x hx hn => ?_, h.2.2.1.set hp h1 hc' ho, fun i d hd => ?_⟩
  · have hne : x ≠ c.1 := fun z => by
      rcases hu with w | w
      · exact hn (z.trans w)
      · exact w (z ▸ hx)
    have h3 := ho x hne
    have h4 := h.2.1 x hx hn
    exact ⟨h3.1.trans h4.1, h3.2.1.trans h4.2.1, h3.2.2.trans h4.2.2⟩
  · by_cases z : p = i
    · subst z
      have hlen : p < l.length := by
        rcases Nat.lt_or_ge p l.length with z | z
        · exact z
        · rw [List.getElem?_eq_none z] at hp; cases hp
      rw [List.getElem?_set_self hlen] at hd
      have e : d = c' := (Option.some.inj hd).symm
      rw [e, h1]; exact hu
    · rw [List.getElem?_set_ne z] at hd
      exact h.2.2.2 i d hd
section BdP
variable {p x kd n : Nat} {f : Nat → Int32} {g : Nat → Int64} {r : Nat → Option Nat}
theorem Bd.pI (h : Bd T0 I0 J0 R0 u T I J R l) (hp : l[p]? = some (x, kd, n, f, g, r)) (k : Nat) (v : Int32) : Bd T0 I0 J0 R0 u T (u2 I x k v) J R (l.set p (x, kd, n, va_up f k v, g, r)) := by
  have hc := h.cl p hp
  refine h.set hp rfl ⟨hc.1, hc.2.1, hc.2.2.1, ?_, hc.2.2.2.2.1, hc.2.2.2.2.2⟩ (fun y hy => ⟨u2_rown _ _ _ _ hy, rfl, rfl⟩)
  show u2 I x k v x = va_up f k v
  have e : I x = f := hc.2.2.2.1
  rw [u2_row, e]; rfl
theorem Bd.pJ (h : Bd T0 I0 J0 R0 u T I J R l) (hp : l[p]? = some (x, kd, n, f, g, r)) (k : Nat) (v : Int64) : Bd T0 I0 J0 R0 u T I (u2 J x k v) R (l.set p (x, kd, n, f, va_up g k v, r)) := by
  have hc := h.cl p hp
  refine h.set hp rfl ⟨hc.1, hc.2.1, hc.2.2.1, hc.2.2.2.1, ?_, hc.2.2.2.2.2⟩ (fun y hy => ⟨rfl, u2_rown _ _ _ _ hy, rfl⟩)
  show u2 J x k v x = va_up g k v
  have e : J x = g := hc.2.2.2.2.1
  rw [u2_row, e]; rfl
theorem Bd.pR (h : Bd T0 I0 J0 R0 u T I J R l) (hp : l[p]? = some (x, kd, n, f, g, r)) (k : Nat) (v : Option Nat) : Bd T0 I0 J0 R0 u T I J (u2 R x k v) (l.set p (x, kd, n, f, g, va_up r k v)) := by
  have hc := h.cl p hp
  refine h.set hp rfl ⟨hc.1, hc.2.1, hc.2.2.1, hc.2.2.2.1, hc.2.2.2.2.1, ?_⟩ (fun y hy => ⟨rfl, rfl, u2_rown _ _ _ _ hy⟩)
  show u2 R x k v x = va_up r k v
  have e : R x = r := hc.2.2.2.2.2
  rw [u2_row, e]; rfl
theorem Bd.fill (h : Bd T0 I0 J0 R0 u T I J R l) (hp : l[p]? = some (x, kd, n, f, g, r)) (v : Int32) (k : Nat) : Bd T0 I0 J0 R0 u T (va_up I x (fl (I x) v k)) J R (l.set p (x, kd, n, fl f v k, g, r)) := by
  have hc := h.cl p hp
  refine h.set hp rfl ⟨hc.1, hc.2.1, hc.2.2.1, ?_, hc.2.2.2.2.1, hc.2.2.2.2.2⟩ (fun y hy => ⟨vu_n _ _ hy, rfl, rfl⟩)
  show va_up I x (fl (I x) v k) x = fl f v k
  have e : I x = f := hc.2.2.2.1
  rw [vu_s, e]
theorem Bd.rf (h : Bd T0 I0 J0 R0 u T I J R l) (p : Nat) (hp : l[p]? = some (x, kd, n, f, g, r)) (k : Nat) {y : Nat} (hy : r k = some y) : R x k = some y := by
  have e : R x = r := (h.cl p hp).2.2.2.2.2
  rw [e]; exact hy
end BdP
theorem Bd.start {ci : Nat} (hu : CL T I J R (zC u ci 0)) : Bd T I J R u T I J R [zC u ci 0] := by
  refine ⟨GrT.rf T, fun x _ _ => ⟨rfl, rfl, rfl⟩, ⟨fun i c hc => ?_, fun i j c d hc hd e => ?_⟩, fun i c hc => ?_⟩
  · have hm := List.mem_of_getElem? hc
    rw [List.mem_singleton] at hm
    rw [hm]; exact hu
  · have h1 : i < 1 := (List.getElem?_eq_some_iff.mp hc).1
    have h2 : j < 1 := (List.getElem?_eq_some_iff.mp hd).1
    omega
  · have hm := List.mem_of_getElem? hc
    rw [List.mem_singleton] at hm
    rw [hm]; exact Or.inl rfl
theorem Bd.join (h : Bd T0 I0 J0 R0 u T I J R l) {p x ci : Nat} (hp : l[p]? = some (zC x ci 0)) {c' : gC} {nw : List gC} (h2 : Bd T I J R x T' I' J' R' (c' :: nw)) (hc : c'.1 = x) : Bd T0 I0 J0 R0 u T' I' J' R' (l.set p c' ++ nw) := by
  obtain ⟨g1, g2, g3, g4⟩ := h2
  have hlen : p < l.length := by
    rcases Nat.lt_or_ge p l.length with z | z
    · exact z
    · rw [List.getElem?_eq_none z] at hp; cases hp
  have c0 : CL T' I' J' R' c' := g3.1 0 c' rfl
  have hnw : ∀ (i : Nat) (d : gC), nw[i]? = some d → CL T' I' J' R' d ∧ d.1 ∉ T.1 := by
    intro i d hd
    have hd' : (c' :: nw)[i + 1]? = some d := by rw [List.getElem?_cons_succ]; exact hd
    refine ⟨g3.1 (i + 1) d hd', ?_⟩
    rcases g4 (i + 1) d hd' with z | z
    · have := g3.2 0 (i + 1) c' d rfl hd' (hc.trans z.symm); omega
    · exact z
  have hold : ∀ (i : Nat) (d : gC), i ≠ p → l[i]? = some d → CL T' I' J' R' d ∧ d.1 ∈ T.1 ∧ d.1 ≠ x := by
    intro i d hi hd
    have h3 := h.2.2.1.1 i d hd
    have hne : d.1 ≠ x := fun z => hi (h.2.2.1.2 i p d _ hd hp z)
    have h4 := g2 d.1 h3.1 hne
    have h5 := g1 d.1 h3.1
    exact ⟨⟨h5.1, h5.2.1.trans h3.2.1, h5.2.2.trans h3.2.2.1, h4.1.trans h3.2.2.2.1, h4.2.1.trans h3.2.2.2.2.1, h4.2.2.trans h3.2.2.2.2.2⟩, h3.1, hne⟩
  have hx : x ∈ T.1 := (h.2.2.1.1 p _ hp).1
  have key : ∀ (i : Nat) (d : gC), (l.set p c' ++ nw)[i]? = some d → (i = p ∧ d = c') ∨ (i < l.length ∧ i ≠ p ∧ l[i]? = some d) ∨ (l.length ≤ i ∧ nw[i - l.length]? = some d) := by
    intro i d hd
    by_cases hi : i < l.length
    · rw [List.getElem?_append_left (by rw [List.length_set]; exact hi)] at hd
      by_cases z : p = i
      · subst z
        rw [List.getElem?_set_self hlen] at hd
        exact Or.inl ⟨rfl, (Option.some.inj hd).symm⟩
      · rw [List.getElem?_set_ne z] at hd
        exact Or.inr (Or.inl ⟨hi, Ne.symm z, hd⟩)
    · rw [List.getElem?_append_right (by rw [List.length_set]; omega), List.length_set] at hd
      exact Or.inr (Or.inr ⟨by omega, hd⟩)
  refine ⟨h.1.tr g1, fun y hy hn => ?_, ⟨fun i d hd => ?_, fun i j d e hd he q => ?_⟩, fun i d hd => ?_⟩
  · have hne : y ≠ x := fun z => by
      rcases h.2.2.2 p _ hp with w | w
      · exact hn (z.trans w)
      · exact w (z ▸ hy)
    have h3 := g2 y (h.1 y hy).1 hne
    have h4 := h.2.1 y hy hn
    exact ⟨h3.1.trans h4.1, h3.2.1.trans h4.2.1, h3.2.2.trans h4.2.2⟩
  · rcases key i d hd with ⟨z, rfl⟩ | ⟨z1, z2, z3⟩ | ⟨z1, z2⟩
    · exact c0
    · exact (hold i d z2 z3).1
    · exact (hnw _ d z2).1
  · rcases key i d hd with ⟨z, rfl⟩ | ⟨z1, z2, z3⟩ | ⟨z1, z2⟩ <;> rcases key j e he with ⟨y, rfl⟩ | ⟨y1, y2, y3⟩ | ⟨y1, y2⟩
    · omega
    · exact absurd (q.symm.trans hc) (hold j e y2 y3).2.2
    · exact absurd ((q.symm.trans hc).symm ▸ hx) (hnw _ e y2).2
    · exact absurd (q.trans hc) (hold i d z2 z3).2.2
    · exact h.2.2.1.2 i j d e z3 y3 q
    · exact absurd (q ▸ (hold i d z2 z3).2.1) (hnw _ e y2).2
    · exact absurd ((q.trans hc).symm ▸ hx) (hnw _ d z2).2
    · exact absurd (q ▸ (hold j e y2 y3).2.1) (hnw _ d z2).2
    · have e1 : (c' :: nw)[i - l.length + 1]? = some d := by rw [List.getElem?_cons_succ]; exact z2
      have e2 : (c' :: nw)[j - l.length + 1]? = some e := by rw [List.getElem?_cons_succ]; exact y2
      have := g3.2 _ _ d e e1 e2 q
      omega
  · rcases key i d hd with ⟨z, rfl⟩ | ⟨z1, z2, z3⟩ | ⟨z1, z2⟩
    · rw [hc]; exact h.2.2.2 p _ hp
    · exact h.2.2.2 i d z3
    · exact Or.inr (fun w => (hnw _ d z2).2 (h.1 _ w).1)
end BdS
/-- the end of a constructor of u -/
def PNb (T : gSh) (I : gI) (J : gJ) (R : gR) (u : Nat) (L : (Nat → Nat) → List gC) : gPost := fun r T' I' J' R' => r = none ∧ ∃ q : Nat → Nat, Bd T I J R u T' I' J' R' (L q)
set_option maxRecDepth 100000 in
set_option maxHeartbeats 4000000 in
theorem c_clearU (l : Launch) {T : gSh} {I : gI} {J : gJ} {R : gR} {u y z : Nat} (hu : OB T u 9) (hy : AR T y 13 64) (hz : AR T z 13 80) (ry : R u 1 = some y) (rz : R u 2 = some z) (h : Int32) : Con l yX9_clearFor wsX9_clearFor ({ frames := 1, cells := 0, slots := 0, locals := 23 }) [.ref u, .int h] T I J R (gP none T (va_up (va_up (u2 I u 0 h) y (fl ((u2 I u 0 h) y) (-1) 64)) z (fl ((va_up (u2 I u 0 h) y (fl ((u2 I u 0 h) y) (-1) 64)) z) (-1) 80)) J R) := by
  refine Con.mk (cc := cX9_clearFor) (maxL := 2) (ret := none) (by decide) rfl (Nat.le_of_ble_eq_true rfl) ?_
  intro E hE C Z hnm
  subst hE
  change WP E 2 0 0 T I J R 0 [(0, .ref u), (1, .int h)] []
  refine wp_aload_n C 0 dX9_clearFor_0 rfl rfl ?_
  refine wp_iload_n C 1 dX9_clearFor_1 rfl rfl ?_
  refine wp_putI C dX9_clearFor_2 pX9_clearFor_9 (fun h => nomatch h) hu ?_
  refine wp_aload_n C 0 dX9_clearFor_5 rfl rfl ?_
  refine wp_getR C dX9_clearFor_6 fX9_clearFor_15 hu ry ?_
  refine wp_iconst C (-1) dX9_clearFor_9 (by decide) ?_
  refine wp_cSv C (As := [.ref y, .int (-1)]) (rest := []) dX9_clearFor_10 kX9_clearFor_26 (c_fillI _ hy (by decide) (-1)) rfl (Nat.le_of_ble_eq_true rfl) (by decide) (by decide) ?_
  refine wp_aload_n C 0 dX9_clearFor_13 rfl rfl ?_
  refine wp_getR C dX9_clearFor_14 fX9_clearFor_19 hu rz ?_
  refine wp_iconst C (-1) dX9_clearFor_17 (by decide) ?_
  refine wp_cSv C (As := [.ref z, .int (-1)]) (rest := []) dX9_clearFor_18 kX9_clearFor_26 (c_fillI _ hz (by decide) (-1)) rfl (Nat.le_of_ble_eq_true rfl) (by decide) (by decide) ?_
  exact wp_vret C Z dX9_clearFor_21 (by decide) (by decide) gP_rf
def pl_c_newTray (u : Nat) (q : Nat → Nat) : List gC := [(u, 10, 0, va_up (va_up (va_up (fun _ => 0) 0 1) 1 0) 2 0, fun _ => 0, va_up (fun _ => none) 3 (some (q 0))), zC (q 0) 14 40]
set_option maxRecDepth 100000 in
set_option maxHeartbeats 4000000 in
theorem c_newTray (l : Launch) {T0 : gSh} {I0 : gI} {J0 : gJ} {R0 : gR} {u : Nat} (hu : CL T0 I0 J0 R0 (zC u 10 0)) : Con l yX10_init wsX10_init ({ frames := 1, cells := 1, slots := 40, locals := 20 }) [.ref u] T0 I0 J0 R0 (PNb T0 I0 J0 R0 u (pl_c_newTray u)) := by
  refine Con.mk (cc := cX10_init) (maxL := 1) (ret := none) (by decide) rfl (Nat.le_of_ble_eq_true rfl) ?_
  intro E hE C Z hnm
  subst hE
  change WP E 1 0 0 T0 I0 J0 R0 0 [(0, .ref u)] []
  have hB := Bd.start hu
  refine wp_aload_n C 0 dX10_init_0 rfl rfl ?_
  refine wp_objInit C dX10_init_1 (by decide +kernel) (by decide +kernel) (by decide +kernel) (Nat.le_of_ble_eq_true rfl) (by decide) ?_
  refine wp_aload_n C 0 dX10_init_4 rfl rfl ?_
  refine wp_iconst C 1 dX10_init_5 (by decide) ?_
  refine wp_putZ C dX10_init_6 pX10_init_9 (fun h => nomatch h) (hB.ob 0 rfl) (by decide) ?_
  refine wp_gen (fun T I J R => Bd T0 I0 J0 R0 u T I J R [(u, 10, 0, va_up (fun _ => 0) 0 1, fun _ => 0, fun _ => none)]) (hB.pI (p := 0) rfl 0 1) ?_
  intro T I J R hB
  refine wp_aload_n C 0 dX10_init_9 rfl rfl ?_
  refine wp_iconst C 0 dX10_init_10 (by decide) ?_
  refine wp_putI C dX10_init_11 pX10_init_15 (fun h => nomatch h) (hB.ob 0 rfl) ?_
  refine wp_gen (fun T I J R => Bd T0 I0 J0 R0 u T I J R [(u, 10, 0, va_up (va_up (fun _ => 0) 0 1) 1 0, fun _ => 0, fun _ => none)]) (hB.pI (p := 0) rfl 1 0) ?_
  intro T I J R hB
  refine wp_aload_n C 0 dX10_init_14 rfl rfl ?_
  refine wp_iconst C 0 dX10_init_15 (by decide) ?_
  refine wp_putI C dX10_init_16 pX10_init_19 (fun h => nomatch h) (hB.ob 0 rfl) ?_
  refine wp_gen (fun T I J R => Bd T0 I0 J0 R0 u T I J R [(u, 10, 0, va_up (va_up (va_up (fun _ => 0) 0 1) 1 0) 2 0, fun _ => 0, fun _ => none)]) (hB.pI (p := 0) rfl 2 0) ?_
  intro T I J R hB
  refine wp_aload_n C 0 dX10_init_19 rfl rfl ?_
  refine wp_bipush C 40 dX10_init_20 (by decide) ?_
  refine wp_newaJ C dX10_init_22 (by decide +kernel) (n := 40) rfl (by decide) (by decide) (by decide) ?_
  intro q0_ hq
  refine wp_gen (fun T I J R => Bd T0 I0 J0 R0 u T I J R [(u, 10, 0, va_up (va_up (va_up (fun _ => 0) 0 1) 1 0) 2 0, fun _ => 0, fun _ => none), zC q0_ 14 40]) (hB.push hq 14 40) ?_
  intro T I J R hB
  refine wp_putR C dX10_init_24 pX10_init_22 (fun _ => hnm) (hB.ob 0 rfl) rfl rfl ?_
  refine wp_gen (fun T I J R => Bd T0 I0 J0 R0 u T I J R [(u, 10, 0, va_up (va_up (va_up (fun _ => 0) 0 1) 1 0) 2 0, fun _ => 0, va_up (fun _ => none) 3 (some q0_)), zC q0_ 14 40]) (hB.pR (p := 0) rfl 3 (some q0_)) ?_
  intro T I J R hB
  exact wp_vret C Z dX10_init_27 (by decide) (by decide) ⟨rfl, fun i => [q0_].getD i 0, hB⟩
def pl_c_newBestSet (u : Nat) (q : Nat → Nat) : List gC := [(u, 1, 0, va_up (fun _ => 0) 0 4, fun _ => 0, va_up (va_up (va_up (va_up (va_up (va_up (va_up (fun _ => none) 1 (some (q 0))) 2 (some (q 1))) 3 (some (q 2))) 4 (some (q 3))) 5 (some (q 4))) 6 (some (q 5))) 7 (some (q 6))), zC (q 0) 15 80, zC (q 1) 13 80, zC (q 2) 13 18, zC (q 3) 14 19, zC (q 4) 14 19, zC (q 5) 13 19, zC (q 6) 15 19]
set_option maxRecDepth 100000 in
set_option maxHeartbeats 4000000 in
theorem c_newBestSet (l : Launch) {T0 : gSh} {I0 : gI} {J0 : gJ} {R0 : gR} {u : Nat} (hu : CL T0 I0 J0 R0 (zC u 1 0)) : Con l yX1_init wsX1_init ({ frames := 1, cells := 7, slots := 254, locals := 20 }) [.ref u] T0 I0 J0 R0 (PNb T0 I0 J0 R0 u (pl_c_newBestSet u)) := by
  refine Con.mk (cc := cX1_init) (maxL := 1) (ret := none) (by decide) rfl (Nat.le_of_ble_eq_true rfl) ?_
  intro E hE C Z hnm
  subst hE
  change WP E 1 0 0 T0 I0 J0 R0 0 [(0, .ref u)] []
  have hB := Bd.start hu
  refine wp_aload_n C 0 dX1_init_0 rfl rfl ?_
  refine wp_objInit C dX1_init_1 (by decide +kernel) (by decide +kernel) (by decide +kernel) (Nat.le_of_ble_eq_true rfl) (by decide) ?_
  refine wp_aload_n C 0 dX1_init_4 rfl rfl ?_
  refine wp_iconst C 4 dX1_init_5 (by decide) ?_
  refine wp_putI C dX1_init_6 pX1_init_11 (fun h => nomatch h) (hB.ob 0 rfl) ?_
  refine wp_gen (fun T I J R => Bd T0 I0 J0 R0 u T I J R [(u, 1, 0, va_up (fun _ => 0) 0 4, fun _ => 0, fun _ => none)]) (hB.pI (p := 0) rfl 0 4) ?_
  intro T I J R hB
  refine wp_aload_n C 0 dX1_init_9 rfl rfl ?_
  refine wp_bipush C 80 dX1_init_10 (by decide) ?_
  refine wp_newaZ C dX1_init_12 (by decide +kernel) (n := 80) rfl (by decide) (by decide) (by decide) ?_
  intro q0_ hq
  refine wp_gen (fun T I J R => Bd T0 I0 J0 R0 u T I J R [(u, 1, 0, va_up (fun _ => 0) 0 4, fun _ => 0, fun _ => none), zC q0_ 15 80]) (hB.push hq 15 80) ?_
  intro T I J R hB
  refine wp_putR C dX1_init_14 pX1_init_15 (fun _ => hnm) (hB.ob 0 rfl) rfl rfl ?_
  refine wp_gen (fun T I J R => Bd T0 I0 J0 R0 u T I J R [(u, 1, 0, va_up (fun _ => 0) 0 4, fun _ => 0, va_up (fun _ => none) 1 (some q0_)), zC q0_ 15 80]) (hB.pR (p := 0) rfl 1 (some q0_)) ?_
  intro T I J R hB
  refine wp_aload_n C 0 dX1_init_17 rfl rfl ?_
  refine wp_bipush C 80 dX1_init_18 (by decide) ?_
  refine wp_newaI C dX1_init_20 (by decide +kernel) (n := 80) rfl (by decide) (by decide) (by decide) ?_
  intro q1_ hq
  refine wp_gen (fun T I J R => Bd T0 I0 J0 R0 u T I J R [(u, 1, 0, va_up (fun _ => 0) 0 4, fun _ => 0, va_up (fun _ => none) 1 (some q0_)), zC q0_ 15 80, zC q1_ 13 80]) (hB.push hq 13 80) ?_
  intro T I J R hB
  refine wp_putR C dX1_init_22 pX1_init_19 (fun _ => hnm) (hB.ob 0 rfl) rfl rfl ?_
  refine wp_gen (fun T I J R => Bd T0 I0 J0 R0 u T I J R [(u, 1, 0, va_up (fun _ => 0) 0 4, fun _ => 0, va_up (va_up (fun _ => none) 1 (some q0_)) 2 (some q1_)), zC q0_ 15 80, zC q1_ 13 80]) (hB.pR (p := 0) rfl 2 (some q1_)) ?_
  intro T I J R hB
  refine wp_aload_n C 0 dX1_init_25 rfl rfl ?_
  refine wp_bipush C 18 dX1_init_26 (by decide) ?_
  refine wp_newaI C dX1_init_28 (by decide +kernel) (n := 18) rfl (by decide) (by decide) (by decide) ?_
  intro q2_ hq
  refine wp_gen (fun T I J R => Bd T0 I0 J0 R0 u T I J R [(u, 1, 0, va_up (fun _ => 0) 0 4, fun _ => 0, va_up (va_up (fun _ => none) 1 (some q0_)) 2 (some q1_)), zC q0_ 15 80, zC q1_ 13 80, zC q2_ 13 18]) (hB.push hq 13 18) ?_
  intro T I J R hB
  refine wp_putR C dX1_init_30 pX1_init_23 (fun _ => hnm) (hB.ob 0 rfl) rfl rfl ?_
  refine wp_gen (fun T I J R => Bd T0 I0 J0 R0 u T I J R [(u, 1, 0, va_up (fun _ => 0) 0 4, fun _ => 0, va_up (va_up (va_up (fun _ => none) 1 (some q0_)) 2 (some q1_)) 3 (some q2_)), zC q0_ 15 80, zC q1_ 13 80, zC q2_ 13 18]) (hB.pR (p := 0) rfl 3 (some q2_)) ?_
  intro T I J R hB
  refine wp_aload_n C 0 dX1_init_33 rfl rfl ?_
  refine wp_bipush C 19 dX1_init_34 (by decide) ?_
  refine wp_newaJ C dX1_init_36 (by decide +kernel) (n := 19) rfl (by decide) (by decide) (by decide) ?_
  intro q3_ hq
  refine wp_gen (fun T I J R => Bd T0 I0 J0 R0 u T I J R [(u, 1, 0, va_up (fun _ => 0) 0 4, fun _ => 0, va_up (va_up (va_up (fun _ => none) 1 (some q0_)) 2 (some q1_)) 3 (some q2_)), zC q0_ 15 80, zC q1_ 13 80, zC q2_ 13 18, zC q3_ 14 19]) (hB.push hq 14 19) ?_
  intro T I J R hB
  refine wp_putR C dX1_init_38 pX1_init_26 (fun _ => hnm) (hB.ob 0 rfl) rfl rfl ?_
  refine wp_gen (fun T I J R => Bd T0 I0 J0 R0 u T I J R [(u, 1, 0, va_up (fun _ => 0) 0 4, fun _ => 0, va_up (va_up (va_up (va_up (fun _ => none) 1 (some q0_)) 2 (some q1_)) 3 (some q2_)) 4 (some q3_)), zC q0_ 15 80, zC q1_ 13 80, zC q2_ 13 18, zC q3_ 14 19]) (hB.pR (p := 0) rfl 4 (some q3_)) ?_
  intro T I J R hB
  refine wp_aload_n C 0 dX1_init_41 rfl rfl ?_
  refine wp_bipush C 19 dX1_init_42 (by decide) ?_
  refine wp_newaJ C dX1_init_44 (by decide +kernel) (n := 19) rfl (by decide) (by decide) (by decide) ?_
  intro q4_ hq
  refine wp_gen (fun T I J R => Bd T0 I0 J0 R0 u T I J R [(u, 1, 0, va_up (fun _ => 0) 0 4, fun _ => 0, va_up (va_up (va_up (va_up (fun _ => none) 1 (some q0_)) 2 (some q1_)) 3 (some q2_)) 4 (some q3_)), zC q0_ 15 80, zC q1_ 13 80, zC q2_ 13 18, zC q3_ 14 19, zC q4_ 14 19]) (hB.push hq 14 19) ?_
  intro T I J R hB
  refine wp_putR C dX1_init_46 pX1_init_30 (fun _ => hnm) (hB.ob 0 rfl) rfl rfl ?_
  refine wp_gen (fun T I J R => Bd T0 I0 J0 R0 u T I J R [(u, 1, 0, va_up (fun _ => 0) 0 4, fun _ => 0, va_up (va_up (va_up (va_up (va_up (fun _ => none) 1 (some q0_)) 2 (some q1_)) 3 (some q2_)) 4 (some q3_)) 5 (some q4_)), zC q0_ 15 80, zC q1_ 13 80, zC q2_ 13 18, zC q3_ 14 19, zC q4_ 14 19]) (hB.pR (p := 0) rfl 5 (some q4_)) ?_
  intro T I J R hB
  refine wp_aload_n C 0 dX1_init_49 rfl rfl ?_
  refine wp_bipush C 19 dX1_init_50 (by decide) ?_
  refine wp_newaI C dX1_init_52 (by decide +kernel) (n := 19) rfl (by decide) (by decide) (by decide) ?_
  intro q5_ hq
  refine wp_gen (fun T I J R => Bd T0 I0 J0 R0 u T I J R [(u, 1, 0, va_up (fun _ => 0) 0 4, fun _ => 0, va_up (va_up (va_up (va_up (va_up (fun _ => none) 1 (some q0_)) 2 (some q1_)) 3 (some q2_)) 4 (some q3_)) 5 (some q4_)), zC q0_ 15 80, zC q1_ 13 80, zC q2_ 13 18, zC q3_ 14 19, zC q4_ 14 19, zC q5_ 13 19]) (hB.push hq 13 19) ?_
  intro T I J R hB
  refine wp_putR C dX1_init_54 pX1_init_33 (fun _ => hnm) (hB.ob 0 rfl) rfl rfl ?_
  refine wp_gen (fun T I J R => Bd T0 I0 J0 R0 u T I J R [(u, 1, 0, va_up (fun _ => 0) 0 4, fun _ => 0, va_up (va_up (va_up (va_up (va_up (va_up (fun _ => none) 1 (some q0_)) 2 (some q1_)) 3 (some q2_)) 4 (some q3_)) 5 (some q4_)) 6 (some q5_)), zC q0_ 15 80, zC q1_ 13 80, zC q2_ 13 18, zC q3_ 14 19, zC q4_ 14 19, zC q5_ 13 19]) (hB.pR (p := 0) rfl 6 (some q5_)) ?_
  intro T I J R hB
  refine wp_aload_n C 0 dX1_init_57 rfl rfl ?_
  refine wp_bipush C 19 dX1_init_58 (by decide) ?_
  refine wp_newaZ C dX1_init_60 (by decide +kernel) (n := 19) rfl (by decide) (by decide) (by decide) ?_
  intro q6_ hq
  refine wp_gen (fun T I J R => Bd T0 I0 J0 R0 u T I J R [(u, 1, 0, va_up (fun _ => 0) 0 4, fun _ => 0, va_up (va_up (va_up (va_up (va_up (va_up (fun _ => none) 1 (some q0_)) 2 (some q1_)) 3 (some q2_)) 4 (some q3_)) 5 (some q4_)) 6 (some q5_)), zC q0_ 15 80, zC q1_ 13 80, zC q2_ 13 18, zC q3_ 14 19, zC q4_ 14 19, zC q5_ 13 19, zC q6_ 15 19]) (hB.push hq 15 19) ?_
  intro T I J R hB
  refine wp_putR C dX1_init_62 pX1_init_36 (fun _ => hnm) (hB.ob 0 rfl) rfl rfl ?_
  refine wp_gen (fun T I J R => Bd T0 I0 J0 R0 u T I J R [(u, 1, 0, va_up (fun _ => 0) 0 4, fun _ => 0, va_up (va_up (va_up (va_up (va_up (va_up (va_up (fun _ => none) 1 (some q0_)) 2 (some q1_)) 3 (some q2_)) 4 (some q3_)) 5 (some q4_)) 6 (some q5_)) 7 (some q6_)), zC q0_ 15 80, zC q1_ 13 80, zC q2_ 13 18, zC q3_ 14 19, zC q4_ 14 19, zC q5_ 13 19, zC q6_ 15 19]) (hB.pR (p := 0) rfl 7 (some q6_)) ?_
  intro T I J R hB
  exact wp_vret C Z dX1_init_65 (by decide) (by decide) ⟨rfl, fun i => [q0_, q1_, q2_, q3_, q4_, q5_, q6_].getD i 0, hB⟩
def pl_c_newTable (u : Nat) (q : Nat → Nat) : List gC := [(u, 9, 0, va_up (va_up (fun _ => 0) 0 4) 0 4, fun _ => 0, va_up (va_up (fun _ => none) 1 (some (q 0))) 2 (some (q 1))), ((q 0), 13, 64, fl (fun _ => 0) (-1) 64, fun _ => 0, fun _ => none), ((q 1), 13, 80, fl (fun _ => 0) (-1) 80, fun _ => 0, fun _ => none)]
set_option maxRecDepth 100000 in
set_option maxHeartbeats 4000000 in
theorem c_newTable (l : Launch) {T0 : gSh} {I0 : gI} {J0 : gJ} {R0 : gR} {u : Nat} (hu : CL T0 I0 J0 R0 (zC u 9 0)) : Con l yX9_init wsX9_init ({ frames := 2, cells := 2, slots := 144, locals := 44 }) [.ref u] T0 I0 J0 R0 (PNb T0 I0 J0 R0 u (pl_c_newTable u)) := by
  refine Con.mk (cc := cX9_init) (maxL := 1) (ret := none) (by decide) rfl (Nat.le_of_ble_eq_true rfl) ?_
  intro E hE C Z hnm
  subst hE
  change WP E 1 0 0 T0 I0 J0 R0 0 [(0, .ref u)] []
  have hB := Bd.start hu
  refine wp_aload_n C 0 dX9_init_0 rfl rfl ?_
  refine wp_objInit C dX9_init_1 (by decide +kernel) (by decide +kernel) (by decide +kernel) (Nat.le_of_ble_eq_true rfl) (by decide) ?_
  refine wp_aload_n C 0 dX9_init_4 rfl rfl ?_
  refine wp_iconst C 4 dX9_init_5 (by decide) ?_
  refine wp_putI C dX9_init_6 pX9_init_9 (fun h => nomatch h) (hB.ob 0 rfl) ?_
  refine wp_gen (fun T I J R => Bd T0 I0 J0 R0 u T I J R [(u, 9, 0, va_up (fun _ => 0) 0 4, fun _ => 0, fun _ => none)]) (hB.pI (p := 0) rfl 0 4) ?_
  intro T I J R hB
  refine wp_aload_n C 0 dX9_init_9 rfl rfl ?_
  refine wp_bipush C 64 dX9_init_10 (by decide) ?_
  refine wp_newaI C dX9_init_12 (by decide +kernel) (n := 64) rfl (by decide) (by decide) (by decide) ?_
  intro q0_ hq
  refine wp_gen (fun T I J R => Bd T0 I0 J0 R0 u T I J R [(u, 9, 0, va_up (fun _ => 0) 0 4, fun _ => 0, fun _ => none), zC q0_ 13 64]) (hB.push hq 13 64) ?_
  intro T I J R hB
  refine wp_putR C dX9_init_14 pX9_init_15 (fun _ => hnm) (hB.ob 0 rfl) rfl rfl ?_
  refine wp_gen (fun T I J R => Bd T0 I0 J0 R0 u T I J R [(u, 9, 0, va_up (fun _ => 0) 0 4, fun _ => 0, va_up (fun _ => none) 1 (some q0_)), zC q0_ 13 64]) (hB.pR (p := 0) rfl 1 (some q0_)) ?_
  intro T I J R hB
  refine wp_aload_n C 0 dX9_init_17 rfl rfl ?_
  refine wp_bipush C 80 dX9_init_18 (by decide) ?_
  refine wp_newaI C dX9_init_20 (by decide +kernel) (n := 80) rfl (by decide) (by decide) (by decide) ?_
  intro q1_ hq
  refine wp_gen (fun T I J R => Bd T0 I0 J0 R0 u T I J R [(u, 9, 0, va_up (fun _ => 0) 0 4, fun _ => 0, va_up (fun _ => none) 1 (some q0_)), zC q0_ 13 64, zC q1_ 13 80]) (hB.push hq 13 80) ?_
  intro T I J R hB
  refine wp_putR C dX9_init_22 pX9_init_19 (fun _ => hnm) (hB.ob 0 rfl) rfl rfl ?_
  refine wp_gen (fun T I J R => Bd T0 I0 J0 R0 u T I J R [(u, 9, 0, va_up (fun _ => 0) 0 4, fun _ => 0, va_up (va_up (fun _ => none) 1 (some q0_)) 2 (some q1_)), zC q0_ 13 64, zC q1_ 13 80]) (hB.pR (p := 0) rfl 2 (some q1_)) ?_
  intro T I J R hB
  refine wp_aload_n C 0 dX9_init_25 rfl rfl ?_
  refine wp_iconst C 4 dX9_init_26 (by decide) ?_
  refine wp_cVv C (As := [.int 4]) (rest := []) dX9_init_27 kX9_init_22 (hB.ob 0 rfl) (c_clearU _ (hB.ob 0 rfl) (hB.ar 1 rfl) (hB.ar 2 rfl) (hB.rf 0 rfl 1 rfl) (hB.rf 0 rfl 2 rfl) 4) rfl (Nat.le_of_ble_eq_true rfl) (by decide) (by decide) ?_
  refine wp_gen (fun T I J R => Bd T0 I0 J0 R0 u T I J R [(u, 9, 0, va_up (va_up (fun _ => 0) 0 4) 0 4, fun _ => 0, va_up (va_up (fun _ => none) 1 (some q0_)) 2 (some q1_)), (q0_, 13, 64, fl (fun _ => 0) (-1) 64, fun _ => 0, fun _ => none), (q1_, 13, 80, fl (fun _ => 0) (-1) 80, fun _ => 0, fun _ => none)]) (((hB.pI (p := 0) rfl 0 4).fill (p := 1) rfl (-1) 64).fill (p := 2) rfl (-1) 80) ?_
  intro T I J R hB
  exact wp_vret C Z dX9_init_30 (by decide) (by decide) ⟨rfl, fun i => [q0_, q1_].getD i 0, hB⟩
def pl_c_newMeetings (u : Nat) (q : Nat → Nat) : List gC := [(u, 4, 0, va_up (va_up (va_up (va_up (fun _ => 0) 0 0) 1 0) 2 4) 6 1, fun _ => 0, va_up (va_up (va_up (fun _ => none) 3 (some (q 0))) 4 (some (q 1))) 5 (some (q 9))), zC (q 0) 13 80, ((q 1), 1, 0, va_up (fun _ => 0) 0 4, fun _ => 0, va_up (va_up (va_up (va_up (va_up (va_up (va_up (fun _ => none) 1 (some (q 2))) 2 (some (q 3))) 3 (some (q 4))) 4 (some (q 5))) 5 (some (q 6))) 6 (some (q 7))) 7 (some (q 8))), zC (q 2) 15 80, zC (q 3) 13 80, zC (q 4) 13 18, zC (q 5) 14 19, zC (q 6) 14 19, zC (q 7) 13 19, zC (q 8) 15 19, ((q 9), 9, 0, va_up (va_up (fun _ => 0) 0 4) 0 4, fun _ => 0, va_up (va_up (fun _ => none) 1 (some (q 10))) 2 (some (q 11))), ((q 10), 13, 64, fl (fun _ => 0) (-1) 64, fun _ => 0, fun _ => none), ((q 11), 13, 80, fl (fun _ => 0) (-1) 80, fun _ => 0, fun _ => none)]
set_option maxRecDepth 100000 in
set_option maxHeartbeats 4000000 in
theorem c_newMeetings (l : Launch) {T0 : gSh} {I0 : gI} {J0 : gJ} {R0 : gR} {u : Nat} (hu : CL T0 I0 J0 R0 (zC u 4 0)) : Con l yX4_init wsX4_init ({ frames := 3, cells := 12, slots := 489, locals := 64 }) [.ref u] T0 I0 J0 R0 (PNb T0 I0 J0 R0 u (pl_c_newMeetings u)) := by
  refine Con.mk (cc := cX4_init) (maxL := 1) (ret := none) (by decide) rfl (Nat.le_of_ble_eq_true rfl) ?_
  intro E hE C Z hnm
  subst hE
  change WP E 1 0 0 T0 I0 J0 R0 0 [(0, .ref u)] []
  have hB := Bd.start hu
  refine wp_aload_n C 0 dX4_init_0 rfl rfl ?_
  refine wp_objInit C dX4_init_1 (by decide +kernel) (by decide +kernel) (by decide +kernel) (Nat.le_of_ble_eq_true rfl) (by decide) ?_
  refine wp_aload_n C 0 dX4_init_4 rfl rfl ?_
  refine wp_iconst C 0 dX4_init_5 (by decide) ?_
  refine wp_putI C dX4_init_6 pX4_init_9 (fun h => nomatch h) (hB.ob 0 rfl) ?_
  refine wp_gen (fun T I J R => Bd T0 I0 J0 R0 u T I J R [(u, 4, 0, va_up (fun _ => 0) 0 0, fun _ => 0, fun _ => none)]) (hB.pI (p := 0) rfl 0 0) ?_
  intro T I J R hB
  refine wp_aload_n C 0 dX4_init_9 rfl rfl ?_
  refine wp_iconst C 0 dX4_init_10 (by decide) ?_
  refine wp_putI C dX4_init_11 pX4_init_15 (fun h => nomatch h) (hB.ob 0 rfl) ?_
  refine wp_gen (fun T I J R => Bd T0 I0 J0 R0 u T I J R [(u, 4, 0, va_up (va_up (fun _ => 0) 0 0) 1 0, fun _ => 0, fun _ => none)]) (hB.pI (p := 0) rfl 1 0) ?_
  intro T I J R hB
  refine wp_aload_n C 0 dX4_init_14 rfl rfl ?_
  refine wp_iconst C 4 dX4_init_15 (by decide) ?_
  refine wp_putI C dX4_init_16 pX4_init_18 (fun h => nomatch h) (hB.ob 0 rfl) ?_
  refine wp_gen (fun T I J R => Bd T0 I0 J0 R0 u T I J R [(u, 4, 0, va_up (va_up (va_up (fun _ => 0) 0 0) 1 0) 2 4, fun _ => 0, fun _ => none)]) (hB.pI (p := 0) rfl 2 4) ?_
  intro T I J R hB
  refine wp_aload_n C 0 dX4_init_19 rfl rfl ?_
  refine wp_bipush C 80 dX4_init_20 (by decide) ?_
  refine wp_newaI C dX4_init_22 (by decide +kernel) (n := 80) rfl (by decide) (by decide) (by decide) ?_
  intro q0_ hq
  refine wp_gen (fun T I J R => Bd T0 I0 J0 R0 u T I J R [(u, 4, 0, va_up (va_up (va_up (fun _ => 0) 0 0) 1 0) 2 4, fun _ => 0, fun _ => none), zC q0_ 13 80]) (hB.push hq 13 80) ?_
  intro T I J R hB
  refine wp_putR C dX4_init_24 pX4_init_21 (fun _ => hnm) (hB.ob 0 rfl) rfl rfl ?_
  refine wp_gen (fun T I J R => Bd T0 I0 J0 R0 u T I J R [(u, 4, 0, va_up (va_up (va_up (fun _ => 0) 0 0) 1 0) 2 4, fun _ => 0, va_up (fun _ => none) 3 (some q0_)), zC q0_ 13 80]) (hB.pR (p := 0) rfl 3 (some q0_)) ?_
  intro T I J R hB
  refine wp_aload_n C 0 dX4_init_27 rfl rfl ?_
  refine wp_new C dX4_init_28 nX4_init_25 (by decide) (by decide) ?_
  intro q1_ hq
  refine wp_gen (fun T I J R => Bd T0 I0 J0 R0 u T I J R [(u, 4, 0, va_up (va_up (va_up (fun _ => 0) 0 0) 1 0) 2 4, fun _ => 0, va_up (fun _ => none) 3 (some q0_)), zC q0_ 13 80, zC q1_ 1 0]) (hB.push hq 1 0) ?_
  intro T I J R hB
  refine wp_dup C dX4_init_31 rfl ?_
  refine wp_callIN C (As := []) (rest := [.ref q1_, .ref u]) dX4_init_32 kX4_init_27 C.2.2.2.2.2.2.1.2.2.2.2.2.1 (by decide +kernel) (by decide) (c_newBestSet _ (hB.cl 2 rfl)) rfl (Nat.le_of_ble_eq_true rfl) (by decide) (by decide) ?_
  rintro _ T I J R ⟨rfl, q2x, h2⟩
  obtain ⟨q2_, eq2_⟩ : ∃ z, z = q2x 0 := ⟨_, rfl⟩
  obtain ⟨q3_, eq3_⟩ : ∃ z, z = q2x 1 := ⟨_, rfl⟩
  obtain ⟨q4_, eq4_⟩ : ∃ z, z = q2x 2 := ⟨_, rfl⟩
  obtain ⟨q5_, eq5_⟩ : ∃ z, z = q2x 3 := ⟨_, rfl⟩
  obtain ⟨q6_, eq6_⟩ : ∃ z, z = q2x 4 := ⟨_, rfl⟩
  obtain ⟨q7_, eq7_⟩ : ∃ z, z = q2x 5 := ⟨_, rfl⟩
  obtain ⟨q8_, eq8_⟩ : ∃ z, z = q2x 6 := ⟨_, rfl⟩
  unfold pl_c_newBestSet at h2
  simp only [← eq2_, ← eq3_, ← eq4_, ← eq5_, ← eq6_, ← eq7_, ← eq8_] at h2
  have hB := hB.join (p := 2) rfl h2 rfl
  change WP E 1 _ _ T I J R 35 [(0, .ref u)] [.ref q1_, .ref u]
  change Bd T0 I0 J0 R0 u T I J R [(u, 4, 0, va_up (va_up (va_up (fun _ => 0) 0 0) 1 0) 2 4, fun _ => 0, va_up (fun _ => none) 3 (some q0_)), zC q0_ 13 80, (q1_, 1, 0, va_up (fun _ => 0) 0 4, fun _ => 0, va_up (va_up (va_up (va_up (va_up (va_up (va_up (fun _ => none) 1 (some q2_)) 2 (some q3_)) 3 (some q4_)) 4 (some q5_)) 5 (some q6_)) 6 (some q7_)) 7 (some q8_)), zC q2_ 15 80, zC q3_ 13 80, zC q4_ 13 18, zC q5_ 14 19, zC q6_ 14 19, zC q7_ 13 19, zC q8_ 15 19] at hB
  refine wp_putR C dX4_init_35 pX4_init_28 (fun _ => hnm) (hB.ob 0 rfl) rfl rfl ?_
  refine wp_gen (fun T I J R => Bd T0 I0 J0 R0 u T I J R [(u, 4, 0, va_up (va_up (va_up (fun _ => 0) 0 0) 1 0) 2 4, fun _ => 0, va_up (va_up (fun _ => none) 3 (some q0_)) 4 (some q1_)), zC q0_ 13 80, (q1_, 1, 0, va_up (fun _ => 0) 0 4, fun _ => 0, va_up (va_up (va_up (va_up (va_up (va_up (va_up (fun _ => none) 1 (some q2_)) 2 (some q3_)) 3 (some q4_)) 4 (some q5_)) 5 (some q6_)) 6 (some q7_)) 7 (some q8_)), zC q2_ 15 80, zC q3_ 13 80, zC q4_ 13 18, zC q5_ 14 19, zC q6_ 14 19, zC q7_ 13 19, zC q8_ 15 19]) (hB.pR (p := 0) rfl 4 (some q1_)) ?_
  intro T I J R hB
  refine wp_aload_n C 0 dX4_init_38 rfl rfl ?_
  refine wp_new C dX4_init_39 nX4_init_32 (by decide) (by decide) ?_
  intro q9_ hq
  refine wp_gen (fun T I J R => Bd T0 I0 J0 R0 u T I J R [(u, 4, 0, va_up (va_up (va_up (fun _ => 0) 0 0) 1 0) 2 4, fun _ => 0, va_up (va_up (fun _ => none) 3 (some q0_)) 4 (some q1_)), zC q0_ 13 80, (q1_, 1, 0, va_up (fun _ => 0) 0 4, fun _ => 0, va_up (va_up (va_up (va_up (va_up (va_up (va_up (fun _ => none) 1 (some q2_)) 2 (some q3_)) 3 (some q4_)) 4 (some q5_)) 5 (some q6_)) 6 (some q7_)) 7 (some q8_)), zC q2_ 15 80, zC q3_ 13 80, zC q4_ 13 18, zC q5_ 14 19, zC q6_ 14 19, zC q7_ 13 19, zC q8_ 15 19, zC q9_ 9 0]) (hB.push hq 9 0) ?_
  intro T I J R hB
  refine wp_dup C dX4_init_42 rfl ?_
  refine wp_callI C (As := []) (rest := [.ref q9_, .ref u]) dX4_init_43 kX4_init_34 (c_newTable _ (hB.cl 10 rfl)) rfl (Nat.le_of_ble_eq_true rfl) (by decide) (by decide) ?_
  rintro _ T I J R ⟨rfl, q10x, h2⟩
  obtain ⟨q10_, eq10_⟩ : ∃ z, z = q10x 0 := ⟨_, rfl⟩
  obtain ⟨q11_, eq11_⟩ : ∃ z, z = q10x 1 := ⟨_, rfl⟩
  unfold pl_c_newTable at h2
  simp only [← eq10_, ← eq11_] at h2
  have hB := hB.join (p := 10) rfl h2 rfl
  change WP E 1 _ _ T I J R 46 [(0, .ref u)] [.ref q9_, .ref u]
  change Bd T0 I0 J0 R0 u T I J R [(u, 4, 0, va_up (va_up (va_up (fun _ => 0) 0 0) 1 0) 2 4, fun _ => 0, va_up (va_up (fun _ => none) 3 (some q0_)) 4 (some q1_)), zC q0_ 13 80, (q1_, 1, 0, va_up (fun _ => 0) 0 4, fun _ => 0, va_up (va_up (va_up (va_up (va_up (va_up (va_up (fun _ => none) 1 (some q2_)) 2 (some q3_)) 3 (some q4_)) 4 (some q5_)) 5 (some q6_)) 6 (some q7_)) 7 (some q8_)), zC q2_ 15 80, zC q3_ 13 80, zC q4_ 13 18, zC q5_ 14 19, zC q6_ 14 19, zC q7_ 13 19, zC q8_ 15 19, (q9_, 9, 0, va_up (va_up (fun _ => 0) 0 4) 0 4, fun _ => 0, va_up (va_up (fun _ => none) 1 (some q10_)) 2 (some q11_)), (q10_, 13, 64, fl (fun _ => 0) (-1) 64, fun _ => 0, fun _ => none), (q11_, 13, 80, fl (fun _ => 0) (-1) 80, fun _ => 0, fun _ => none)] at hB
  refine wp_putR C dX4_init_46 pX4_init_35 (fun _ => hnm) (hB.ob 0 rfl) rfl rfl ?_
  refine wp_gen (fun T I J R => Bd T0 I0 J0 R0 u T I J R [(u, 4, 0, va_up (va_up (va_up (fun _ => 0) 0 0) 1 0) 2 4, fun _ => 0, va_up (va_up (va_up (fun _ => none) 3 (some q0_)) 4 (some q1_)) 5 (some q9_)), zC q0_ 13 80, (q1_, 1, 0, va_up (fun _ => 0) 0 4, fun _ => 0, va_up (va_up (va_up (va_up (va_up (va_up (va_up (fun _ => none) 1 (some q2_)) 2 (some q3_)) 3 (some q4_)) 4 (some q5_)) 5 (some q6_)) 6 (some q7_)) 7 (some q8_)), zC q2_ 15 80, zC q3_ 13 80, zC q4_ 13 18, zC q5_ 14 19, zC q6_ 14 19, zC q7_ 13 19, zC q8_ 15 19, (q9_, 9, 0, va_up (va_up (fun _ => 0) 0 4) 0 4, fun _ => 0, va_up (va_up (fun _ => none) 1 (some q10_)) 2 (some q11_)), (q10_, 13, 64, fl (fun _ => 0) (-1) 64, fun _ => 0, fun _ => none), (q11_, 13, 80, fl (fun _ => 0) (-1) 80, fun _ => 0, fun _ => none)]) (hB.pR (p := 0) rfl 5 (some q9_)) ?_
  intro T I J R hB
  refine wp_aload_n C 0 dX4_init_49 rfl rfl ?_
  refine wp_iconst C 1 dX4_init_50 (by decide) ?_
  refine wp_putZ C dX4_init_51 pX4_init_39 (fun h => nomatch h) (hB.ob 0 rfl) (by decide) ?_
  refine wp_gen (fun T I J R => Bd T0 I0 J0 R0 u T I J R [(u, 4, 0, va_up (va_up (va_up (va_up (fun _ => 0) 0 0) 1 0) 2 4) 6 1, fun _ => 0, va_up (va_up (va_up (fun _ => none) 3 (some q0_)) 4 (some q1_)) 5 (some q9_)), zC q0_ 13 80, (q1_, 1, 0, va_up (fun _ => 0) 0 4, fun _ => 0, va_up (va_up (va_up (va_up (va_up (va_up (va_up (fun _ => none) 1 (some q2_)) 2 (some q3_)) 3 (some q4_)) 4 (some q5_)) 5 (some q6_)) 6 (some q7_)) 7 (some q8_)), zC q2_ 15 80, zC q3_ 13 80, zC q4_ 13 18, zC q5_ 14 19, zC q6_ 14 19, zC q7_ 13 19, zC q8_ 15 19, (q9_, 9, 0, va_up (va_up (fun _ => 0) 0 4) 0 4, fun _ => 0, va_up (va_up (fun _ => none) 1 (some q10_)) 2 (some q11_)), (q10_, 13, 64, fl (fun _ => 0) (-1) 64, fun _ => 0, fun _ => none), (q11_, 13, 80, fl (fun _ => 0) (-1) 80, fun _ => 0, fun _ => none)]) (hB.pI (p := 0) rfl 6 1) ?_
  intro T I J R hB
  exact wp_vret C Z dX4_init_54 (by decide) (by decide) ⟨rfl, fun i => [q0_, q1_, q2_, q3_, q4_, q5_, q6_, q7_, q8_, q9_, q10_, q11_].getD i 0, hB⟩
def pl_c_newBooks (u : Nat) (q : Nat → Nat) : List gC := [(u, 2, 0, va_up (va_up (va_up (fun _ => 0) 0 0) 3 0) 5 0, fun _ => 0, va_up (va_up (va_up (va_up (fun _ => none) 1 (some (q 0))) 2 (some (q 1))) 4 (some (q 2))) 6 (some (q 3))), zC (q 0) 15 12, zC (q 1) 15 120, zC (q 2) 16 60, zC (q 3) 18 30]
set_option maxRecDepth 100000 in
set_option maxHeartbeats 4000000 in
theorem c_newBooks (l : Launch) {T0 : gSh} {I0 : gI} {J0 : gJ} {R0 : gR} {u : Nat} (hu : CL T0 I0 J0 R0 (zC u 2 0)) : Con l yX2_init wsX2_init ({ frames := 1, cells := 4, slots := 222, locals := 20 }) [.ref u] T0 I0 J0 R0 (PNb T0 I0 J0 R0 u (pl_c_newBooks u)) := by
  refine Con.mk (cc := cX2_init) (maxL := 1) (ret := none) (by decide) rfl (Nat.le_of_ble_eq_true rfl) ?_
  intro E hE C Z hnm
  subst hE
  change WP E 1 0 0 T0 I0 J0 R0 0 [(0, .ref u)] []
  have hB := Bd.start hu
  refine wp_aload_n C 0 dX2_init_0 rfl rfl ?_
  refine wp_objInit C dX2_init_1 (by decide +kernel) (by decide +kernel) (by decide +kernel) (Nat.le_of_ble_eq_true rfl) (by decide) ?_
  refine wp_aload_n C 0 dX2_init_4 rfl rfl ?_
  refine wp_iconst C 0 dX2_init_5 (by decide) ?_
  refine wp_putI C dX2_init_6 pX2_init_9 (fun h => nomatch h) (hB.ob 0 rfl) ?_
  refine wp_gen (fun T I J R => Bd T0 I0 J0 R0 u T I J R [(u, 2, 0, va_up (fun _ => 0) 0 0, fun _ => 0, fun _ => none)]) (hB.pI (p := 0) rfl 0 0) ?_
  intro T I J R hB
  refine wp_aload_n C 0 dX2_init_9 rfl rfl ?_
  refine wp_bipush C 12 dX2_init_10 (by decide) ?_
  refine wp_newaZ C dX2_init_12 (by decide +kernel) (n := 12) rfl (by decide) (by decide) (by decide) ?_
  intro q0_ hq
  refine wp_gen (fun T I J R => Bd T0 I0 J0 R0 u T I J R [(u, 2, 0, va_up (fun _ => 0) 0 0, fun _ => 0, fun _ => none), zC q0_ 15 12]) (hB.push hq 15 12) ?_
  intro T I J R hB
  refine wp_putR C dX2_init_14 pX2_init_15 (fun _ => hnm) (hB.ob 0 rfl) rfl rfl ?_
  refine wp_gen (fun T I J R => Bd T0 I0 J0 R0 u T I J R [(u, 2, 0, va_up (fun _ => 0) 0 0, fun _ => 0, va_up (fun _ => none) 1 (some q0_)), zC q0_ 15 12]) (hB.pR (p := 0) rfl 1 (some q0_)) ?_
  intro T I J R hB
  refine wp_aload_n C 0 dX2_init_17 rfl rfl ?_
  refine wp_bipush C 120 dX2_init_18 (by decide) ?_
  refine wp_newaZ C dX2_init_20 (by decide +kernel) (n := 120) rfl (by decide) (by decide) (by decide) ?_
  intro q1_ hq
  refine wp_gen (fun T I J R => Bd T0 I0 J0 R0 u T I J R [(u, 2, 0, va_up (fun _ => 0) 0 0, fun _ => 0, va_up (fun _ => none) 1 (some q0_)), zC q0_ 15 12, zC q1_ 15 120]) (hB.push hq 15 120) ?_
  intro T I J R hB
  refine wp_putR C dX2_init_22 pX2_init_19 (fun _ => hnm) (hB.ob 0 rfl) rfl rfl ?_
  refine wp_gen (fun T I J R => Bd T0 I0 J0 R0 u T I J R [(u, 2, 0, va_up (fun _ => 0) 0 0, fun _ => 0, va_up (va_up (fun _ => none) 1 (some q0_)) 2 (some q1_)), zC q0_ 15 12, zC q1_ 15 120]) (hB.pR (p := 0) rfl 2 (some q1_)) ?_
  intro T I J R hB
  refine wp_aload_n C 0 dX2_init_25 rfl rfl ?_
  refine wp_iconst C 0 dX2_init_26 (by decide) ?_
  refine wp_putI C dX2_init_27 pX2_init_22 (fun h => nomatch h) (hB.ob 0 rfl) ?_
  refine wp_gen (fun T I J R => Bd T0 I0 J0 R0 u T I J R [(u, 2, 0, va_up (va_up (fun _ => 0) 0 0) 3 0, fun _ => 0, va_up (va_up (fun _ => none) 1 (some q0_)) 2 (some q1_)), zC q0_ 15 12, zC q1_ 15 120]) (hB.pI (p := 0) rfl 3 0) ?_
  intro T I J R hB
  refine wp_aload_n C 0 dX2_init_30 rfl rfl ?_
  refine wp_bipush C 60 dX2_init_31 (by decide) ?_
  refine wp_newq C RX3 dX2_init_33 (by decide +kernel) C.2.2.2.2.2.2.1.2.2.2.2.2.2.1 (k := 3) (by decide) rfl (n := 60) rfl (by decide) (by decide) (by decide) ?_
  intro q2_ hq
  refine wp_gen (fun T I J R => Bd T0 I0 J0 R0 u T I J R [(u, 2, 0, va_up (va_up (fun _ => 0) 0 0) 3 0, fun _ => 0, va_up (va_up (fun _ => none) 1 (some q0_)) 2 (some q1_)), zC q0_ 15 12, zC q1_ 15 120, zC q2_ 16 60]) (hB.push hq 16 60) ?_
  intro T I J R hB
  refine wp_putR C dX2_init_36 pX2_init_27 (fun _ => hnm) (hB.ob 0 rfl) rfl rfl ?_
  refine wp_gen (fun T I J R => Bd T0 I0 J0 R0 u T I J R [(u, 2, 0, va_up (va_up (fun _ => 0) 0 0) 3 0, fun _ => 0, va_up (va_up (va_up (fun _ => none) 1 (some q0_)) 2 (some q1_)) 4 (some q2_)), zC q0_ 15 12, zC q1_ 15 120, zC q2_ 16 60]) (hB.pR (p := 0) rfl 4 (some q2_)) ?_
  intro T I J R hB
  refine wp_aload_n C 0 dX2_init_39 rfl rfl ?_
  refine wp_iconst C 0 dX2_init_40 (by decide) ?_
  refine wp_putI C dX2_init_41 pX2_init_31 (fun h => nomatch h) (hB.ob 0 rfl) ?_
  refine wp_gen (fun T I J R => Bd T0 I0 J0 R0 u T I J R [(u, 2, 0, va_up (va_up (va_up (fun _ => 0) 0 0) 3 0) 5 0, fun _ => 0, va_up (va_up (va_up (fun _ => none) 1 (some q0_)) 2 (some q1_)) 4 (some q2_)), zC q0_ 15 12, zC q1_ 15 120, zC q2_ 16 60]) (hB.pI (p := 0) rfl 5 0) ?_
  intro T I J R hB
  refine wp_aload_n C 0 dX2_init_44 rfl rfl ?_
  refine wp_bipush C 30 dX2_init_45 (by decide) ?_
  refine wp_newq C RX7 dX2_init_47 (by decide +kernel) C.2.2.2.2.2.2.1.2.2.2.2.2.2.2.2.1 (k := 5) (by decide) rfl (n := 30) rfl (by decide) (by decide) (by decide) ?_
  intro q3_ hq
  refine wp_gen (fun T I J R => Bd T0 I0 J0 R0 u T I J R [(u, 2, 0, va_up (va_up (va_up (fun _ => 0) 0 0) 3 0) 5 0, fun _ => 0, va_up (va_up (va_up (fun _ => none) 1 (some q0_)) 2 (some q1_)) 4 (some q2_)), zC q0_ 15 12, zC q1_ 15 120, zC q2_ 16 60, zC q3_ 18 30]) (hB.push hq 18 30) ?_
  intro T I J R hB
  refine wp_putR C dX2_init_50 pX2_init_36 (fun _ => hnm) (hB.ob 0 rfl) rfl rfl ?_
  refine wp_gen (fun T I J R => Bd T0 I0 J0 R0 u T I J R [(u, 2, 0, va_up (va_up (va_up (fun _ => 0) 0 0) 3 0) 5 0, fun _ => 0, va_up (va_up (va_up (va_up (fun _ => none) 1 (some q0_)) 2 (some q1_)) 4 (some q2_)) 6 (some q3_)), zC q0_ 15 12, zC q1_ 15 120, zC q2_ 16 60, zC q3_ 18 30]) (hB.pR (p := 0) rfl 6 (some q3_)) ?_
  intro T I J R hB
  exact wp_vret C Z dX2_init_53 (by decide) (by decide) ⟨rfl, fun i => [q0_, q1_, q2_, q3_].getD i 0, hB⟩
def pl_c_newOffers (u : Nat) (q : Nat → Nat) : List gC := [(u, 6, 0, va_up (va_up (fun _ => 0) 0 0) 1 0, fun _ => 0, va_up (fun _ => none) 2 (some (q 0))), zC (q 0) 17 60]
set_option maxRecDepth 100000 in
set_option maxHeartbeats 4000000 in
theorem c_newOffers (l : Launch) {T0 : gSh} {I0 : gI} {J0 : gJ} {R0 : gR} {u : Nat} (hu : CL T0 I0 J0 R0 (zC u 6 0)) : Con l yX6_init wsX6_init ({ frames := 1, cells := 1, slots := 60, locals := 20 }) [.ref u] T0 I0 J0 R0 (PNb T0 I0 J0 R0 u (pl_c_newOffers u)) := by
  refine Con.mk (cc := cX6_init) (maxL := 1) (ret := none) (by decide) rfl (Nat.le_of_ble_eq_true rfl) ?_
  intro E hE C Z hnm
  subst hE
  change WP E 1 0 0 T0 I0 J0 R0 0 [(0, .ref u)] []
  have hB := Bd.start hu
  refine wp_aload_n C 0 dX6_init_0 rfl rfl ?_
  refine wp_objInit C dX6_init_1 (by decide +kernel) (by decide +kernel) (by decide +kernel) (Nat.le_of_ble_eq_true rfl) (by decide) ?_
  refine wp_aload_n C 0 dX6_init_4 rfl rfl ?_
  refine wp_iconst C 0 dX6_init_5 (by decide) ?_
  refine wp_putI C dX6_init_6 pX6_init_9 (fun h => nomatch h) (hB.ob 0 rfl) ?_
  refine wp_gen (fun T I J R => Bd T0 I0 J0 R0 u T I J R [(u, 6, 0, va_up (fun _ => 0) 0 0, fun _ => 0, fun _ => none)]) (hB.pI (p := 0) rfl 0 0) ?_
  intro T I J R hB
  refine wp_aload_n C 0 dX6_init_9 rfl rfl ?_
  refine wp_iconst C 0 dX6_init_10 (by decide) ?_
  refine wp_putI C dX6_init_11 pX6_init_15 (fun h => nomatch h) (hB.ob 0 rfl) ?_
  refine wp_gen (fun T I J R => Bd T0 I0 J0 R0 u T I J R [(u, 6, 0, va_up (va_up (fun _ => 0) 0 0) 1 0, fun _ => 0, fun _ => none)]) (hB.pI (p := 0) rfl 1 0) ?_
  intro T I J R hB
  refine wp_aload_n C 0 dX6_init_14 rfl rfl ?_
  refine wp_bipush C 60 dX6_init_15 (by decide) ?_
  refine wp_newq C RX5 dX6_init_17 (by decide +kernel) C.2.2.2.2.2.2.1.2.2.2.2.2.2.2.1 (k := 4) (by decide) rfl (n := 60) rfl (by decide) (by decide) (by decide) ?_
  intro q0_ hq
  refine wp_gen (fun T I J R => Bd T0 I0 J0 R0 u T I J R [(u, 6, 0, va_up (va_up (fun _ => 0) 0 0) 1 0, fun _ => 0, fun _ => none), zC q0_ 17 60]) (hB.push hq 17 60) ?_
  intro T I J R hB
  refine wp_putR C dX6_init_20 pX6_init_20 (fun _ => hnm) (hB.ob 0 rfl) rfl rfl ?_
  refine wp_gen (fun T I J R => Bd T0 I0 J0 R0 u T I J R [(u, 6, 0, va_up (va_up (fun _ => 0) 0 0) 1 0, fun _ => 0, va_up (fun _ => none) 2 (some q0_)), zC q0_ 17 60]) (hB.pR (p := 0) rfl 2 (some q0_)) ?_
  intro T I J R hB
  exact wp_vret C Z dX6_init_23 (by decide) (by decide) ⟨rfl, fun i => [q0_].getD i 0, hB⟩
def pl_c_newFair (u : Nat) (q : Nat → Nat) : List gC := [(u, 11, 0, va_up (fun _ => 0) 5 0, va_up (va_up (fun _ => 0) 6 0) 7 1, va_up (va_up (va_up (va_up (va_up (fun _ => none) 0 (some (q 0))) 1 (some (q 9))) 2 (some (q 22))) 3 (some (q 27))) 4 none), ((q 0), 19, 4, fun _ => 0, fun _ => 0, va_up (va_up (va_up (va_up (fun _ => none) 0 (some (q 1))) 1 (some (q 3))) 2 (some (q 5))) 3 (some (q 7))), ((q 1), 10, 0, va_up (va_up (va_up (fun _ => 0) 0 1) 1 0) 2 0, fun _ => 0, va_up (fun _ => none) 3 (some (q 2))), zC (q 2) 14 40, ((q 3), 10, 0, va_up (va_up (va_up (fun _ => 0) 0 1) 1 0) 2 0, fun _ => 0, va_up (fun _ => none) 3 (some (q 4))), zC (q 4) 14 40, ((q 5), 10, 0, va_up (va_up (va_up (fun _ => 0) 0 1) 1 0) 2 0, fun _ => 0, va_up (fun _ => none) 3 (some (q 6))), zC (q 6) 14 40, ((q 7), 10, 0, va_up (va_up (va_up (fun _ => 0) 0 1) 1 0) 2 0, fun _ => 0, va_up (fun _ => none) 3 (some (q 8))), zC (q 8) 14 40, ((q 9), 4, 0, va_up (va_up (va_up (va_up (fun _ => 0) 0 0) 1 0) 2 4) 6 1, fun _ => 0, va_up (va_up (va_up (fun _ => none) 3 (some (q 10))) 4 (some (q 11))) 5 (some (q 19))), zC (q 10) 13 80, ((q 11), 1, 0, va_up (fun _ => 0) 0 4, fun _ => 0, va_up (va_up (va_up (va_up (va_up (va_up (va_up (fun _ => none) 1 (some (q 12))) 2 (some (q 13))) 3 (some (q 14))) 4 (some (q 15))) 5 (some (q 16))) 6 (some (q 17))) 7 (some (q 18))), zC (q 12) 15 80, zC (q 13) 13 80, zC (q 14) 13 18, zC (q 15) 14 19, zC (q 16) 14 19, zC (q 17) 13 19, zC (q 18) 15 19, ((q 19), 9, 0, va_up (va_up (fun _ => 0) 0 4) 0 4, fun _ => 0, va_up (va_up (fun _ => none) 1 (some (q 20))) 2 (some (q 21))), ((q 20), 13, 64, fl (fun _ => 0) (-1) 64, fun _ => 0, fun _ => none), ((q 21), 13, 80, fl (fun _ => 0) (-1) 80, fun _ => 0, fun _ => none), ((q 22), 2, 0, va_up (va_up (va_up (fun _ => 0) 0 0) 3 0) 5 0, fun _ => 0, va_up (va_up (va_up (va_up (fun _ => none) 1 (some (q 23))) 2 (some (q 24))) 4 (some (q 25))) 6 (some (q 26))), zC (q 23) 15 12, zC (q 24) 15 120, zC (q 25) 16 60, zC (q 26) 18 30, ((q 27), 6, 0, va_up (va_up (fun _ => 0) 0 0) 1 0, fun _ => 0, va_up (fun _ => none) 2 (some (q 28))), zC (q 28) 17 60]
set_option maxRecDepth 100000 in
set_option maxHeartbeats 4000000 in
theorem c_newFair (l : Launch) {T0 : gSh} {I0 : gI} {J0 : gJ} {R0 : gR} {u : Nat} (hu : CL T0 I0 J0 R0 (zC u 11 0)) : Con l yX11_init wsX11_init ({ frames := 4, cells := 29, slots := 968, locals := 84 }) [.ref u] T0 I0 J0 R0 (PNb T0 I0 J0 R0 u (pl_c_newFair u)) := by
  refine Con.mk (cc := cX11_init) (maxL := 2) (ret := none) (by decide) rfl (Nat.le_of_ble_eq_true rfl) ?_
  intro E hE C Z hnm
  subst hE
  change WP E 2 0 0 T0 I0 J0 R0 0 [(0, .ref u)] []
  have hB := Bd.start hu
  refine wp_aload_n C 0 dX11_init_0 rfl rfl ?_
  refine wp_objInit C dX11_init_1 (by decide +kernel) (by decide +kernel) (by decide +kernel) (Nat.le_of_ble_eq_true rfl) (by decide) ?_
  refine wp_aload_n C 0 dX11_init_4 rfl rfl ?_
  refine wp_iconst C 4 dX11_init_5 (by decide) ?_
  refine wp_newq C RX10 dX11_init_6 (by decide +kernel) C.2.2.2.2.2.2.1.2.2.2.2.2.2.2.2.2 (k := 6) (by decide) rfl (n := 4) rfl (by decide) (by decide) (by decide) ?_
  intro q0_ hq
  refine wp_gen (fun T I J R => Bd T0 I0 J0 R0 u T I J R [zC u 11 0, zC q0_ 19 4]) (hB.push hq 19 4) ?_
  intro T I J R hB
  refine wp_putR C dX11_init_9 pX11_init_11 (fun _ => hnm) (hB.ob 0 rfl) rfl rfl ?_
  refine wp_gen (fun T I J R => Bd T0 I0 J0 R0 u T I J R [(u, 11, 0, fun _ => 0, fun _ => 0, va_up (fun _ => none) 0 (some q0_)), zC q0_ 19 4]) (hB.pR (p := 0) rfl 0 (some q0_)) ?_
  intro T I J R hB
  refine wp_iconst C 0 dX11_init_12 (by decide) ?_
  refine wp_istore_n C [(1, .int 0), (0, .ref u)] dX11_init_13 rfl (by decide) rfl ?_
  refine wp_iload_n C 0 dX11_init_14 rfl rfl ?_
  refine wp_iconst C 4 dX11_init_15 (by decide) ?_
  refine wp_icmp_ge C 38 dX11_init_16 (by decide) (fun z => absurd z (by decide)) (fun _ => ?_)
  refine wp_aload_n C 1 dX11_init_19 rfl rfl ?_
  refine wp_getR C dX11_init_20 fX11_init_11 (hB.ob 0 rfl) (hB.rf 0 rfl 0 rfl) ?_
  refine wp_iload_n C 0 dX11_init_23 rfl rfl ?_
  refine wp_new C dX11_init_24 nX11_init_9 (by decide) (by decide) ?_
  intro q1_ hq
  refine wp_gen (fun T I J R => Bd T0 I0 J0 R0 u T I J R [(u, 11, 0, fun _ => 0, fun _ => 0, va_up (fun _ => none) 0 (some q0_)), zC q0_ 19 4, zC q1_ 10 0]) (hB.push hq 10 0) ?_
  intro T I J R hB
  refine wp_dup C dX11_init_27 rfl ?_
  refine wp_callIN C (As := []) (rest := [.ref q1_, .int 0, .ref q0_]) dX11_init_28 kX11_init_15 C.2.2.2.2.2.2.1.2.1 (by decide +kernel) (by decide) (c_newTray _ (hB.cl 2 rfl)) rfl (Nat.le_of_ble_eq_true rfl) (by decide) (by decide) ?_
  rintro _ T I J R ⟨rfl, q2x, h2⟩
  obtain ⟨q2_, eq2_⟩ : ∃ z, z = q2x 0 := ⟨_, rfl⟩
  unfold pl_c_newTray at h2
  simp only [← eq2_] at h2
  have hB := hB.join (p := 2) rfl h2 rfl
  change WP E 2 _ _ T I J R 31 [(1, .int 0), (0, .ref u)] [.ref q1_, .int 0, .ref q0_]
  change Bd T0 I0 J0 R0 u T I J R [(u, 11, 0, fun _ => 0, fun _ => 0, va_up (fun _ => none) 0 (some q0_)), zC q0_ 19 4, (q1_, 10, 0, va_up (va_up (va_up (fun _ => 0) 0 1) 1 0) 2 0, fun _ => 0, va_up (fun _ => none) 3 (some q2_)), zC q2_ 14 40] at hB
  refine wp_aast C (RX10, TX10, 4) dX11_init_31 (hB.ar 1 rfl) (by decide) rfl (hB.ob 2 rfl) (by decide) rfl (j := 0) rfl (by decide) (by decide) ?_
  refine wp_gen (fun T I J R => Bd T0 I0 J0 R0 u T I J R [(u, 11, 0, fun _ => 0, fun _ => 0, va_up (fun _ => none) 0 (some q0_)), (q0_, 19, 4, fun _ => 0, fun _ => 0, va_up (fun _ => none) 0 (some q1_)), (q1_, 10, 0, va_up (va_up (va_up (fun _ => 0) 0 1) 1 0) 2 0, fun _ => 0, va_up (fun _ => none) 3 (some q2_)), zC q2_ 14 40]) (hB.pR (p := 1) rfl 0 (some q1_)) ?_
  intro T I J R hB
  refine wp_iinc C 0 1 [(1, .int 1), (0, .ref u)] dX11_init_32 rfl rfl (by decide) rfl ?_
  refine wp_goto C 14 dX11_init_35 (by decide) ?_
  refine wp_iload_n C 0 dX11_init_14 rfl rfl ?_
  refine wp_iconst C 4 dX11_init_15 (by decide) ?_
  refine wp_icmp_ge C 38 dX11_init_16 (by decide) (fun z => absurd z (by decide)) (fun _ => ?_)
  refine wp_aload_n C 1 dX11_init_19 rfl rfl ?_
  refine wp_getR C dX11_init_20 fX11_init_11 (hB.ob 0 rfl) (hB.rf 0 rfl 0 rfl) ?_
  refine wp_iload_n C 0 dX11_init_23 rfl rfl ?_
  refine wp_new C dX11_init_24 nX11_init_9 (by decide) (by decide) ?_
  intro q3_ hq
  refine wp_gen (fun T I J R => Bd T0 I0 J0 R0 u T I J R [(u, 11, 0, fun _ => 0, fun _ => 0, va_up (fun _ => none) 0 (some q0_)), (q0_, 19, 4, fun _ => 0, fun _ => 0, va_up (fun _ => none) 0 (some q1_)), (q1_, 10, 0, va_up (va_up (va_up (fun _ => 0) 0 1) 1 0) 2 0, fun _ => 0, va_up (fun _ => none) 3 (some q2_)), zC q2_ 14 40, zC q3_ 10 0]) (hB.push hq 10 0) ?_
  intro T I J R hB
  refine wp_dup C dX11_init_27 rfl ?_
  refine wp_callIN C (As := []) (rest := [.ref q3_, .int 1, .ref q0_]) dX11_init_28 kX11_init_15 C.2.2.2.2.2.2.1.2.1 (by decide +kernel) (by decide) (c_newTray _ (hB.cl 4 rfl)) rfl (Nat.le_of_ble_eq_true rfl) (by decide) (by decide) ?_
  rintro _ T I J R ⟨rfl, q4x, h2⟩
  obtain ⟨q4_, eq4_⟩ : ∃ z, z = q4x 0 := ⟨_, rfl⟩
  unfold pl_c_newTray at h2
  simp only [← eq4_] at h2
  have hB := hB.join (p := 4) rfl h2 rfl
  change WP E 2 _ _ T I J R 31 [(1, .int 1), (0, .ref u)] [.ref q3_, .int 1, .ref q0_]
  change Bd T0 I0 J0 R0 u T I J R [(u, 11, 0, fun _ => 0, fun _ => 0, va_up (fun _ => none) 0 (some q0_)), (q0_, 19, 4, fun _ => 0, fun _ => 0, va_up (fun _ => none) 0 (some q1_)), (q1_, 10, 0, va_up (va_up (va_up (fun _ => 0) 0 1) 1 0) 2 0, fun _ => 0, va_up (fun _ => none) 3 (some q2_)), zC q2_ 14 40, (q3_, 10, 0, va_up (va_up (va_up (fun _ => 0) 0 1) 1 0) 2 0, fun _ => 0, va_up (fun _ => none) 3 (some q4_)), zC q4_ 14 40] at hB
  refine wp_aast C (RX10, TX10, 4) dX11_init_31 (hB.ar 1 rfl) (by decide) rfl (hB.ob 4 rfl) (by decide) rfl (j := 1) rfl (by decide) (by decide) ?_
  refine wp_gen (fun T I J R => Bd T0 I0 J0 R0 u T I J R [(u, 11, 0, fun _ => 0, fun _ => 0, va_up (fun _ => none) 0 (some q0_)), (q0_, 19, 4, fun _ => 0, fun _ => 0, va_up (va_up (fun _ => none) 0 (some q1_)) 1 (some q3_)), (q1_, 10, 0, va_up (va_up (va_up (fun _ => 0) 0 1) 1 0) 2 0, fun _ => 0, va_up (fun _ => none) 3 (some q2_)), zC q2_ 14 40, (q3_, 10, 0, va_up (va_up (va_up (fun _ => 0) 0 1) 1 0) 2 0, fun _ => 0, va_up (fun _ => none) 3 (some q4_)), zC q4_ 14 40]) (hB.pR (p := 1) rfl 1 (some q3_)) ?_
  intro T I J R hB
  refine wp_iinc C 0 2 [(1, .int 2), (0, .ref u)] dX11_init_32 rfl rfl (by decide) rfl ?_
  refine wp_goto C 14 dX11_init_35 (by decide) ?_
  refine wp_iload_n C 0 dX11_init_14 rfl rfl ?_
  refine wp_iconst C 4 dX11_init_15 (by decide) ?_
  refine wp_icmp_ge C 38 dX11_init_16 (by decide) (fun z => absurd z (by decide)) (fun _ => ?_)
  refine wp_aload_n C 1 dX11_init_19 rfl rfl ?_
  refine wp_getR C dX11_init_20 fX11_init_11 (hB.ob 0 rfl) (hB.rf 0 rfl 0 rfl) ?_
  refine wp_iload_n C 0 dX11_init_23 rfl rfl ?_
  refine wp_new C dX11_init_24 nX11_init_9 (by decide) (by decide) ?_
  intro q5_ hq
  refine wp_gen (fun T I J R => Bd T0 I0 J0 R0 u T I J R [(u, 11, 0, fun _ => 0, fun _ => 0, va_up (fun _ => none) 0 (some q0_)), (q0_, 19, 4, fun _ => 0, fun _ => 0, va_up (va_up (fun _ => none) 0 (some q1_)) 1 (some q3_)), (q1_, 10, 0, va_up (va_up (va_up (fun _ => 0) 0 1) 1 0) 2 0, fun _ => 0, va_up (fun _ => none) 3 (some q2_)), zC q2_ 14 40, (q3_, 10, 0, va_up (va_up (va_up (fun _ => 0) 0 1) 1 0) 2 0, fun _ => 0, va_up (fun _ => none) 3 (some q4_)), zC q4_ 14 40, zC q5_ 10 0]) (hB.push hq 10 0) ?_
  intro T I J R hB
  refine wp_dup C dX11_init_27 rfl ?_
  refine wp_callIN C (As := []) (rest := [.ref q5_, .int 2, .ref q0_]) dX11_init_28 kX11_init_15 C.2.2.2.2.2.2.1.2.1 (by decide +kernel) (by decide) (c_newTray _ (hB.cl 6 rfl)) rfl (Nat.le_of_ble_eq_true rfl) (by decide) (by decide) ?_
  rintro _ T I J R ⟨rfl, q6x, h2⟩
  obtain ⟨q6_, eq6_⟩ : ∃ z, z = q6x 0 := ⟨_, rfl⟩
  unfold pl_c_newTray at h2
  simp only [← eq6_] at h2
  have hB := hB.join (p := 6) rfl h2 rfl
  change WP E 2 _ _ T I J R 31 [(1, .int 2), (0, .ref u)] [.ref q5_, .int 2, .ref q0_]
  change Bd T0 I0 J0 R0 u T I J R [(u, 11, 0, fun _ => 0, fun _ => 0, va_up (fun _ => none) 0 (some q0_)), (q0_, 19, 4, fun _ => 0, fun _ => 0, va_up (va_up (fun _ => none) 0 (some q1_)) 1 (some q3_)), (q1_, 10, 0, va_up (va_up (va_up (fun _ => 0) 0 1) 1 0) 2 0, fun _ => 0, va_up (fun _ => none) 3 (some q2_)), zC q2_ 14 40, (q3_, 10, 0, va_up (va_up (va_up (fun _ => 0) 0 1) 1 0) 2 0, fun _ => 0, va_up (fun _ => none) 3 (some q4_)), zC q4_ 14 40, (q5_, 10, 0, va_up (va_up (va_up (fun _ => 0) 0 1) 1 0) 2 0, fun _ => 0, va_up (fun _ => none) 3 (some q6_)), zC q6_ 14 40] at hB
  refine wp_aast C (RX10, TX10, 4) dX11_init_31 (hB.ar 1 rfl) (by decide) rfl (hB.ob 6 rfl) (by decide) rfl (j := 2) rfl (by decide) (by decide) ?_
  refine wp_gen (fun T I J R => Bd T0 I0 J0 R0 u T I J R [(u, 11, 0, fun _ => 0, fun _ => 0, va_up (fun _ => none) 0 (some q0_)), (q0_, 19, 4, fun _ => 0, fun _ => 0, va_up (va_up (va_up (fun _ => none) 0 (some q1_)) 1 (some q3_)) 2 (some q5_)), (q1_, 10, 0, va_up (va_up (va_up (fun _ => 0) 0 1) 1 0) 2 0, fun _ => 0, va_up (fun _ => none) 3 (some q2_)), zC q2_ 14 40, (q3_, 10, 0, va_up (va_up (va_up (fun _ => 0) 0 1) 1 0) 2 0, fun _ => 0, va_up (fun _ => none) 3 (some q4_)), zC q4_ 14 40, (q5_, 10, 0, va_up (va_up (va_up (fun _ => 0) 0 1) 1 0) 2 0, fun _ => 0, va_up (fun _ => none) 3 (some q6_)), zC q6_ 14 40]) (hB.pR (p := 1) rfl 2 (some q5_)) ?_
  intro T I J R hB
  refine wp_iinc C 0 3 [(1, .int 3), (0, .ref u)] dX11_init_32 rfl rfl (by decide) rfl ?_
  refine wp_goto C 14 dX11_init_35 (by decide) ?_
  refine wp_iload_n C 0 dX11_init_14 rfl rfl ?_
  refine wp_iconst C 4 dX11_init_15 (by decide) ?_
  refine wp_icmp_ge C 38 dX11_init_16 (by decide) (fun z => absurd z (by decide)) (fun _ => ?_)
  refine wp_aload_n C 1 dX11_init_19 rfl rfl ?_
  refine wp_getR C dX11_init_20 fX11_init_11 (hB.ob 0 rfl) (hB.rf 0 rfl 0 rfl) ?_
  refine wp_iload_n C 0 dX11_init_23 rfl rfl ?_
  refine wp_new C dX11_init_24 nX11_init_9 (by decide) (by decide) ?_
  intro q7_ hq
  refine wp_gen (fun T I J R => Bd T0 I0 J0 R0 u T I J R [(u, 11, 0, fun _ => 0, fun _ => 0, va_up (fun _ => none) 0 (some q0_)), (q0_, 19, 4, fun _ => 0, fun _ => 0, va_up (va_up (va_up (fun _ => none) 0 (some q1_)) 1 (some q3_)) 2 (some q5_)), (q1_, 10, 0, va_up (va_up (va_up (fun _ => 0) 0 1) 1 0) 2 0, fun _ => 0, va_up (fun _ => none) 3 (some q2_)), zC q2_ 14 40, (q3_, 10, 0, va_up (va_up (va_up (fun _ => 0) 0 1) 1 0) 2 0, fun _ => 0, va_up (fun _ => none) 3 (some q4_)), zC q4_ 14 40, (q5_, 10, 0, va_up (va_up (va_up (fun _ => 0) 0 1) 1 0) 2 0, fun _ => 0, va_up (fun _ => none) 3 (some q6_)), zC q6_ 14 40, zC q7_ 10 0]) (hB.push hq 10 0) ?_
  intro T I J R hB
  refine wp_dup C dX11_init_27 rfl ?_
  refine wp_callIN C (As := []) (rest := [.ref q7_, .int 3, .ref q0_]) dX11_init_28 kX11_init_15 C.2.2.2.2.2.2.1.2.1 (by decide +kernel) (by decide) (c_newTray _ (hB.cl 8 rfl)) rfl (Nat.le_of_ble_eq_true rfl) (by decide) (by decide) ?_
  rintro _ T I J R ⟨rfl, q8x, h2⟩
  obtain ⟨q8_, eq8_⟩ : ∃ z, z = q8x 0 := ⟨_, rfl⟩
  unfold pl_c_newTray at h2
  simp only [← eq8_] at h2
  have hB := hB.join (p := 8) rfl h2 rfl
  change WP E 2 _ _ T I J R 31 [(1, .int 3), (0, .ref u)] [.ref q7_, .int 3, .ref q0_]
  change Bd T0 I0 J0 R0 u T I J R [(u, 11, 0, fun _ => 0, fun _ => 0, va_up (fun _ => none) 0 (some q0_)), (q0_, 19, 4, fun _ => 0, fun _ => 0, va_up (va_up (va_up (fun _ => none) 0 (some q1_)) 1 (some q3_)) 2 (some q5_)), (q1_, 10, 0, va_up (va_up (va_up (fun _ => 0) 0 1) 1 0) 2 0, fun _ => 0, va_up (fun _ => none) 3 (some q2_)), zC q2_ 14 40, (q3_, 10, 0, va_up (va_up (va_up (fun _ => 0) 0 1) 1 0) 2 0, fun _ => 0, va_up (fun _ => none) 3 (some q4_)), zC q4_ 14 40, (q5_, 10, 0, va_up (va_up (va_up (fun _ => 0) 0 1) 1 0) 2 0, fun _ => 0, va_up (fun _ => none) 3 (some q6_)), zC q6_ 14 40, (q7_, 10, 0, va_up (va_up (va_up (fun _ => 0) 0 1) 1 0) 2 0, fun _ => 0, va_up (fun _ => none) 3 (some q8_)), zC q8_ 14 40] at hB
  refine wp_aast C (RX10, TX10, 4) dX11_init_31 (hB.ar 1 rfl) (by decide) rfl (hB.ob 8 rfl) (by decide) rfl (j := 3) rfl (by decide) (by decide) ?_
  refine wp_gen (fun T I J R => Bd T0 I0 J0 R0 u T I J R [(u, 11, 0, fun _ => 0, fun _ => 0, va_up (fun _ => none) 0 (some q0_)), (q0_, 19, 4, fun _ => 0, fun _ => 0, va_up (va_up (va_up (va_up (fun _ => none) 0 (some q1_)) 1 (some q3_)) 2 (some q5_)) 3 (some q7_)), (q1_, 10, 0, va_up (va_up (va_up (fun _ => 0) 0 1) 1 0) 2 0, fun _ => 0, va_up (fun _ => none) 3 (some q2_)), zC q2_ 14 40, (q3_, 10, 0, va_up (va_up (va_up (fun _ => 0) 0 1) 1 0) 2 0, fun _ => 0, va_up (fun _ => none) 3 (some q4_)), zC q4_ 14 40, (q5_, 10, 0, va_up (va_up (va_up (fun _ => 0) 0 1) 1 0) 2 0, fun _ => 0, va_up (fun _ => none) 3 (some q6_)), zC q6_ 14 40, (q7_, 10, 0, va_up (va_up (va_up (fun _ => 0) 0 1) 1 0) 2 0, fun _ => 0, va_up (fun _ => none) 3 (some q8_)), zC q8_ 14 40]) (hB.pR (p := 1) rfl 3 (some q7_)) ?_
  intro T I J R hB
  refine wp_iinc C 0 4 [(1, .int 4), (0, .ref u)] dX11_init_32 rfl rfl (by decide) rfl ?_
  refine wp_goto C 14 dX11_init_35 (by decide) ?_
  refine wp_iload_n C 0 dX11_init_14 rfl rfl ?_
  refine wp_iconst C 4 dX11_init_15 (by decide) ?_
  refine wp_icmp_ge C 38 dX11_init_16 (by decide) (fun _ => ?_) (fun z => absurd (by decide) z)
  refine wp_aload_n C 1 dX11_init_38 rfl rfl ?_
  refine wp_new C dX11_init_39 nX11_init_16 (by decide) (by decide) ?_
  intro q9_ hq
  refine wp_gen (fun T I J R => Bd T0 I0 J0 R0 u T I J R [(u, 11, 0, fun _ => 0, fun _ => 0, va_up (fun _ => none) 0 (some q0_)), (q0_, 19, 4, fun _ => 0, fun _ => 0, va_up (va_up (va_up (va_up (fun _ => none) 0 (some q1_)) 1 (some q3_)) 2 (some q5_)) 3 (some q7_)), (q1_, 10, 0, va_up (va_up (va_up (fun _ => 0) 0 1) 1 0) 2 0, fun _ => 0, va_up (fun _ => none) 3 (some q2_)), zC q2_ 14 40, (q3_, 10, 0, va_up (va_up (va_up (fun _ => 0) 0 1) 1 0) 2 0, fun _ => 0, va_up (fun _ => none) 3 (some q4_)), zC q4_ 14 40, (q5_, 10, 0, va_up (va_up (va_up (fun _ => 0) 0 1) 1 0) 2 0, fun _ => 0, va_up (fun _ => none) 3 (some q6_)), zC q6_ 14 40, (q7_, 10, 0, va_up (va_up (va_up (fun _ => 0) 0 1) 1 0) 2 0, fun _ => 0, va_up (fun _ => none) 3 (some q8_)), zC q8_ 14 40, zC q9_ 4 0]) (hB.push hq 4 0) ?_
  intro T I J R hB
  refine wp_dup C dX11_init_42 rfl ?_
  refine wp_callIN C (As := []) (rest := [.ref q9_, .ref u]) dX11_init_43 kX11_init_18 C.2.2.2.2.2.2.1.2.2.1 (by decide +kernel) (by decide) (c_newMeetings _ (hB.cl 10 rfl)) rfl (Nat.le_of_ble_eq_true rfl) (by decide) (by decide) ?_
  rintro _ T I J R ⟨rfl, q10x, h2⟩
  obtain ⟨q10_, eq10_⟩ : ∃ z, z = q10x 0 := ⟨_, rfl⟩
  obtain ⟨q11_, eq11_⟩ : ∃ z, z = q10x 1 := ⟨_, rfl⟩
  obtain ⟨q12_, eq12_⟩ : ∃ z, z = q10x 2 := ⟨_, rfl⟩
  obtain ⟨q13_, eq13_⟩ : ∃ z, z = q10x 3 := ⟨_, rfl⟩
  obtain ⟨q14_, eq14_⟩ : ∃ z, z = q10x 4 := ⟨_, rfl⟩
  obtain ⟨q15_, eq15_⟩ : ∃ z, z = q10x 5 := ⟨_, rfl⟩
  obtain ⟨q16_, eq16_⟩ : ∃ z, z = q10x 6 := ⟨_, rfl⟩
  obtain ⟨q17_, eq17_⟩ : ∃ z, z = q10x 7 := ⟨_, rfl⟩
  obtain ⟨q18_, eq18_⟩ : ∃ z, z = q10x 8 := ⟨_, rfl⟩
  obtain ⟨q19_, eq19_⟩ : ∃ z, z = q10x 9 := ⟨_, rfl⟩
  obtain ⟨q20_, eq20_⟩ : ∃ z, z = q10x 10 := ⟨_, rfl⟩
  obtain ⟨q21_, eq21_⟩ : ∃ z, z = q10x 11 := ⟨_, rfl⟩
  unfold pl_c_newMeetings at h2
  simp only [← eq10_, ← eq11_, ← eq12_, ← eq13_, ← eq14_, ← eq15_, ← eq16_, ← eq17_, ← eq18_, ← eq19_, ← eq20_, ← eq21_] at h2
  have hB := hB.join (p := 10) rfl h2 rfl
  change WP E 2 _ _ T I J R 46 [(1, .int 4), (0, .ref u)] [.ref q9_, .ref u]
  change Bd T0 I0 J0 R0 u T I J R [(u, 11, 0, fun _ => 0, fun _ => 0, va_up (fun _ => none) 0 (some q0_)), (q0_, 19, 4, fun _ => 0, fun _ => 0, va_up (va_up (va_up (va_up (fun _ => none) 0 (some q1_)) 1 (some q3_)) 2 (some q5_)) 3 (some q7_)), (q1_, 10, 0, va_up (va_up (va_up (fun _ => 0) 0 1) 1 0) 2 0, fun _ => 0, va_up (fun _ => none) 3 (some q2_)), zC q2_ 14 40, (q3_, 10, 0, va_up (va_up (va_up (fun _ => 0) 0 1) 1 0) 2 0, fun _ => 0, va_up (fun _ => none) 3 (some q4_)), zC q4_ 14 40, (q5_, 10, 0, va_up (va_up (va_up (fun _ => 0) 0 1) 1 0) 2 0, fun _ => 0, va_up (fun _ => none) 3 (some q6_)), zC q6_ 14 40, (q7_, 10, 0, va_up (va_up (va_up (fun _ => 0) 0 1) 1 0) 2 0, fun _ => 0, va_up (fun _ => none) 3 (some q8_)), zC q8_ 14 40, (q9_, 4, 0, va_up (va_up (va_up (va_up (fun _ => 0) 0 0) 1 0) 2 4) 6 1, fun _ => 0, va_up (va_up (va_up (fun _ => none) 3 (some q10_)) 4 (some q11_)) 5 (some q19_)), zC q10_ 13 80, (q11_, 1, 0, va_up (fun _ => 0) 0 4, fun _ => 0, va_up (va_up (va_up (va_up (va_up (va_up (va_up (fun _ => none) 1 (some q12_)) 2 (some q13_)) 3 (some q14_)) 4 (some q15_)) 5 (some q16_)) 6 (some q17_)) 7 (some q18_)), zC q12_ 15 80, zC q13_ 13 80, zC q14_ 13 18, zC q15_ 14 19, zC q16_ 14 19, zC q17_ 13 19, zC q18_ 15 19, (q19_, 9, 0, va_up (va_up (fun _ => 0) 0 4) 0 4, fun _ => 0, va_up (va_up (fun _ => none) 1 (some q20_)) 2 (some q21_)), (q20_, 13, 64, fl (fun _ => 0) (-1) 64, fun _ => 0, fun _ => none), (q21_, 13, 80, fl (fun _ => 0) (-1) 80, fun _ => 0, fun _ => none)] at hB
  refine wp_putR C dX11_init_46 pX11_init_19 (fun _ => hnm) (hB.ob 0 rfl) rfl rfl ?_
  refine wp_gen (fun T I J R => Bd T0 I0 J0 R0 u T I J R [(u, 11, 0, fun _ => 0, fun _ => 0, va_up (va_up (fun _ => none) 0 (some q0_)) 1 (some q9_)), (q0_, 19, 4, fun _ => 0, fun _ => 0, va_up (va_up (va_up (va_up (fun _ => none) 0 (some q1_)) 1 (some q3_)) 2 (some q5_)) 3 (some q7_)), (q1_, 10, 0, va_up (va_up (va_up (fun _ => 0) 0 1) 1 0) 2 0, fun _ => 0, va_up (fun _ => none) 3 (some q2_)), zC q2_ 14 40, (q3_, 10, 0, va_up (va_up (va_up (fun _ => 0) 0 1) 1 0) 2 0, fun _ => 0, va_up (fun _ => none) 3 (some q4_)), zC q4_ 14 40, (q5_, 10, 0, va_up (va_up (va_up (fun _ => 0) 0 1) 1 0) 2 0, fun _ => 0, va_up (fun _ => none) 3 (some q6_)), zC q6_ 14 40, (q7_, 10, 0, va_up (va_up (va_up (fun _ => 0) 0 1) 1 0) 2 0, fun _ => 0, va_up (fun _ => none) 3 (some q8_)), zC q8_ 14 40, (q9_, 4, 0, va_up (va_up (va_up (va_up (fun _ => 0) 0 0) 1 0) 2 4) 6 1, fun _ => 0, va_up (va_up (va_up (fun _ => none) 3 (some q10_)) 4 (some q11_)) 5 (some q19_)), zC q10_ 13 80, (q11_, 1, 0, va_up (fun _ => 0) 0 4, fun _ => 0, va_up (va_up (va_up (va_up (va_up (va_up (va_up (fun _ => none) 1 (some q12_)) 2 (some q13_)) 3 (some q14_)) 4 (some q15_)) 5 (some q16_)) 6 (some q17_)) 7 (some q18_)), zC q12_ 15 80, zC q13_ 13 80, zC q14_ 13 18, zC q15_ 14 19, zC q16_ 14 19, zC q17_ 13 19, zC q18_ 15 19, (q19_, 9, 0, va_up (va_up (fun _ => 0) 0 4) 0 4, fun _ => 0, va_up (va_up (fun _ => none) 1 (some q20_)) 2 (some q21_)), (q20_, 13, 64, fl (fun _ => 0) (-1) 64, fun _ => 0, fun _ => none), (q21_, 13, 80, fl (fun _ => 0) (-1) 80, fun _ => 0, fun _ => none)]) (hB.pR (p := 0) rfl 1 (some q9_)) ?_
  intro T I J R hB
  refine wp_aload_n C 1 dX11_init_49 rfl rfl ?_
  refine wp_new C dX11_init_50 nX11_init_23 (by decide) (by decide) ?_
  intro q22_ hq
  refine wp_gen (fun T I J R => Bd T0 I0 J0 R0 u T I J R [(u, 11, 0, fun _ => 0, fun _ => 0, va_up (va_up (fun _ => none) 0 (some q0_)) 1 (some q9_)), (q0_, 19, 4, fun _ => 0, fun _ => 0, va_up (va_up (va_up (va_up (fun _ => none) 0 (some q1_)) 1 (some q3_)) 2 (some q5_)) 3 (some q7_)), (q1_, 10, 0, va_up (va_up (va_up (fun _ => 0) 0 1) 1 0) 2 0, fun _ => 0, va_up (fun _ => none) 3 (some q2_)), zC q2_ 14 40, (q3_, 10, 0, va_up (va_up (va_up (fun _ => 0) 0 1) 1 0) 2 0, fun _ => 0, va_up (fun _ => none) 3 (some q4_)), zC q4_ 14 40, (q5_, 10, 0, va_up (va_up (va_up (fun _ => 0) 0 1) 1 0) 2 0, fun _ => 0, va_up (fun _ => none) 3 (some q6_)), zC q6_ 14 40, (q7_, 10, 0, va_up (va_up (va_up (fun _ => 0) 0 1) 1 0) 2 0, fun _ => 0, va_up (fun _ => none) 3 (some q8_)), zC q8_ 14 40, (q9_, 4, 0, va_up (va_up (va_up (va_up (fun _ => 0) 0 0) 1 0) 2 4) 6 1, fun _ => 0, va_up (va_up (va_up (fun _ => none) 3 (some q10_)) 4 (some q11_)) 5 (some q19_)), zC q10_ 13 80, (q11_, 1, 0, va_up (fun _ => 0) 0 4, fun _ => 0, va_up (va_up (va_up (va_up (va_up (va_up (va_up (fun _ => none) 1 (some q12_)) 2 (some q13_)) 3 (some q14_)) 4 (some q15_)) 5 (some q16_)) 6 (some q17_)) 7 (some q18_)), zC q12_ 15 80, zC q13_ 13 80, zC q14_ 13 18, zC q15_ 14 19, zC q16_ 14 19, zC q17_ 13 19, zC q18_ 15 19, (q19_, 9, 0, va_up (va_up (fun _ => 0) 0 4) 0 4, fun _ => 0, va_up (va_up (fun _ => none) 1 (some q20_)) 2 (some q21_)), (q20_, 13, 64, fl (fun _ => 0) (-1) 64, fun _ => 0, fun _ => none), (q21_, 13, 80, fl (fun _ => 0) (-1) 80, fun _ => 0, fun _ => none), zC q22_ 2 0]) (hB.push hq 2 0) ?_
  intro T I J R hB
  refine wp_dup C dX11_init_53 rfl ?_
  refine wp_callIN C (As := []) (rest := [.ref q22_, .ref u]) dX11_init_54 kX11_init_25 C.2.2.2.2.2.2.1.2.2.2.1 (by decide +kernel) (by decide) (c_newBooks _ (hB.cl 23 rfl)) rfl (Nat.le_of_ble_eq_true rfl) (by decide) (by decide) ?_
  rintro _ T I J R ⟨rfl, q23x, h2⟩
  obtain ⟨q23_, eq23_⟩ : ∃ z, z = q23x 0 := ⟨_, rfl⟩
  obtain ⟨q24_, eq24_⟩ : ∃ z, z = q23x 1 := ⟨_, rfl⟩
  obtain ⟨q25_, eq25_⟩ : ∃ z, z = q23x 2 := ⟨_, rfl⟩
  obtain ⟨q26_, eq26_⟩ : ∃ z, z = q23x 3 := ⟨_, rfl⟩
  unfold pl_c_newBooks at h2
  simp only [← eq23_, ← eq24_, ← eq25_, ← eq26_] at h2
  have hB := hB.join (p := 23) rfl h2 rfl
  change WP E 2 _ _ T I J R 57 [(1, .int 4), (0, .ref u)] [.ref q22_, .ref u]
  change Bd T0 I0 J0 R0 u T I J R [(u, 11, 0, fun _ => 0, fun _ => 0, va_up (va_up (fun _ => none) 0 (some q0_)) 1 (some q9_)), (q0_, 19, 4, fun _ => 0, fun _ => 0, va_up (va_up (va_up (va_up (fun _ => none) 0 (some q1_)) 1 (some q3_)) 2 (some q5_)) 3 (some q7_)), (q1_, 10, 0, va_up (va_up (va_up (fun _ => 0) 0 1) 1 0) 2 0, fun _ => 0, va_up (fun _ => none) 3 (some q2_)), zC q2_ 14 40, (q3_, 10, 0, va_up (va_up (va_up (fun _ => 0) 0 1) 1 0) 2 0, fun _ => 0, va_up (fun _ => none) 3 (some q4_)), zC q4_ 14 40, (q5_, 10, 0, va_up (va_up (va_up (fun _ => 0) 0 1) 1 0) 2 0, fun _ => 0, va_up (fun _ => none) 3 (some q6_)), zC q6_ 14 40, (q7_, 10, 0, va_up (va_up (va_up (fun _ => 0) 0 1) 1 0) 2 0, fun _ => 0, va_up (fun _ => none) 3 (some q8_)), zC q8_ 14 40, (q9_, 4, 0, va_up (va_up (va_up (va_up (fun _ => 0) 0 0) 1 0) 2 4) 6 1, fun _ => 0, va_up (va_up (va_up (fun _ => none) 3 (some q10_)) 4 (some q11_)) 5 (some q19_)), zC q10_ 13 80, (q11_, 1, 0, va_up (fun _ => 0) 0 4, fun _ => 0, va_up (va_up (va_up (va_up (va_up (va_up (va_up (fun _ => none) 1 (some q12_)) 2 (some q13_)) 3 (some q14_)) 4 (some q15_)) 5 (some q16_)) 6 (some q17_)) 7 (some q18_)), zC q12_ 15 80, zC q13_ 13 80, zC q14_ 13 18, zC q15_ 14 19, zC q16_ 14 19, zC q17_ 13 19, zC q18_ 15 19, (q19_, 9, 0, va_up (va_up (fun _ => 0) 0 4) 0 4, fun _ => 0, va_up (va_up (fun _ => none) 1 (some q20_)) 2 (some q21_)), (q20_, 13, 64, fl (fun _ => 0) (-1) 64, fun _ => 0, fun _ => none), (q21_, 13, 80, fl (fun _ => 0) (-1) 80, fun _ => 0, fun _ => none), (q22_, 2, 0, va_up (va_up (va_up (fun _ => 0) 0 0) 3 0) 5 0, fun _ => 0, va_up (va_up (va_up (va_up (fun _ => none) 1 (some q23_)) 2 (some q24_)) 4 (some q25_)) 6 (some q26_)), zC q23_ 15 12, zC q24_ 15 120, zC q25_ 16 60, zC q26_ 18 30] at hB
  refine wp_putR C dX11_init_57 pX11_init_26 (fun _ => hnm) (hB.ob 0 rfl) rfl rfl ?_
  refine wp_gen (fun T I J R => Bd T0 I0 J0 R0 u T I J R [(u, 11, 0, fun _ => 0, fun _ => 0, va_up (va_up (va_up (fun _ => none) 0 (some q0_)) 1 (some q9_)) 2 (some q22_)), (q0_, 19, 4, fun _ => 0, fun _ => 0, va_up (va_up (va_up (va_up (fun _ => none) 0 (some q1_)) 1 (some q3_)) 2 (some q5_)) 3 (some q7_)), (q1_, 10, 0, va_up (va_up (va_up (fun _ => 0) 0 1) 1 0) 2 0, fun _ => 0, va_up (fun _ => none) 3 (some q2_)), zC q2_ 14 40, (q3_, 10, 0, va_up (va_up (va_up (fun _ => 0) 0 1) 1 0) 2 0, fun _ => 0, va_up (fun _ => none) 3 (some q4_)), zC q4_ 14 40, (q5_, 10, 0, va_up (va_up (va_up (fun _ => 0) 0 1) 1 0) 2 0, fun _ => 0, va_up (fun _ => none) 3 (some q6_)), zC q6_ 14 40, (q7_, 10, 0, va_up (va_up (va_up (fun _ => 0) 0 1) 1 0) 2 0, fun _ => 0, va_up (fun _ => none) 3 (some q8_)), zC q8_ 14 40, (q9_, 4, 0, va_up (va_up (va_up (va_up (fun _ => 0) 0 0) 1 0) 2 4) 6 1, fun _ => 0, va_up (va_up (va_up (fun _ => none) 3 (some q10_)) 4 (some q11_)) 5 (some q19_)), zC q10_ 13 80, (q11_, 1, 0, va_up (fun _ => 0) 0 4, fun _ => 0, va_up (va_up (va_up (va_up (va_up (va_up (va_up (fun _ => none) 1 (some q12_)) 2 (some q13_)) 3 (some q14_)) 4 (some q15_)) 5 (some q16_)) 6 (some q17_)) 7 (some q18_)), zC q12_ 15 80, zC q13_ 13 80, zC q14_ 13 18, zC q15_ 14 19, zC q16_ 14 19, zC q17_ 13 19, zC q18_ 15 19, (q19_, 9, 0, va_up (va_up (fun _ => 0) 0 4) 0 4, fun _ => 0, va_up (va_up (fun _ => none) 1 (some q20_)) 2 (some q21_)), (q20_, 13, 64, fl (fun _ => 0) (-1) 64, fun _ => 0, fun _ => none), (q21_, 13, 80, fl (fun _ => 0) (-1) 80, fun _ => 0, fun _ => none), (q22_, 2, 0, va_up (va_up (va_up (fun _ => 0) 0 0) 3 0) 5 0, fun _ => 0, va_up (va_up (va_up (va_up (fun _ => none) 1 (some q23_)) 2 (some q24_)) 4 (some q25_)) 6 (some q26_)), zC q23_ 15 12, zC q24_ 15 120, zC q25_ 16 60, zC q26_ 18 30]) (hB.pR (p := 0) rfl 2 (some q22_)) ?_
  intro T I J R hB
  refine wp_aload_n C 1 dX11_init_60 rfl rfl ?_
  refine wp_new C dX11_init_61 nX11_init_30 (by decide) (by decide) ?_
  intro q27_ hq
  refine wp_gen (fun T I J R => Bd T0 I0 J0 R0 u T I J R [(u, 11, 0, fun _ => 0, fun _ => 0, va_up (va_up (va_up (fun _ => none) 0 (some q0_)) 1 (some q9_)) 2 (some q22_)), (q0_, 19, 4, fun _ => 0, fun _ => 0, va_up (va_up (va_up (va_up (fun _ => none) 0 (some q1_)) 1 (some q3_)) 2 (some q5_)) 3 (some q7_)), (q1_, 10, 0, va_up (va_up (va_up (fun _ => 0) 0 1) 1 0) 2 0, fun _ => 0, va_up (fun _ => none) 3 (some q2_)), zC q2_ 14 40, (q3_, 10, 0, va_up (va_up (va_up (fun _ => 0) 0 1) 1 0) 2 0, fun _ => 0, va_up (fun _ => none) 3 (some q4_)), zC q4_ 14 40, (q5_, 10, 0, va_up (va_up (va_up (fun _ => 0) 0 1) 1 0) 2 0, fun _ => 0, va_up (fun _ => none) 3 (some q6_)), zC q6_ 14 40, (q7_, 10, 0, va_up (va_up (va_up (fun _ => 0) 0 1) 1 0) 2 0, fun _ => 0, va_up (fun _ => none) 3 (some q8_)), zC q8_ 14 40, (q9_, 4, 0, va_up (va_up (va_up (va_up (fun _ => 0) 0 0) 1 0) 2 4) 6 1, fun _ => 0, va_up (va_up (va_up (fun _ => none) 3 (some q10_)) 4 (some q11_)) 5 (some q19_)), zC q10_ 13 80, (q11_, 1, 0, va_up (fun _ => 0) 0 4, fun _ => 0, va_up (va_up (va_up (va_up (va_up (va_up (va_up (fun _ => none) 1 (some q12_)) 2 (some q13_)) 3 (some q14_)) 4 (some q15_)) 5 (some q16_)) 6 (some q17_)) 7 (some q18_)), zC q12_ 15 80, zC q13_ 13 80, zC q14_ 13 18, zC q15_ 14 19, zC q16_ 14 19, zC q17_ 13 19, zC q18_ 15 19, (q19_, 9, 0, va_up (va_up (fun _ => 0) 0 4) 0 4, fun _ => 0, va_up (va_up (fun _ => none) 1 (some q20_)) 2 (some q21_)), (q20_, 13, 64, fl (fun _ => 0) (-1) 64, fun _ => 0, fun _ => none), (q21_, 13, 80, fl (fun _ => 0) (-1) 80, fun _ => 0, fun _ => none), (q22_, 2, 0, va_up (va_up (va_up (fun _ => 0) 0 0) 3 0) 5 0, fun _ => 0, va_up (va_up (va_up (va_up (fun _ => none) 1 (some q23_)) 2 (some q24_)) 4 (some q25_)) 6 (some q26_)), zC q23_ 15 12, zC q24_ 15 120, zC q25_ 16 60, zC q26_ 18 30, zC q27_ 6 0]) (hB.push hq 6 0) ?_
  intro T I J R hB
  refine wp_dup C dX11_init_64 rfl ?_
  refine wp_callIN C (As := []) (rest := [.ref q27_, .ref u]) dX11_init_65 kX11_init_32 C.2.2.2.2.2.2.1.2.2.2.2.1 (by decide +kernel) (by decide) (c_newOffers _ (hB.cl 28 rfl)) rfl (Nat.le_of_ble_eq_true rfl) (by decide) (by decide) ?_
  rintro _ T I J R ⟨rfl, q28x, h2⟩
  obtain ⟨q28_, eq28_⟩ : ∃ z, z = q28x 0 := ⟨_, rfl⟩
  unfold pl_c_newOffers at h2
  simp only [← eq28_] at h2
  have hB := hB.join (p := 28) rfl h2 rfl
  change WP E 2 _ _ T I J R 68 [(1, .int 4), (0, .ref u)] [.ref q27_, .ref u]
  change Bd T0 I0 J0 R0 u T I J R [(u, 11, 0, fun _ => 0, fun _ => 0, va_up (va_up (va_up (fun _ => none) 0 (some q0_)) 1 (some q9_)) 2 (some q22_)), (q0_, 19, 4, fun _ => 0, fun _ => 0, va_up (va_up (va_up (va_up (fun _ => none) 0 (some q1_)) 1 (some q3_)) 2 (some q5_)) 3 (some q7_)), (q1_, 10, 0, va_up (va_up (va_up (fun _ => 0) 0 1) 1 0) 2 0, fun _ => 0, va_up (fun _ => none) 3 (some q2_)), zC q2_ 14 40, (q3_, 10, 0, va_up (va_up (va_up (fun _ => 0) 0 1) 1 0) 2 0, fun _ => 0, va_up (fun _ => none) 3 (some q4_)), zC q4_ 14 40, (q5_, 10, 0, va_up (va_up (va_up (fun _ => 0) 0 1) 1 0) 2 0, fun _ => 0, va_up (fun _ => none) 3 (some q6_)), zC q6_ 14 40, (q7_, 10, 0, va_up (va_up (va_up (fun _ => 0) 0 1) 1 0) 2 0, fun _ => 0, va_up (fun _ => none) 3 (some q8_)), zC q8_ 14 40, (q9_, 4, 0, va_up (va_up (va_up (va_up (fun _ => 0) 0 0) 1 0) 2 4) 6 1, fun _ => 0, va_up (va_up (va_up (fun _ => none) 3 (some q10_)) 4 (some q11_)) 5 (some q19_)), zC q10_ 13 80, (q11_, 1, 0, va_up (fun _ => 0) 0 4, fun _ => 0, va_up (va_up (va_up (va_up (va_up (va_up (va_up (fun _ => none) 1 (some q12_)) 2 (some q13_)) 3 (some q14_)) 4 (some q15_)) 5 (some q16_)) 6 (some q17_)) 7 (some q18_)), zC q12_ 15 80, zC q13_ 13 80, zC q14_ 13 18, zC q15_ 14 19, zC q16_ 14 19, zC q17_ 13 19, zC q18_ 15 19, (q19_, 9, 0, va_up (va_up (fun _ => 0) 0 4) 0 4, fun _ => 0, va_up (va_up (fun _ => none) 1 (some q20_)) 2 (some q21_)), (q20_, 13, 64, fl (fun _ => 0) (-1) 64, fun _ => 0, fun _ => none), (q21_, 13, 80, fl (fun _ => 0) (-1) 80, fun _ => 0, fun _ => none), (q22_, 2, 0, va_up (va_up (va_up (fun _ => 0) 0 0) 3 0) 5 0, fun _ => 0, va_up (va_up (va_up (va_up (fun _ => none) 1 (some q23_)) 2 (some q24_)) 4 (some q25_)) 6 (some q26_)), zC q23_ 15 12, zC q24_ 15 120, zC q25_ 16 60, zC q26_ 18 30, (q27_, 6, 0, va_up (va_up (fun _ => 0) 0 0) 1 0, fun _ => 0, va_up (fun _ => none) 2 (some q28_)), zC q28_ 17 60] at hB
  refine wp_putR C dX11_init_68 pX11_init_33 (fun _ => hnm) (hB.ob 0 rfl) rfl rfl ?_
  refine wp_gen (fun T I J R => Bd T0 I0 J0 R0 u T I J R [(u, 11, 0, fun _ => 0, fun _ => 0, va_up (va_up (va_up (va_up (fun _ => none) 0 (some q0_)) 1 (some q9_)) 2 (some q22_)) 3 (some q27_)), (q0_, 19, 4, fun _ => 0, fun _ => 0, va_up (va_up (va_up (va_up (fun _ => none) 0 (some q1_)) 1 (some q3_)) 2 (some q5_)) 3 (some q7_)), (q1_, 10, 0, va_up (va_up (va_up (fun _ => 0) 0 1) 1 0) 2 0, fun _ => 0, va_up (fun _ => none) 3 (some q2_)), zC q2_ 14 40, (q3_, 10, 0, va_up (va_up (va_up (fun _ => 0) 0 1) 1 0) 2 0, fun _ => 0, va_up (fun _ => none) 3 (some q4_)), zC q4_ 14 40, (q5_, 10, 0, va_up (va_up (va_up (fun _ => 0) 0 1) 1 0) 2 0, fun _ => 0, va_up (fun _ => none) 3 (some q6_)), zC q6_ 14 40, (q7_, 10, 0, va_up (va_up (va_up (fun _ => 0) 0 1) 1 0) 2 0, fun _ => 0, va_up (fun _ => none) 3 (some q8_)), zC q8_ 14 40, (q9_, 4, 0, va_up (va_up (va_up (va_up (fun _ => 0) 0 0) 1 0) 2 4) 6 1, fun _ => 0, va_up (va_up (va_up (fun _ => none) 3 (some q10_)) 4 (some q11_)) 5 (some q19_)), zC q10_ 13 80, (q11_, 1, 0, va_up (fun _ => 0) 0 4, fun _ => 0, va_up (va_up (va_up (va_up (va_up (va_up (va_up (fun _ => none) 1 (some q12_)) 2 (some q13_)) 3 (some q14_)) 4 (some q15_)) 5 (some q16_)) 6 (some q17_)) 7 (some q18_)), zC q12_ 15 80, zC q13_ 13 80, zC q14_ 13 18, zC q15_ 14 19, zC q16_ 14 19, zC q17_ 13 19, zC q18_ 15 19, (q19_, 9, 0, va_up (va_up (fun _ => 0) 0 4) 0 4, fun _ => 0, va_up (va_up (fun _ => none) 1 (some q20_)) 2 (some q21_)), (q20_, 13, 64, fl (fun _ => 0) (-1) 64, fun _ => 0, fun _ => none), (q21_, 13, 80, fl (fun _ => 0) (-1) 80, fun _ => 0, fun _ => none), (q22_, 2, 0, va_up (va_up (va_up (fun _ => 0) 0 0) 3 0) 5 0, fun _ => 0, va_up (va_up (va_up (va_up (fun _ => none) 1 (some q23_)) 2 (some q24_)) 4 (some q25_)) 6 (some q26_)), zC q23_ 15 12, zC q24_ 15 120, zC q25_ 16 60, zC q26_ 18 30, (q27_, 6, 0, va_up (va_up (fun _ => 0) 0 0) 1 0, fun _ => 0, va_up (fun _ => none) 2 (some q28_)), zC q28_ 17 60]) (hB.pR (p := 0) rfl 3 (some q27_)) ?_
  intro T I J R hB
  refine wp_aload_n C 1 dX11_init_71 rfl rfl ?_
  refine wp_null C dX11_init_72 ?_
  refine wp_putN C dX11_init_73 pX11_init_37 (fun h => nomatch h) (hB.ob 0 rfl) rfl rfl ?_
  refine wp_gen (fun T I J R => Bd T0 I0 J0 R0 u T I J R [(u, 11, 0, fun _ => 0, fun _ => 0, va_up (va_up (va_up (va_up (va_up (fun _ => none) 0 (some q0_)) 1 (some q9_)) 2 (some q22_)) 3 (some q27_)) 4 none), (q0_, 19, 4, fun _ => 0, fun _ => 0, va_up (va_up (va_up (va_up (fun _ => none) 0 (some q1_)) 1 (some q3_)) 2 (some q5_)) 3 (some q7_)), (q1_, 10, 0, va_up (va_up (va_up (fun _ => 0) 0 1) 1 0) 2 0, fun _ => 0, va_up (fun _ => none) 3 (some q2_)), zC q2_ 14 40, (q3_, 10, 0, va_up (va_up (va_up (fun _ => 0) 0 1) 1 0) 2 0, fun _ => 0, va_up (fun _ => none) 3 (some q4_)), zC q4_ 14 40, (q5_, 10, 0, va_up (va_up (va_up (fun _ => 0) 0 1) 1 0) 2 0, fun _ => 0, va_up (fun _ => none) 3 (some q6_)), zC q6_ 14 40, (q7_, 10, 0, va_up (va_up (va_up (fun _ => 0) 0 1) 1 0) 2 0, fun _ => 0, va_up (fun _ => none) 3 (some q8_)), zC q8_ 14 40, (q9_, 4, 0, va_up (va_up (va_up (va_up (fun _ => 0) 0 0) 1 0) 2 4) 6 1, fun _ => 0, va_up (va_up (va_up (fun _ => none) 3 (some q10_)) 4 (some q11_)) 5 (some q19_)), zC q10_ 13 80, (q11_, 1, 0, va_up (fun _ => 0) 0 4, fun _ => 0, va_up (va_up (va_up (va_up (va_up (va_up (va_up (fun _ => none) 1 (some q12_)) 2 (some q13_)) 3 (some q14_)) 4 (some q15_)) 5 (some q16_)) 6 (some q17_)) 7 (some q18_)), zC q12_ 15 80, zC q13_ 13 80, zC q14_ 13 18, zC q15_ 14 19, zC q16_ 14 19, zC q17_ 13 19, zC q18_ 15 19, (q19_, 9, 0, va_up (va_up (fun _ => 0) 0 4) 0 4, fun _ => 0, va_up (va_up (fun _ => none) 1 (some q20_)) 2 (some q21_)), (q20_, 13, 64, fl (fun _ => 0) (-1) 64, fun _ => 0, fun _ => none), (q21_, 13, 80, fl (fun _ => 0) (-1) 80, fun _ => 0, fun _ => none), (q22_, 2, 0, va_up (va_up (va_up (fun _ => 0) 0 0) 3 0) 5 0, fun _ => 0, va_up (va_up (va_up (va_up (fun _ => none) 1 (some q23_)) 2 (some q24_)) 4 (some q25_)) 6 (some q26_)), zC q23_ 15 12, zC q24_ 15 120, zC q25_ 16 60, zC q26_ 18 30, (q27_, 6, 0, va_up (va_up (fun _ => 0) 0 0) 1 0, fun _ => 0, va_up (fun _ => none) 2 (some q28_)), zC q28_ 17 60]) (hB.pR (p := 0) rfl 4 none) ?_
  intro T I J R hB
  refine wp_aload_n C 1 dX11_init_76 rfl rfl ?_
  refine wp_iconst C 0 dX11_init_77 (by decide) ?_
  refine wp_putI C dX11_init_78 pX11_init_41 (fun h => nomatch h) (hB.ob 0 rfl) ?_
  refine wp_gen (fun T I J R => Bd T0 I0 J0 R0 u T I J R [(u, 11, 0, va_up (fun _ => 0) 5 0, fun _ => 0, va_up (va_up (va_up (va_up (va_up (fun _ => none) 0 (some q0_)) 1 (some q9_)) 2 (some q22_)) 3 (some q27_)) 4 none), (q0_, 19, 4, fun _ => 0, fun _ => 0, va_up (va_up (va_up (va_up (fun _ => none) 0 (some q1_)) 1 (some q3_)) 2 (some q5_)) 3 (some q7_)), (q1_, 10, 0, va_up (va_up (va_up (fun _ => 0) 0 1) 1 0) 2 0, fun _ => 0, va_up (fun _ => none) 3 (some q2_)), zC q2_ 14 40, (q3_, 10, 0, va_up (va_up (va_up (fun _ => 0) 0 1) 1 0) 2 0, fun _ => 0, va_up (fun _ => none) 3 (some q4_)), zC q4_ 14 40, (q5_, 10, 0, va_up (va_up (va_up (fun _ => 0) 0 1) 1 0) 2 0, fun _ => 0, va_up (fun _ => none) 3 (some q6_)), zC q6_ 14 40, (q7_, 10, 0, va_up (va_up (va_up (fun _ => 0) 0 1) 1 0) 2 0, fun _ => 0, va_up (fun _ => none) 3 (some q8_)), zC q8_ 14 40, (q9_, 4, 0, va_up (va_up (va_up (va_up (fun _ => 0) 0 0) 1 0) 2 4) 6 1, fun _ => 0, va_up (va_up (va_up (fun _ => none) 3 (some q10_)) 4 (some q11_)) 5 (some q19_)), zC q10_ 13 80, (q11_, 1, 0, va_up (fun _ => 0) 0 4, fun _ => 0, va_up (va_up (va_up (va_up (va_up (va_up (va_up (fun _ => none) 1 (some q12_)) 2 (some q13_)) 3 (some q14_)) 4 (some q15_)) 5 (some q16_)) 6 (some q17_)) 7 (some q18_)), zC q12_ 15 80, zC q13_ 13 80, zC q14_ 13 18, zC q15_ 14 19, zC q16_ 14 19, zC q17_ 13 19, zC q18_ 15 19, (q19_, 9, 0, va_up (va_up (fun _ => 0) 0 4) 0 4, fun _ => 0, va_up (va_up (fun _ => none) 1 (some q20_)) 2 (some q21_)), (q20_, 13, 64, fl (fun _ => 0) (-1) 64, fun _ => 0, fun _ => none), (q21_, 13, 80, fl (fun _ => 0) (-1) 80, fun _ => 0, fun _ => none), (q22_, 2, 0, va_up (va_up (va_up (fun _ => 0) 0 0) 3 0) 5 0, fun _ => 0, va_up (va_up (va_up (va_up (fun _ => none) 1 (some q23_)) 2 (some q24_)) 4 (some q25_)) 6 (some q26_)), zC q23_ 15 12, zC q24_ 15 120, zC q25_ 16 60, zC q26_ 18 30, (q27_, 6, 0, va_up (va_up (fun _ => 0) 0 0) 1 0, fun _ => 0, va_up (fun _ => none) 2 (some q28_)), zC q28_ 17 60]) (hB.pI (p := 0) rfl 5 0) ?_
  intro T I J R hB
  refine wp_aload_n C 1 dX11_init_81 rfl rfl ?_
  refine wp_lconst C 0 dX11_init_82 (by decide) ?_
  refine wp_putJ C dX11_init_83 pX11_init_45 (fun h => nomatch h) (hB.ob 0 rfl) ?_
  refine wp_gen (fun T I J R => Bd T0 I0 J0 R0 u T I J R [(u, 11, 0, va_up (fun _ => 0) 5 0, va_up (fun _ => 0) 6 0, va_up (va_up (va_up (va_up (va_up (fun _ => none) 0 (some q0_)) 1 (some q9_)) 2 (some q22_)) 3 (some q27_)) 4 none), (q0_, 19, 4, fun _ => 0, fun _ => 0, va_up (va_up (va_up (va_up (fun _ => none) 0 (some q1_)) 1 (some q3_)) 2 (some q5_)) 3 (some q7_)), (q1_, 10, 0, va_up (va_up (va_up (fun _ => 0) 0 1) 1 0) 2 0, fun _ => 0, va_up (fun _ => none) 3 (some q2_)), zC q2_ 14 40, (q3_, 10, 0, va_up (va_up (va_up (fun _ => 0) 0 1) 1 0) 2 0, fun _ => 0, va_up (fun _ => none) 3 (some q4_)), zC q4_ 14 40, (q5_, 10, 0, va_up (va_up (va_up (fun _ => 0) 0 1) 1 0) 2 0, fun _ => 0, va_up (fun _ => none) 3 (some q6_)), zC q6_ 14 40, (q7_, 10, 0, va_up (va_up (va_up (fun _ => 0) 0 1) 1 0) 2 0, fun _ => 0, va_up (fun _ => none) 3 (some q8_)), zC q8_ 14 40, (q9_, 4, 0, va_up (va_up (va_up (va_up (fun _ => 0) 0 0) 1 0) 2 4) 6 1, fun _ => 0, va_up (va_up (va_up (fun _ => none) 3 (some q10_)) 4 (some q11_)) 5 (some q19_)), zC q10_ 13 80, (q11_, 1, 0, va_up (fun _ => 0) 0 4, fun _ => 0, va_up (va_up (va_up (va_up (va_up (va_up (va_up (fun _ => none) 1 (some q12_)) 2 (some q13_)) 3 (some q14_)) 4 (some q15_)) 5 (some q16_)) 6 (some q17_)) 7 (some q18_)), zC q12_ 15 80, zC q13_ 13 80, zC q14_ 13 18, zC q15_ 14 19, zC q16_ 14 19, zC q17_ 13 19, zC q18_ 15 19, (q19_, 9, 0, va_up (va_up (fun _ => 0) 0 4) 0 4, fun _ => 0, va_up (va_up (fun _ => none) 1 (some q20_)) 2 (some q21_)), (q20_, 13, 64, fl (fun _ => 0) (-1) 64, fun _ => 0, fun _ => none), (q21_, 13, 80, fl (fun _ => 0) (-1) 80, fun _ => 0, fun _ => none), (q22_, 2, 0, va_up (va_up (va_up (fun _ => 0) 0 0) 3 0) 5 0, fun _ => 0, va_up (va_up (va_up (va_up (fun _ => none) 1 (some q23_)) 2 (some q24_)) 4 (some q25_)) 6 (some q26_)), zC q23_ 15 12, zC q24_ 15 120, zC q25_ 16 60, zC q26_ 18 30, (q27_, 6, 0, va_up (va_up (fun _ => 0) 0 0) 1 0, fun _ => 0, va_up (fun _ => none) 2 (some q28_)), zC q28_ 17 60]) (hB.pJ (p := 0) rfl 6 0) ?_
  intro T I J R hB
  refine wp_aload_n C 1 dX11_init_86 rfl rfl ?_
  refine wp_lconst C 1 dX11_init_87 (by decide) ?_
  refine wp_putJ C dX11_init_88 pX11_init_49 (fun h => nomatch h) (hB.ob 0 rfl) ?_
  refine wp_gen (fun T I J R => Bd T0 I0 J0 R0 u T I J R [(u, 11, 0, va_up (fun _ => 0) 5 0, va_up (va_up (fun _ => 0) 6 0) 7 1, va_up (va_up (va_up (va_up (va_up (fun _ => none) 0 (some q0_)) 1 (some q9_)) 2 (some q22_)) 3 (some q27_)) 4 none), (q0_, 19, 4, fun _ => 0, fun _ => 0, va_up (va_up (va_up (va_up (fun _ => none) 0 (some q1_)) 1 (some q3_)) 2 (some q5_)) 3 (some q7_)), (q1_, 10, 0, va_up (va_up (va_up (fun _ => 0) 0 1) 1 0) 2 0, fun _ => 0, va_up (fun _ => none) 3 (some q2_)), zC q2_ 14 40, (q3_, 10, 0, va_up (va_up (va_up (fun _ => 0) 0 1) 1 0) 2 0, fun _ => 0, va_up (fun _ => none) 3 (some q4_)), zC q4_ 14 40, (q5_, 10, 0, va_up (va_up (va_up (fun _ => 0) 0 1) 1 0) 2 0, fun _ => 0, va_up (fun _ => none) 3 (some q6_)), zC q6_ 14 40, (q7_, 10, 0, va_up (va_up (va_up (fun _ => 0) 0 1) 1 0) 2 0, fun _ => 0, va_up (fun _ => none) 3 (some q8_)), zC q8_ 14 40, (q9_, 4, 0, va_up (va_up (va_up (va_up (fun _ => 0) 0 0) 1 0) 2 4) 6 1, fun _ => 0, va_up (va_up (va_up (fun _ => none) 3 (some q10_)) 4 (some q11_)) 5 (some q19_)), zC q10_ 13 80, (q11_, 1, 0, va_up (fun _ => 0) 0 4, fun _ => 0, va_up (va_up (va_up (va_up (va_up (va_up (va_up (fun _ => none) 1 (some q12_)) 2 (some q13_)) 3 (some q14_)) 4 (some q15_)) 5 (some q16_)) 6 (some q17_)) 7 (some q18_)), zC q12_ 15 80, zC q13_ 13 80, zC q14_ 13 18, zC q15_ 14 19, zC q16_ 14 19, zC q17_ 13 19, zC q18_ 15 19, (q19_, 9, 0, va_up (va_up (fun _ => 0) 0 4) 0 4, fun _ => 0, va_up (va_up (fun _ => none) 1 (some q20_)) 2 (some q21_)), (q20_, 13, 64, fl (fun _ => 0) (-1) 64, fun _ => 0, fun _ => none), (q21_, 13, 80, fl (fun _ => 0) (-1) 80, fun _ => 0, fun _ => none), (q22_, 2, 0, va_up (va_up (va_up (fun _ => 0) 0 0) 3 0) 5 0, fun _ => 0, va_up (va_up (va_up (va_up (fun _ => none) 1 (some q23_)) 2 (some q24_)) 4 (some q25_)) 6 (some q26_)), zC q23_ 15 12, zC q24_ 15 120, zC q25_ 16 60, zC q26_ 18 30, (q27_, 6, 0, va_up (va_up (fun _ => 0) 0 0) 1 0, fun _ => 0, va_up (fun _ => none) 2 (some q28_)), zC q28_ 17 60]) (hB.pJ (p := 0) rfl 7 1) ?_
  intro T I J R hB
  exact wp_vret C Z dX11_init_91 (by decide) (by decide) ⟨rfl, fun i => [q0_, q1_, q2_, q3_, q4_, q5_, q6_, q7_, q8_, q9_, q10_, q11_, q12_, q13_, q14_, q15_, q16_, q17_, q18_, q19_, q20_, q21_, q22_, q23_, q24_, q25_, q26_, q27_, q28_].getD i 0, hB⟩
def pl_m_newModel (u : Nat) (q : Nat → Nat) : List gC := [(u, 12, 0, va_up (fun _ => 0) 9 4, va_up (fun _ => 0) 3 1, va_up (va_up (va_up (va_up (va_up (va_up (va_up (va_up (va_up (va_up (va_up (va_up (va_up (va_up (va_up (va_up (va_up (va_up (va_up (va_up (va_up (va_up (va_up (va_up (va_up (va_up (va_up (va_up (va_up (va_up (va_up (va_up (va_up (va_up (va_up (va_up (va_up (va_up (fun _ => none) 4 (some (q 0))) 5 (some (q 1))) 6 (some (q 2))) 10 (some (q 3))) 11 (some (q 4))) 12 (some (q 5))) 13 (some (q 6))) 14 (some (q 7))) 15 (some (q 8))) 16 (some (q 9))) 17 (some (q 10))) 18 (some (q 11))) 19 (some (q 12))) 20 (some (q 13))) 26 (some (q 14))) 27 (some (q 15))) 28 (some (q 16))) 29 (some (q 17))) 30 (some (q 18))) 31 (some (q 19))) 32 (some (q 20))) 33 (some (q 21))) 34 (some (q 22))) 35 (some (q 23))) 36 (some (q 24))) 37 (some (q 25))) 38 (some (q 26))) 39 (some (q 27))) 40 (some (q 28))) 41 (some (q 29))) 42 (some (q 30))) 43 (some (q 31))) 44 (some (q 32))) 45 (some (q 33))) 46 (some (q 34))) 47 (some (q 35))) 48 (some (q 36))) 53 (some (q 37))), zC (q 0) 13 4, ((q 1), 13, 4, va_up (va_up (va_up (va_up (fun _ => 0) 0 (-1)) 1 (-1)) 2 (-1)) 3 (-1), fun _ => 0, fun _ => none), zC (q 2) 14 160, zC (q 3) 13 80, zC (q 4) 13 80, zC (q 5) 15 80, zC (q 6) 13 8, zC (q 7) 13 10, zC (q 8) 13 18, zC (q 9) 13 18, zC (q 10) 13 64, zC (q 11) 13 80, zC (q 12) 13 80, zC (q 13) 13 80, zC (q 14) 15 12, zC (q 15) 15 120, zC (q 16) 13 60, zC (q 17) 13 60, zC (q 18) 13 60, zC (q 19) 13 60, zC (q 20) 13 60, zC (q 21) 13 60, zC (q 22) 13 60, zC (q 23) 13 60, zC (q 24) 13 30, zC (q 25) 13 30, zC (q 26) 13 30, zC (q 27) 13 30, zC (q 28) 13 60, zC (q 29) 13 60, zC (q 30) 13 60, zC (q 31) 13 60, zC (q 32) 13 60, zC (q 33) 13 60, zC (q 34) 13 60, zC (q 35) 13 60, zC (q 36) 13 60, zC (q 37) 15 10]
set_option maxRecDepth 100000 in
set_option maxHeartbeats 4000000 in
theorem m_newModel (l : Launch) {T0 : gSh} {I0 : gI} {J0 : gJ} {R0 : gR} {u : Nat} (hu : CL T0 I0 J0 R0 (zC u 12 0)) : Con l yX12_init wsX12_init ({ frames := 1, cells := 38, slots := 2048, locals := 20 }) [.ref u] T0 I0 J0 R0 (PNb T0 I0 J0 R0 u (pl_m_newModel u)) := by
  refine Con.mk (cc := cX12_init) (maxL := 2) (ret := none) (by decide) rfl (Nat.le_of_ble_eq_true rfl) ?_
  intro E hE C Z hnm
  subst hE
  change WP E 2 0 0 T0 I0 J0 R0 0 [(0, .ref u)] []
  have hB := Bd.start hu
  refine wp_aload_n C 0 dX12_init_0 rfl rfl ?_
  refine wp_objInit C dX12_init_1 (by decide +kernel) (by decide +kernel) (by decide +kernel) (Nat.le_of_ble_eq_true rfl) (by decide) ?_
  refine wp_aload_n C 0 dX12_init_4 rfl rfl ?_
  refine wp_lconst C 1 dX12_init_5 (by decide) ?_
  refine wp_putJ C dX12_init_6 pX12_init_7 (fun h => nomatch h) (hB.ob 0 rfl) ?_
  refine wp_gen (fun T I J R => Bd T0 I0 J0 R0 u T I J R [(u, 12, 0, fun _ => 0, va_up (fun _ => 0) 3 1, fun _ => none)]) (hB.pJ (p := 0) rfl 3 1) ?_
  intro T I J R hB
  refine wp_aload_n C 0 dX12_init_9 rfl rfl ?_
  refine wp_iconst C 4 dX12_init_10 (by decide) ?_
  refine wp_newaI C dX12_init_11 (by decide +kernel) (n := 4) rfl (by decide) (by decide) (by decide) ?_
  intro q0_ hq
  refine wp_gen (fun T I J R => Bd T0 I0 J0 R0 u T I J R [(u, 12, 0, fun _ => 0, va_up (fun _ => 0) 3 1, fun _ => none), zC q0_ 13 4]) (hB.push hq 13 4) ?_
  intro T I J R hB
  refine wp_putR C dX12_init_13 pX12_init_13 (fun _ => hnm) (hB.ob 0 rfl) rfl rfl ?_
  refine wp_gen (fun T I J R => Bd T0 I0 J0 R0 u T I J R [(u, 12, 0, fun _ => 0, va_up (fun _ => 0) 3 1, va_up (fun _ => none) 4 (some q0_)), zC q0_ 13 4]) (hB.pR (p := 0) rfl 4 (some q0_)) ?_
  intro T I J R hB
  refine wp_aload_n C 0 dX12_init_16 rfl rfl ?_
  refine wp_iconst C 4 dX12_init_17 (by decide) ?_
  refine wp_newaI C dX12_init_18 (by decide +kernel) (n := 4) rfl (by decide) (by decide) (by decide) ?_
  intro q1_ hq
  refine wp_gen (fun T I J R => Bd T0 I0 J0 R0 u T I J R [(u, 12, 0, fun _ => 0, va_up (fun _ => 0) 3 1, va_up (fun _ => none) 4 (some q0_)), zC q0_ 13 4, zC q1_ 13 4]) (hB.push hq 13 4) ?_
  intro T I J R hB
  refine wp_putR C dX12_init_20 pX12_init_17 (fun _ => hnm) (hB.ob 0 rfl) rfl rfl ?_
  refine wp_gen (fun T I J R => Bd T0 I0 J0 R0 u T I J R [(u, 12, 0, fun _ => 0, va_up (fun _ => 0) 3 1, va_up (va_up (fun _ => none) 4 (some q0_)) 5 (some q1_)), zC q0_ 13 4, zC q1_ 13 4]) (hB.pR (p := 0) rfl 5 (some q1_)) ?_
  intro T I J R hB
  refine wp_aload_n C 0 dX12_init_23 rfl rfl ?_
  refine wp_sipush C 160 dX12_init_24 (by decide) ?_
  refine wp_newaJ C dX12_init_27 (by decide +kernel) (n := 160) rfl (by decide) (by decide) (by decide) ?_
  intro q2_ hq
  refine wp_gen (fun T I J R => Bd T0 I0 J0 R0 u T I J R [(u, 12, 0, fun _ => 0, va_up (fun _ => 0) 3 1, va_up (va_up (fun _ => none) 4 (some q0_)) 5 (some q1_)), zC q0_ 13 4, zC q1_ 13 4, zC q2_ 14 160]) (hB.push hq 14 160) ?_
  intro T I J R hB
  refine wp_putR C dX12_init_29 pX12_init_20 (fun _ => hnm) (hB.ob 0 rfl) rfl rfl ?_
  refine wp_gen (fun T I J R => Bd T0 I0 J0 R0 u T I J R [(u, 12, 0, fun _ => 0, va_up (fun _ => 0) 3 1, va_up (va_up (va_up (fun _ => none) 4 (some q0_)) 5 (some q1_)) 6 (some q2_)), zC q0_ 13 4, zC q1_ 13 4, zC q2_ 14 160]) (hB.pR (p := 0) rfl 6 (some q2_)) ?_
  intro T I J R hB
  refine wp_aload_n C 0 dX12_init_32 rfl rfl ?_
  refine wp_iconst C 4 dX12_init_33 (by decide) ?_
  refine wp_putI C dX12_init_34 pX12_init_24 (fun h => nomatch h) (hB.ob 0 rfl) ?_
  refine wp_gen (fun T I J R => Bd T0 I0 J0 R0 u T I J R [(u, 12, 0, va_up (fun _ => 0) 9 4, va_up (fun _ => 0) 3 1, va_up (va_up (va_up (fun _ => none) 4 (some q0_)) 5 (some q1_)) 6 (some q2_)), zC q0_ 13 4, zC q1_ 13 4, zC q2_ 14 160]) (hB.pI (p := 0) rfl 9 4) ?_
  intro T I J R hB
  refine wp_aload_n C 0 dX12_init_37 rfl rfl ?_
  refine wp_bipush C 80 dX12_init_38 (by decide) ?_
  refine wp_newaI C dX12_init_40 (by decide +kernel) (n := 80) rfl (by decide) (by decide) (by decide) ?_
  intro q3_ hq
  refine wp_gen (fun T I J R => Bd T0 I0 J0 R0 u T I J R [(u, 12, 0, va_up (fun _ => 0) 9 4, va_up (fun _ => 0) 3 1, va_up (va_up (va_up (fun _ => none) 4 (some q0_)) 5 (some q1_)) 6 (some q2_)), zC q0_ 13 4, zC q1_ 13 4, zC q2_ 14 160, zC q3_ 13 80]) (hB.push hq 13 80) ?_
  intro T I J R hB
  refine wp_putR C dX12_init_42 pX12_init_28 (fun _ => hnm) (hB.ob 0 rfl) rfl rfl ?_
  refine wp_gen (fun T I J R => Bd T0 I0 J0 R0 u T I J R [(u, 12, 0, va_up (fun _ => 0) 9 4, va_up (fun _ => 0) 3 1, va_up (va_up (va_up (va_up (fun _ => none) 4 (some q0_)) 5 (some q1_)) 6 (some q2_)) 10 (some q3_)), zC q0_ 13 4, zC q1_ 13 4, zC q2_ 14 160, zC q3_ 13 80]) (hB.pR (p := 0) rfl 10 (some q3_)) ?_
  intro T I J R hB
  refine wp_aload_n C 0 dX12_init_45 rfl rfl ?_
  refine wp_bipush C 80 dX12_init_46 (by decide) ?_
  refine wp_newaI C dX12_init_48 (by decide +kernel) (n := 80) rfl (by decide) (by decide) (by decide) ?_
  intro q4_ hq
  refine wp_gen (fun T I J R => Bd T0 I0 J0 R0 u T I J R [(u, 12, 0, va_up (fun _ => 0) 9 4, va_up (fun _ => 0) 3 1, va_up (va_up (va_up (va_up (fun _ => none) 4 (some q0_)) 5 (some q1_)) 6 (some q2_)) 10 (some q3_)), zC q0_ 13 4, zC q1_ 13 4, zC q2_ 14 160, zC q3_ 13 80, zC q4_ 13 80]) (hB.push hq 13 80) ?_
  intro T I J R hB
  refine wp_putR C dX12_init_50 pX12_init_31 (fun _ => hnm) (hB.ob 0 rfl) rfl rfl ?_
  refine wp_gen (fun T I J R => Bd T0 I0 J0 R0 u T I J R [(u, 12, 0, va_up (fun _ => 0) 9 4, va_up (fun _ => 0) 3 1, va_up (va_up (va_up (va_up (va_up (fun _ => none) 4 (some q0_)) 5 (some q1_)) 6 (some q2_)) 10 (some q3_)) 11 (some q4_)), zC q0_ 13 4, zC q1_ 13 4, zC q2_ 14 160, zC q3_ 13 80, zC q4_ 13 80]) (hB.pR (p := 0) rfl 11 (some q4_)) ?_
  intro T I J R hB
  refine wp_aload_n C 0 dX12_init_53 rfl rfl ?_
  refine wp_bipush C 80 dX12_init_54 (by decide) ?_
  refine wp_newaZ C dX12_init_56 (by decide +kernel) (n := 80) rfl (by decide) (by decide) (by decide) ?_
  intro q5_ hq
  refine wp_gen (fun T I J R => Bd T0 I0 J0 R0 u T I J R [(u, 12, 0, va_up (fun _ => 0) 9 4, va_up (fun _ => 0) 3 1, va_up (va_up (va_up (va_up (va_up (fun _ => none) 4 (some q0_)) 5 (some q1_)) 6 (some q2_)) 10 (some q3_)) 11 (some q4_)), zC q0_ 13 4, zC q1_ 13 4, zC q2_ 14 160, zC q3_ 13 80, zC q4_ 13 80, zC q5_ 15 80]) (hB.push hq 15 80) ?_
  intro T I J R hB
  refine wp_putR C dX12_init_58 pX12_init_34 (fun _ => hnm) (hB.ob 0 rfl) rfl rfl ?_
  refine wp_gen (fun T I J R => Bd T0 I0 J0 R0 u T I J R [(u, 12, 0, va_up (fun _ => 0) 9 4, va_up (fun _ => 0) 3 1, va_up (va_up (va_up (va_up (va_up (va_up (fun _ => none) 4 (some q0_)) 5 (some q1_)) 6 (some q2_)) 10 (some q3_)) 11 (some q4_)) 12 (some q5_)), zC q0_ 13 4, zC q1_ 13 4, zC q2_ 14 160, zC q3_ 13 80, zC q4_ 13 80, zC q5_ 15 80]) (hB.pR (p := 0) rfl 12 (some q5_)) ?_
  intro T I J R hB
  refine wp_aload_n C 0 dX12_init_61 rfl rfl ?_
  refine wp_bipush C 8 dX12_init_62 (by decide) ?_
  refine wp_newaI C dX12_init_64 (by decide +kernel) (n := 8) rfl (by decide) (by decide) (by decide) ?_
  intro q6_ hq
  refine wp_gen (fun T I J R => Bd T0 I0 J0 R0 u T I J R [(u, 12, 0, va_up (fun _ => 0) 9 4, va_up (fun _ => 0) 3 1, va_up (va_up (va_up (va_up (va_up (va_up (fun _ => none) 4 (some q0_)) 5 (some q1_)) 6 (some q2_)) 10 (some q3_)) 11 (some q4_)) 12 (some q5_)), zC q0_ 13 4, zC q1_ 13 4, zC q2_ 14 160, zC q3_ 13 80, zC q4_ 13 80, zC q5_ 15 80, zC q6_ 13 8]) (hB.push hq 13 8) ?_
  intro T I J R hB
  refine wp_putR C dX12_init_66 pX12_init_38 (fun _ => hnm) (hB.ob 0 rfl) rfl rfl ?_
  refine wp_gen (fun T I J R => Bd T0 I0 J0 R0 u T I J R [(u, 12, 0, va_up (fun _ => 0) 9 4, va_up (fun _ => 0) 3 1, va_up (va_up (va_up (va_up (va_up (va_up (va_up (fun _ => none) 4 (some q0_)) 5 (some q1_)) 6 (some q2_)) 10 (some q3_)) 11 (some q4_)) 12 (some q5_)) 13 (some q6_)), zC q0_ 13 4, zC q1_ 13 4, zC q2_ 14 160, zC q3_ 13 80, zC q4_ 13 80, zC q5_ 15 80, zC q6_ 13 8]) (hB.pR (p := 0) rfl 13 (some q6_)) ?_
  intro T I J R hB
  refine wp_aload_n C 0 dX12_init_69 rfl rfl ?_
  refine wp_bipush C 10 dX12_init_70 (by decide) ?_
  refine wp_newaI C dX12_init_72 (by decide +kernel) (n := 10) rfl (by decide) (by decide) (by decide) ?_
  intro q7_ hq
  refine wp_gen (fun T I J R => Bd T0 I0 J0 R0 u T I J R [(u, 12, 0, va_up (fun _ => 0) 9 4, va_up (fun _ => 0) 3 1, va_up (va_up (va_up (va_up (va_up (va_up (va_up (fun _ => none) 4 (some q0_)) 5 (some q1_)) 6 (some q2_)) 10 (some q3_)) 11 (some q4_)) 12 (some q5_)) 13 (some q6_)), zC q0_ 13 4, zC q1_ 13 4, zC q2_ 14 160, zC q3_ 13 80, zC q4_ 13 80, zC q5_ 15 80, zC q6_ 13 8, zC q7_ 13 10]) (hB.push hq 13 10) ?_
  intro T I J R hB
  refine wp_putR C dX12_init_74 pX12_init_41 (fun _ => hnm) (hB.ob 0 rfl) rfl rfl ?_
  refine wp_gen (fun T I J R => Bd T0 I0 J0 R0 u T I J R [(u, 12, 0, va_up (fun _ => 0) 9 4, va_up (fun _ => 0) 3 1, va_up (va_up (va_up (va_up (va_up (va_up (va_up (va_up (fun _ => none) 4 (some q0_)) 5 (some q1_)) 6 (some q2_)) 10 (some q3_)) 11 (some q4_)) 12 (some q5_)) 13 (some q6_)) 14 (some q7_)), zC q0_ 13 4, zC q1_ 13 4, zC q2_ 14 160, zC q3_ 13 80, zC q4_ 13 80, zC q5_ 15 80, zC q6_ 13 8, zC q7_ 13 10]) (hB.pR (p := 0) rfl 14 (some q7_)) ?_
  intro T I J R hB
  refine wp_aload_n C 0 dX12_init_77 rfl rfl ?_
  refine wp_bipush C 18 dX12_init_78 (by decide) ?_
  refine wp_newaI C dX12_init_80 (by decide +kernel) (n := 18) rfl (by decide) (by decide) (by decide) ?_
  intro q8_ hq
  refine wp_gen (fun T I J R => Bd T0 I0 J0 R0 u T I J R [(u, 12, 0, va_up (fun _ => 0) 9 4, va_up (fun _ => 0) 3 1, va_up (va_up (va_up (va_up (va_up (va_up (va_up (va_up (fun _ => none) 4 (some q0_)) 5 (some q1_)) 6 (some q2_)) 10 (some q3_)) 11 (some q4_)) 12 (some q5_)) 13 (some q6_)) 14 (some q7_)), zC q0_ 13 4, zC q1_ 13 4, zC q2_ 14 160, zC q3_ 13 80, zC q4_ 13 80, zC q5_ 15 80, zC q6_ 13 8, zC q7_ 13 10, zC q8_ 13 18]) (hB.push hq 13 18) ?_
  intro T I J R hB
  refine wp_putR C dX12_init_82 pX12_init_44 (fun _ => hnm) (hB.ob 0 rfl) rfl rfl ?_
  refine wp_gen (fun T I J R => Bd T0 I0 J0 R0 u T I J R [(u, 12, 0, va_up (fun _ => 0) 9 4, va_up (fun _ => 0) 3 1, va_up (va_up (va_up (va_up (va_up (va_up (va_up (va_up (va_up (fun _ => none) 4 (some q0_)) 5 (some q1_)) 6 (some q2_)) 10 (some q3_)) 11 (some q4_)) 12 (some q5_)) 13 (some q6_)) 14 (some q7_)) 15 (some q8_)), zC q0_ 13 4, zC q1_ 13 4, zC q2_ 14 160, zC q3_ 13 80, zC q4_ 13 80, zC q5_ 15 80, zC q6_ 13 8, zC q7_ 13 10, zC q8_ 13 18]) (hB.pR (p := 0) rfl 15 (some q8_)) ?_
  intro T I J R hB
  refine wp_aload_n C 0 dX12_init_85 rfl rfl ?_
  refine wp_bipush C 18 dX12_init_86 (by decide) ?_
  refine wp_newaI C dX12_init_88 (by decide +kernel) (n := 18) rfl (by decide) (by decide) (by decide) ?_
  intro q9_ hq
  refine wp_gen (fun T I J R => Bd T0 I0 J0 R0 u T I J R [(u, 12, 0, va_up (fun _ => 0) 9 4, va_up (fun _ => 0) 3 1, va_up (va_up (va_up (va_up (va_up (va_up (va_up (va_up (va_up (fun _ => none) 4 (some q0_)) 5 (some q1_)) 6 (some q2_)) 10 (some q3_)) 11 (some q4_)) 12 (some q5_)) 13 (some q6_)) 14 (some q7_)) 15 (some q8_)), zC q0_ 13 4, zC q1_ 13 4, zC q2_ 14 160, zC q3_ 13 80, zC q4_ 13 80, zC q5_ 15 80, zC q6_ 13 8, zC q7_ 13 10, zC q8_ 13 18, zC q9_ 13 18]) (hB.push hq 13 18) ?_
  intro T I J R hB
  refine wp_putR C dX12_init_90 pX12_init_47 (fun _ => hnm) (hB.ob 0 rfl) rfl rfl ?_
  refine wp_gen (fun T I J R => Bd T0 I0 J0 R0 u T I J R [(u, 12, 0, va_up (fun _ => 0) 9 4, va_up (fun _ => 0) 3 1, va_up (va_up (va_up (va_up (va_up (va_up (va_up (va_up (va_up (va_up (fun _ => none) 4 (some q0_)) 5 (some q1_)) 6 (some q2_)) 10 (some q3_)) 11 (some q4_)) 12 (some q5_)) 13 (some q6_)) 14 (some q7_)) 15 (some q8_)) 16 (some q9_)), zC q0_ 13 4, zC q1_ 13 4, zC q2_ 14 160, zC q3_ 13 80, zC q4_ 13 80, zC q5_ 15 80, zC q6_ 13 8, zC q7_ 13 10, zC q8_ 13 18, zC q9_ 13 18]) (hB.pR (p := 0) rfl 16 (some q9_)) ?_
  intro T I J R hB
  refine wp_aload_n C 0 dX12_init_93 rfl rfl ?_
  refine wp_bipush C 64 dX12_init_94 (by decide) ?_
  refine wp_newaI C dX12_init_96 (by decide +kernel) (n := 64) rfl (by decide) (by decide) (by decide) ?_
  intro q10_ hq
  refine wp_gen (fun T I J R => Bd T0 I0 J0 R0 u T I J R [(u, 12, 0, va_up (fun _ => 0) 9 4, va_up (fun _ => 0) 3 1, va_up (va_up (va_up (va_up (va_up (va_up (va_up (va_up (va_up (va_up (fun _ => none) 4 (some q0_)) 5 (some q1_)) 6 (some q2_)) 10 (some q3_)) 11 (some q4_)) 12 (some q5_)) 13 (some q6_)) 14 (some q7_)) 15 (some q8_)) 16 (some q9_)), zC q0_ 13 4, zC q1_ 13 4, zC q2_ 14 160, zC q3_ 13 80, zC q4_ 13 80, zC q5_ 15 80, zC q6_ 13 8, zC q7_ 13 10, zC q8_ 13 18, zC q9_ 13 18, zC q10_ 13 64]) (hB.push hq 13 64) ?_
  intro T I J R hB
  refine wp_putR C dX12_init_98 pX12_init_50 (fun _ => hnm) (hB.ob 0 rfl) rfl rfl ?_
  refine wp_gen (fun T I J R => Bd T0 I0 J0 R0 u T I J R [(u, 12, 0, va_up (fun _ => 0) 9 4, va_up (fun _ => 0) 3 1, va_up (va_up (va_up (va_up (va_up (va_up (va_up (va_up (va_up (va_up (va_up (fun _ => none) 4 (some q0_)) 5 (some q1_)) 6 (some q2_)) 10 (some q3_)) 11 (some q4_)) 12 (some q5_)) 13 (some q6_)) 14 (some q7_)) 15 (some q8_)) 16 (some q9_)) 17 (some q10_)), zC q0_ 13 4, zC q1_ 13 4, zC q2_ 14 160, zC q3_ 13 80, zC q4_ 13 80, zC q5_ 15 80, zC q6_ 13 8, zC q7_ 13 10, zC q8_ 13 18, zC q9_ 13 18, zC q10_ 13 64]) (hB.pR (p := 0) rfl 17 (some q10_)) ?_
  intro T I J R hB
  refine wp_aload_n C 0 dX12_init_101 rfl rfl ?_
  refine wp_bipush C 80 dX12_init_102 (by decide) ?_
  refine wp_newaI C dX12_init_104 (by decide +kernel) (n := 80) rfl (by decide) (by decide) (by decide) ?_
  intro q11_ hq
  refine wp_gen (fun T I J R => Bd T0 I0 J0 R0 u T I J R [(u, 12, 0, va_up (fun _ => 0) 9 4, va_up (fun _ => 0) 3 1, va_up (va_up (va_up (va_up (va_up (va_up (va_up (va_up (va_up (va_up (va_up (fun _ => none) 4 (some q0_)) 5 (some q1_)) 6 (some q2_)) 10 (some q3_)) 11 (some q4_)) 12 (some q5_)) 13 (some q6_)) 14 (some q7_)) 15 (some q8_)) 16 (some q9_)) 17 (some q10_)), zC q0_ 13 4, zC q1_ 13 4, zC q2_ 14 160, zC q3_ 13 80, zC q4_ 13 80, zC q5_ 15 80, zC q6_ 13 8, zC q7_ 13 10, zC q8_ 13 18, zC q9_ 13 18, zC q10_ 13 64, zC q11_ 13 80]) (hB.push hq 13 80) ?_
  intro T I J R hB
  refine wp_putR C dX12_init_106 pX12_init_53 (fun _ => hnm) (hB.ob 0 rfl) rfl rfl ?_
  refine wp_gen (fun T I J R => Bd T0 I0 J0 R0 u T I J R [(u, 12, 0, va_up (fun _ => 0) 9 4, va_up (fun _ => 0) 3 1, va_up (va_up (va_up (va_up (va_up (va_up (va_up (va_up (va_up (va_up (va_up (va_up (fun _ => none) 4 (some q0_)) 5 (some q1_)) 6 (some q2_)) 10 (some q3_)) 11 (some q4_)) 12 (some q5_)) 13 (some q6_)) 14 (some q7_)) 15 (some q8_)) 16 (some q9_)) 17 (some q10_)) 18 (some q11_)), zC q0_ 13 4, zC q1_ 13 4, zC q2_ 14 160, zC q3_ 13 80, zC q4_ 13 80, zC q5_ 15 80, zC q6_ 13 8, zC q7_ 13 10, zC q8_ 13 18, zC q9_ 13 18, zC q10_ 13 64, zC q11_ 13 80]) (hB.pR (p := 0) rfl 18 (some q11_)) ?_
  intro T I J R hB
  refine wp_aload_n C 0 dX12_init_109 rfl rfl ?_
  refine wp_bipush C 80 dX12_init_110 (by decide) ?_
  refine wp_newaI C dX12_init_112 (by decide +kernel) (n := 80) rfl (by decide) (by decide) (by decide) ?_
  intro q12_ hq
  refine wp_gen (fun T I J R => Bd T0 I0 J0 R0 u T I J R [(u, 12, 0, va_up (fun _ => 0) 9 4, va_up (fun _ => 0) 3 1, va_up (va_up (va_up (va_up (va_up (va_up (va_up (va_up (va_up (va_up (va_up (va_up (fun _ => none) 4 (some q0_)) 5 (some q1_)) 6 (some q2_)) 10 (some q3_)) 11 (some q4_)) 12 (some q5_)) 13 (some q6_)) 14 (some q7_)) 15 (some q8_)) 16 (some q9_)) 17 (some q10_)) 18 (some q11_)), zC q0_ 13 4, zC q1_ 13 4, zC q2_ 14 160, zC q3_ 13 80, zC q4_ 13 80, zC q5_ 15 80, zC q6_ 13 8, zC q7_ 13 10, zC q8_ 13 18, zC q9_ 13 18, zC q10_ 13 64, zC q11_ 13 80, zC q12_ 13 80]) (hB.push hq 13 80) ?_
  intro T I J R hB
  refine wp_putR C dX12_init_114 pX12_init_56 (fun _ => hnm) (hB.ob 0 rfl) rfl rfl ?_
  refine wp_gen (fun T I J R => Bd T0 I0 J0 R0 u T I J R [(u, 12, 0, va_up (fun _ => 0) 9 4, va_up (fun _ => 0) 3 1, va_up (va_up (va_up (va_up (va_up (va_up (va_up (va_up (va_up (va_up (va_up (va_up (va_up (fun _ => none) 4 (some q0_)) 5 (some q1_)) 6 (some q2_)) 10 (some q3_)) 11 (some q4_)) 12 (some q5_)) 13 (some q6_)) 14 (some q7_)) 15 (some q8_)) 16 (some q9_)) 17 (some q10_)) 18 (some q11_)) 19 (some q12_)), zC q0_ 13 4, zC q1_ 13 4, zC q2_ 14 160, zC q3_ 13 80, zC q4_ 13 80, zC q5_ 15 80, zC q6_ 13 8, zC q7_ 13 10, zC q8_ 13 18, zC q9_ 13 18, zC q10_ 13 64, zC q11_ 13 80, zC q12_ 13 80]) (hB.pR (p := 0) rfl 19 (some q12_)) ?_
  intro T I J R hB
  refine wp_aload_n C 0 dX12_init_117 rfl rfl ?_
  refine wp_bipush C 80 dX12_init_118 (by decide) ?_
  refine wp_newaI C dX12_init_120 (by decide +kernel) (n := 80) rfl (by decide) (by decide) (by decide) ?_
  intro q13_ hq
  refine wp_gen (fun T I J R => Bd T0 I0 J0 R0 u T I J R [(u, 12, 0, va_up (fun _ => 0) 9 4, va_up (fun _ => 0) 3 1, va_up (va_up (va_up (va_up (va_up (va_up (va_up (va_up (va_up (va_up (va_up (va_up (va_up (fun _ => none) 4 (some q0_)) 5 (some q1_)) 6 (some q2_)) 10 (some q3_)) 11 (some q4_)) 12 (some q5_)) 13 (some q6_)) 14 (some q7_)) 15 (some q8_)) 16 (some q9_)) 17 (some q10_)) 18 (some q11_)) 19 (some q12_)), zC q0_ 13 4, zC q1_ 13 4, zC q2_ 14 160, zC q3_ 13 80, zC q4_ 13 80, zC q5_ 15 80, zC q6_ 13 8, zC q7_ 13 10, zC q8_ 13 18, zC q9_ 13 18, zC q10_ 13 64, zC q11_ 13 80, zC q12_ 13 80, zC q13_ 13 80]) (hB.push hq 13 80) ?_
  intro T I J R hB
  refine wp_putR C dX12_init_122 pX12_init_59 (fun _ => hnm) (hB.ob 0 rfl) rfl rfl ?_
  refine wp_gen (fun T I J R => Bd T0 I0 J0 R0 u T I J R [(u, 12, 0, va_up (fun _ => 0) 9 4, va_up (fun _ => 0) 3 1, va_up (va_up (va_up (va_up (va_up (va_up (va_up (va_up (va_up (va_up (va_up (va_up (va_up (va_up (fun _ => none) 4 (some q0_)) 5 (some q1_)) 6 (some q2_)) 10 (some q3_)) 11 (some q4_)) 12 (some q5_)) 13 (some q6_)) 14 (some q7_)) 15 (some q8_)) 16 (some q9_)) 17 (some q10_)) 18 (some q11_)) 19 (some q12_)) 20 (some q13_)), zC q0_ 13 4, zC q1_ 13 4, zC q2_ 14 160, zC q3_ 13 80, zC q4_ 13 80, zC q5_ 15 80, zC q6_ 13 8, zC q7_ 13 10, zC q8_ 13 18, zC q9_ 13 18, zC q10_ 13 64, zC q11_ 13 80, zC q12_ 13 80, zC q13_ 13 80]) (hB.pR (p := 0) rfl 20 (some q13_)) ?_
  intro T I J R hB
  refine wp_aload_n C 0 dX12_init_125 rfl rfl ?_
  refine wp_bipush C 12 dX12_init_126 (by decide) ?_
  refine wp_newaZ C dX12_init_128 (by decide +kernel) (n := 12) rfl (by decide) (by decide) (by decide) ?_
  intro q14_ hq
  refine wp_gen (fun T I J R => Bd T0 I0 J0 R0 u T I J R [(u, 12, 0, va_up (fun _ => 0) 9 4, va_up (fun _ => 0) 3 1, va_up (va_up (va_up (va_up (va_up (va_up (va_up (va_up (va_up (va_up (va_up (va_up (va_up (va_up (fun _ => none) 4 (some q0_)) 5 (some q1_)) 6 (some q2_)) 10 (some q3_)) 11 (some q4_)) 12 (some q5_)) 13 (some q6_)) 14 (some q7_)) 15 (some q8_)) 16 (some q9_)) 17 (some q10_)) 18 (some q11_)) 19 (some q12_)) 20 (some q13_)), zC q0_ 13 4, zC q1_ 13 4, zC q2_ 14 160, zC q3_ 13 80, zC q4_ 13 80, zC q5_ 15 80, zC q6_ 13 8, zC q7_ 13 10, zC q8_ 13 18, zC q9_ 13 18, zC q10_ 13 64, zC q11_ 13 80, zC q12_ 13 80, zC q13_ 13 80, zC q14_ 15 12]) (hB.push hq 15 12) ?_
  intro T I J R hB
  refine wp_putR C dX12_init_130 pX12_init_62 (fun _ => hnm) (hB.ob 0 rfl) rfl rfl ?_
  refine wp_gen (fun T I J R => Bd T0 I0 J0 R0 u T I J R [(u, 12, 0, va_up (fun _ => 0) 9 4, va_up (fun _ => 0) 3 1, va_up (va_up (va_up (va_up (va_up (va_up (va_up (va_up (va_up (va_up (va_up (va_up (va_up (va_up (va_up (fun _ => none) 4 (some q0_)) 5 (some q1_)) 6 (some q2_)) 10 (some q3_)) 11 (some q4_)) 12 (some q5_)) 13 (some q6_)) 14 (some q7_)) 15 (some q8_)) 16 (some q9_)) 17 (some q10_)) 18 (some q11_)) 19 (some q12_)) 20 (some q13_)) 26 (some q14_)), zC q0_ 13 4, zC q1_ 13 4, zC q2_ 14 160, zC q3_ 13 80, zC q4_ 13 80, zC q5_ 15 80, zC q6_ 13 8, zC q7_ 13 10, zC q8_ 13 18, zC q9_ 13 18, zC q10_ 13 64, zC q11_ 13 80, zC q12_ 13 80, zC q13_ 13 80, zC q14_ 15 12]) (hB.pR (p := 0) rfl 26 (some q14_)) ?_
  intro T I J R hB
  refine wp_aload_n C 0 dX12_init_133 rfl rfl ?_
  refine wp_bipush C 120 dX12_init_134 (by decide) ?_
  refine wp_newaZ C dX12_init_136 (by decide +kernel) (n := 120) rfl (by decide) (by decide) (by decide) ?_
  intro q15_ hq
  refine wp_gen (fun T I J R => Bd T0 I0 J0 R0 u T I J R [(u, 12, 0, va_up (fun _ => 0) 9 4, va_up (fun _ => 0) 3 1, va_up (va_up (va_up (va_up (va_up (va_up (va_up (va_up (va_up (va_up (va_up (va_up (va_up (va_up (va_up (fun _ => none) 4 (some q0_)) 5 (some q1_)) 6 (some q2_)) 10 (some q3_)) 11 (some q4_)) 12 (some q5_)) 13 (some q6_)) 14 (some q7_)) 15 (some q8_)) 16 (some q9_)) 17 (some q10_)) 18 (some q11_)) 19 (some q12_)) 20 (some q13_)) 26 (some q14_)), zC q0_ 13 4, zC q1_ 13 4, zC q2_ 14 160, zC q3_ 13 80, zC q4_ 13 80, zC q5_ 15 80, zC q6_ 13 8, zC q7_ 13 10, zC q8_ 13 18, zC q9_ 13 18, zC q10_ 13 64, zC q11_ 13 80, zC q12_ 13 80, zC q13_ 13 80, zC q14_ 15 12, zC q15_ 15 120]) (hB.push hq 15 120) ?_
  intro T I J R hB
  refine wp_putR C dX12_init_138 pX12_init_65 (fun _ => hnm) (hB.ob 0 rfl) rfl rfl ?_
  refine wp_gen (fun T I J R => Bd T0 I0 J0 R0 u T I J R [(u, 12, 0, va_up (fun _ => 0) 9 4, va_up (fun _ => 0) 3 1, va_up (va_up (va_up (va_up (va_up (va_up (va_up (va_up (va_up (va_up (va_up (va_up (va_up (va_up (va_up (va_up (fun _ => none) 4 (some q0_)) 5 (some q1_)) 6 (some q2_)) 10 (some q3_)) 11 (some q4_)) 12 (some q5_)) 13 (some q6_)) 14 (some q7_)) 15 (some q8_)) 16 (some q9_)) 17 (some q10_)) 18 (some q11_)) 19 (some q12_)) 20 (some q13_)) 26 (some q14_)) 27 (some q15_)), zC q0_ 13 4, zC q1_ 13 4, zC q2_ 14 160, zC q3_ 13 80, zC q4_ 13 80, zC q5_ 15 80, zC q6_ 13 8, zC q7_ 13 10, zC q8_ 13 18, zC q9_ 13 18, zC q10_ 13 64, zC q11_ 13 80, zC q12_ 13 80, zC q13_ 13 80, zC q14_ 15 12, zC q15_ 15 120]) (hB.pR (p := 0) rfl 27 (some q15_)) ?_
  intro T I J R hB
  refine wp_aload_n C 0 dX12_init_141 rfl rfl ?_
  refine wp_bipush C 60 dX12_init_142 (by decide) ?_
  refine wp_newaI C dX12_init_144 (by decide +kernel) (n := 60) rfl (by decide) (by decide) (by decide) ?_
  intro q16_ hq
  refine wp_gen (fun T I J R => Bd T0 I0 J0 R0 u T I J R [(u, 12, 0, va_up (fun _ => 0) 9 4, va_up (fun _ => 0) 3 1, va_up (va_up (va_up (va_up (va_up (va_up (va_up (va_up (va_up (va_up (va_up (va_up (va_up (va_up (va_up (va_up (fun _ => none) 4 (some q0_)) 5 (some q1_)) 6 (some q2_)) 10 (some q3_)) 11 (some q4_)) 12 (some q5_)) 13 (some q6_)) 14 (some q7_)) 15 (some q8_)) 16 (some q9_)) 17 (some q10_)) 18 (some q11_)) 19 (some q12_)) 20 (some q13_)) 26 (some q14_)) 27 (some q15_)), zC q0_ 13 4, zC q1_ 13 4, zC q2_ 14 160, zC q3_ 13 80, zC q4_ 13 80, zC q5_ 15 80, zC q6_ 13 8, zC q7_ 13 10, zC q8_ 13 18, zC q9_ 13 18, zC q10_ 13 64, zC q11_ 13 80, zC q12_ 13 80, zC q13_ 13 80, zC q14_ 15 12, zC q15_ 15 120, zC q16_ 13 60]) (hB.push hq 13 60) ?_
  intro T I J R hB
  refine wp_putR C dX12_init_146 pX12_init_68 (fun _ => hnm) (hB.ob 0 rfl) rfl rfl ?_
  refine wp_gen (fun T I J R => Bd T0 I0 J0 R0 u T I J R [(u, 12, 0, va_up (fun _ => 0) 9 4, va_up (fun _ => 0) 3 1, va_up (va_up (va_up (va_up (va_up (va_up (va_up (va_up (va_up (va_up (va_up (va_up (va_up (va_up (va_up (va_up (va_up (fun _ => none) 4 (some q0_)) 5 (some q1_)) 6 (some q2_)) 10 (some q3_)) 11 (some q4_)) 12 (some q5_)) 13 (some q6_)) 14 (some q7_)) 15 (some q8_)) 16 (some q9_)) 17 (some q10_)) 18 (some q11_)) 19 (some q12_)) 20 (some q13_)) 26 (some q14_)) 27 (some q15_)) 28 (some q16_)), zC q0_ 13 4, zC q1_ 13 4, zC q2_ 14 160, zC q3_ 13 80, zC q4_ 13 80, zC q5_ 15 80, zC q6_ 13 8, zC q7_ 13 10, zC q8_ 13 18, zC q9_ 13 18, zC q10_ 13 64, zC q11_ 13 80, zC q12_ 13 80, zC q13_ 13 80, zC q14_ 15 12, zC q15_ 15 120, zC q16_ 13 60]) (hB.pR (p := 0) rfl 28 (some q16_)) ?_
  intro T I J R hB
  refine wp_aload_n C 0 dX12_init_149 rfl rfl ?_
  refine wp_bipush C 60 dX12_init_150 (by decide) ?_
  refine wp_newaI C dX12_init_152 (by decide +kernel) (n := 60) rfl (by decide) (by decide) (by decide) ?_
  intro q17_ hq
  refine wp_gen (fun T I J R => Bd T0 I0 J0 R0 u T I J R [(u, 12, 0, va_up (fun _ => 0) 9 4, va_up (fun _ => 0) 3 1, va_up (va_up (va_up (va_up (va_up (va_up (va_up (va_up (va_up (va_up (va_up (va_up (va_up (va_up (va_up (va_up (va_up (fun _ => none) 4 (some q0_)) 5 (some q1_)) 6 (some q2_)) 10 (some q3_)) 11 (some q4_)) 12 (some q5_)) 13 (some q6_)) 14 (some q7_)) 15 (some q8_)) 16 (some q9_)) 17 (some q10_)) 18 (some q11_)) 19 (some q12_)) 20 (some q13_)) 26 (some q14_)) 27 (some q15_)) 28 (some q16_)), zC q0_ 13 4, zC q1_ 13 4, zC q2_ 14 160, zC q3_ 13 80, zC q4_ 13 80, zC q5_ 15 80, zC q6_ 13 8, zC q7_ 13 10, zC q8_ 13 18, zC q9_ 13 18, zC q10_ 13 64, zC q11_ 13 80, zC q12_ 13 80, zC q13_ 13 80, zC q14_ 15 12, zC q15_ 15 120, zC q16_ 13 60, zC q17_ 13 60]) (hB.push hq 13 60) ?_
  intro T I J R hB
  refine wp_putR C dX12_init_154 pX12_init_71 (fun _ => hnm) (hB.ob 0 rfl) rfl rfl ?_
  refine wp_gen (fun T I J R => Bd T0 I0 J0 R0 u T I J R [(u, 12, 0, va_up (fun _ => 0) 9 4, va_up (fun _ => 0) 3 1, va_up (va_up (va_up (va_up (va_up (va_up (va_up (va_up (va_up (va_up (va_up (va_up (va_up (va_up (va_up (va_up (va_up (va_up (fun _ => none) 4 (some q0_)) 5 (some q1_)) 6 (some q2_)) 10 (some q3_)) 11 (some q4_)) 12 (some q5_)) 13 (some q6_)) 14 (some q7_)) 15 (some q8_)) 16 (some q9_)) 17 (some q10_)) 18 (some q11_)) 19 (some q12_)) 20 (some q13_)) 26 (some q14_)) 27 (some q15_)) 28 (some q16_)) 29 (some q17_)), zC q0_ 13 4, zC q1_ 13 4, zC q2_ 14 160, zC q3_ 13 80, zC q4_ 13 80, zC q5_ 15 80, zC q6_ 13 8, zC q7_ 13 10, zC q8_ 13 18, zC q9_ 13 18, zC q10_ 13 64, zC q11_ 13 80, zC q12_ 13 80, zC q13_ 13 80, zC q14_ 15 12, zC q15_ 15 120, zC q16_ 13 60, zC q17_ 13 60]) (hB.pR (p := 0) rfl 29 (some q17_)) ?_
  intro T I J R hB
  refine wp_aload_n C 0 dX12_init_157 rfl rfl ?_
  refine wp_bipush C 60 dX12_init_158 (by decide) ?_
  refine wp_newaI C dX12_init_160 (by decide +kernel) (n := 60) rfl (by decide) (by decide) (by decide) ?_
  intro q18_ hq
  refine wp_gen (fun T I J R => Bd T0 I0 J0 R0 u T I J R [(u, 12, 0, va_up (fun _ => 0) 9 4, va_up (fun _ => 0) 3 1, va_up (va_up (va_up (va_up (va_up (va_up (va_up (va_up (va_up (va_up (va_up (va_up (va_up (va_up (va_up (va_up (va_up (va_up (fun _ => none) 4 (some q0_)) 5 (some q1_)) 6 (some q2_)) 10 (some q3_)) 11 (some q4_)) 12 (some q5_)) 13 (some q6_)) 14 (some q7_)) 15 (some q8_)) 16 (some q9_)) 17 (some q10_)) 18 (some q11_)) 19 (some q12_)) 20 (some q13_)) 26 (some q14_)) 27 (some q15_)) 28 (some q16_)) 29 (some q17_)), zC q0_ 13 4, zC q1_ 13 4, zC q2_ 14 160, zC q3_ 13 80, zC q4_ 13 80, zC q5_ 15 80, zC q6_ 13 8, zC q7_ 13 10, zC q8_ 13 18, zC q9_ 13 18, zC q10_ 13 64, zC q11_ 13 80, zC q12_ 13 80, zC q13_ 13 80, zC q14_ 15 12, zC q15_ 15 120, zC q16_ 13 60, zC q17_ 13 60, zC q18_ 13 60]) (hB.push hq 13 60) ?_
  intro T I J R hB
  refine wp_putR C dX12_init_162 pX12_init_74 (fun _ => hnm) (hB.ob 0 rfl) rfl rfl ?_
  refine wp_gen (fun T I J R => Bd T0 I0 J0 R0 u T I J R [(u, 12, 0, va_up (fun _ => 0) 9 4, va_up (fun _ => 0) 3 1, va_up (va_up (va_up (va_up (va_up (va_up (va_up (va_up (va_up (va_up (va_up (va_up (va_up (va_up (va_up (va_up (va_up (va_up (va_up (fun _ => none) 4 (some q0_)) 5 (some q1_)) 6 (some q2_)) 10 (some q3_)) 11 (some q4_)) 12 (some q5_)) 13 (some q6_)) 14 (some q7_)) 15 (some q8_)) 16 (some q9_)) 17 (some q10_)) 18 (some q11_)) 19 (some q12_)) 20 (some q13_)) 26 (some q14_)) 27 (some q15_)) 28 (some q16_)) 29 (some q17_)) 30 (some q18_)), zC q0_ 13 4, zC q1_ 13 4, zC q2_ 14 160, zC q3_ 13 80, zC q4_ 13 80, zC q5_ 15 80, zC q6_ 13 8, zC q7_ 13 10, zC q8_ 13 18, zC q9_ 13 18, zC q10_ 13 64, zC q11_ 13 80, zC q12_ 13 80, zC q13_ 13 80, zC q14_ 15 12, zC q15_ 15 120, zC q16_ 13 60, zC q17_ 13 60, zC q18_ 13 60]) (hB.pR (p := 0) rfl 30 (some q18_)) ?_
  intro T I J R hB
  refine wp_aload_n C 0 dX12_init_165 rfl rfl ?_
  refine wp_bipush C 60 dX12_init_166 (by decide) ?_
  refine wp_newaI C dX12_init_168 (by decide +kernel) (n := 60) rfl (by decide) (by decide) (by decide) ?_
  intro q19_ hq
  refine wp_gen (fun T I J R => Bd T0 I0 J0 R0 u T I J R [(u, 12, 0, va_up (fun _ => 0) 9 4, va_up (fun _ => 0) 3 1, va_up (va_up (va_up (va_up (va_up (va_up (va_up (va_up (va_up (va_up (va_up (va_up (va_up (va_up (va_up (va_up (va_up (va_up (va_up (fun _ => none) 4 (some q0_)) 5 (some q1_)) 6 (some q2_)) 10 (some q3_)) 11 (some q4_)) 12 (some q5_)) 13 (some q6_)) 14 (some q7_)) 15 (some q8_)) 16 (some q9_)) 17 (some q10_)) 18 (some q11_)) 19 (some q12_)) 20 (some q13_)) 26 (some q14_)) 27 (some q15_)) 28 (some q16_)) 29 (some q17_)) 30 (some q18_)), zC q0_ 13 4, zC q1_ 13 4, zC q2_ 14 160, zC q3_ 13 80, zC q4_ 13 80, zC q5_ 15 80, zC q6_ 13 8, zC q7_ 13 10, zC q8_ 13 18, zC q9_ 13 18, zC q10_ 13 64, zC q11_ 13 80, zC q12_ 13 80, zC q13_ 13 80, zC q14_ 15 12, zC q15_ 15 120, zC q16_ 13 60, zC q17_ 13 60, zC q18_ 13 60, zC q19_ 13 60]) (hB.push hq 13 60) ?_
  intro T I J R hB
  refine wp_putR C dX12_init_170 pX12_init_77 (fun _ => hnm) (hB.ob 0 rfl) rfl rfl ?_
  refine wp_gen (fun T I J R => Bd T0 I0 J0 R0 u T I J R [(u, 12, 0, va_up (fun _ => 0) 9 4, va_up (fun _ => 0) 3 1, va_up (va_up (va_up (va_up (va_up (va_up (va_up (va_up (va_up (va_up (va_up (va_up (va_up (va_up (va_up (va_up (va_up (va_up (va_up (va_up (fun _ => none) 4 (some q0_)) 5 (some q1_)) 6 (some q2_)) 10 (some q3_)) 11 (some q4_)) 12 (some q5_)) 13 (some q6_)) 14 (some q7_)) 15 (some q8_)) 16 (some q9_)) 17 (some q10_)) 18 (some q11_)) 19 (some q12_)) 20 (some q13_)) 26 (some q14_)) 27 (some q15_)) 28 (some q16_)) 29 (some q17_)) 30 (some q18_)) 31 (some q19_)), zC q0_ 13 4, zC q1_ 13 4, zC q2_ 14 160, zC q3_ 13 80, zC q4_ 13 80, zC q5_ 15 80, zC q6_ 13 8, zC q7_ 13 10, zC q8_ 13 18, zC q9_ 13 18, zC q10_ 13 64, zC q11_ 13 80, zC q12_ 13 80, zC q13_ 13 80, zC q14_ 15 12, zC q15_ 15 120, zC q16_ 13 60, zC q17_ 13 60, zC q18_ 13 60, zC q19_ 13 60]) (hB.pR (p := 0) rfl 31 (some q19_)) ?_
  intro T I J R hB
  refine wp_aload_n C 0 dX12_init_173 rfl rfl ?_
  refine wp_bipush C 60 dX12_init_174 (by decide) ?_
  refine wp_newaI C dX12_init_176 (by decide +kernel) (n := 60) rfl (by decide) (by decide) (by decide) ?_
  intro q20_ hq
  refine wp_gen (fun T I J R => Bd T0 I0 J0 R0 u T I J R [(u, 12, 0, va_up (fun _ => 0) 9 4, va_up (fun _ => 0) 3 1, va_up (va_up (va_up (va_up (va_up (va_up (va_up (va_up (va_up (va_up (va_up (va_up (va_up (va_up (va_up (va_up (va_up (va_up (va_up (va_up (fun _ => none) 4 (some q0_)) 5 (some q1_)) 6 (some q2_)) 10 (some q3_)) 11 (some q4_)) 12 (some q5_)) 13 (some q6_)) 14 (some q7_)) 15 (some q8_)) 16 (some q9_)) 17 (some q10_)) 18 (some q11_)) 19 (some q12_)) 20 (some q13_)) 26 (some q14_)) 27 (some q15_)) 28 (some q16_)) 29 (some q17_)) 30 (some q18_)) 31 (some q19_)), zC q0_ 13 4, zC q1_ 13 4, zC q2_ 14 160, zC q3_ 13 80, zC q4_ 13 80, zC q5_ 15 80, zC q6_ 13 8, zC q7_ 13 10, zC q8_ 13 18, zC q9_ 13 18, zC q10_ 13 64, zC q11_ 13 80, zC q12_ 13 80, zC q13_ 13 80, zC q14_ 15 12, zC q15_ 15 120, zC q16_ 13 60, zC q17_ 13 60, zC q18_ 13 60, zC q19_ 13 60, zC q20_ 13 60]) (hB.push hq 13 60) ?_
  intro T I J R hB
  refine wp_putR C dX12_init_178 pX12_init_80 (fun _ => hnm) (hB.ob 0 rfl) rfl rfl ?_
  refine wp_gen (fun T I J R => Bd T0 I0 J0 R0 u T I J R [(u, 12, 0, va_up (fun _ => 0) 9 4, va_up (fun _ => 0) 3 1, va_up (va_up (va_up (va_up (va_up (va_up (va_up (va_up (va_up (va_up (va_up (va_up (va_up (va_up (va_up (va_up (va_up (va_up (va_up (va_up (va_up (fun _ => none) 4 (some q0_)) 5 (some q1_)) 6 (some q2_)) 10 (some q3_)) 11 (some q4_)) 12 (some q5_)) 13 (some q6_)) 14 (some q7_)) 15 (some q8_)) 16 (some q9_)) 17 (some q10_)) 18 (some q11_)) 19 (some q12_)) 20 (some q13_)) 26 (some q14_)) 27 (some q15_)) 28 (some q16_)) 29 (some q17_)) 30 (some q18_)) 31 (some q19_)) 32 (some q20_)), zC q0_ 13 4, zC q1_ 13 4, zC q2_ 14 160, zC q3_ 13 80, zC q4_ 13 80, zC q5_ 15 80, zC q6_ 13 8, zC q7_ 13 10, zC q8_ 13 18, zC q9_ 13 18, zC q10_ 13 64, zC q11_ 13 80, zC q12_ 13 80, zC q13_ 13 80, zC q14_ 15 12, zC q15_ 15 120, zC q16_ 13 60, zC q17_ 13 60, zC q18_ 13 60, zC q19_ 13 60, zC q20_ 13 60]) (hB.pR (p := 0) rfl 32 (some q20_)) ?_
  intro T I J R hB
  refine wp_aload_n C 0 dX12_init_181 rfl rfl ?_
  refine wp_bipush C 60 dX12_init_182 (by decide) ?_
  refine wp_newaI C dX12_init_184 (by decide +kernel) (n := 60) rfl (by decide) (by decide) (by decide) ?_
  intro q21_ hq
  refine wp_gen (fun T I J R => Bd T0 I0 J0 R0 u T I J R [(u, 12, 0, va_up (fun _ => 0) 9 4, va_up (fun _ => 0) 3 1, va_up (va_up (va_up (va_up (va_up (va_up (va_up (va_up (va_up (va_up (va_up (va_up (va_up (va_up (va_up (va_up (va_up (va_up (va_up (va_up (va_up (fun _ => none) 4 (some q0_)) 5 (some q1_)) 6 (some q2_)) 10 (some q3_)) 11 (some q4_)) 12 (some q5_)) 13 (some q6_)) 14 (some q7_)) 15 (some q8_)) 16 (some q9_)) 17 (some q10_)) 18 (some q11_)) 19 (some q12_)) 20 (some q13_)) 26 (some q14_)) 27 (some q15_)) 28 (some q16_)) 29 (some q17_)) 30 (some q18_)) 31 (some q19_)) 32 (some q20_)), zC q0_ 13 4, zC q1_ 13 4, zC q2_ 14 160, zC q3_ 13 80, zC q4_ 13 80, zC q5_ 15 80, zC q6_ 13 8, zC q7_ 13 10, zC q8_ 13 18, zC q9_ 13 18, zC q10_ 13 64, zC q11_ 13 80, zC q12_ 13 80, zC q13_ 13 80, zC q14_ 15 12, zC q15_ 15 120, zC q16_ 13 60, zC q17_ 13 60, zC q18_ 13 60, zC q19_ 13 60, zC q20_ 13 60, zC q21_ 13 60]) (hB.push hq 13 60) ?_
  intro T I J R hB
  refine wp_putR C dX12_init_186 pX12_init_83 (fun _ => hnm) (hB.ob 0 rfl) rfl rfl ?_
  refine wp_gen (fun T I J R => Bd T0 I0 J0 R0 u T I J R [(u, 12, 0, va_up (fun _ => 0) 9 4, va_up (fun _ => 0) 3 1, va_up (va_up (va_up (va_up (va_up (va_up (va_up (va_up (va_up (va_up (va_up (va_up (va_up (va_up (va_up (va_up (va_up (va_up (va_up (va_up (va_up (va_up (fun _ => none) 4 (some q0_)) 5 (some q1_)) 6 (some q2_)) 10 (some q3_)) 11 (some q4_)) 12 (some q5_)) 13 (some q6_)) 14 (some q7_)) 15 (some q8_)) 16 (some q9_)) 17 (some q10_)) 18 (some q11_)) 19 (some q12_)) 20 (some q13_)) 26 (some q14_)) 27 (some q15_)) 28 (some q16_)) 29 (some q17_)) 30 (some q18_)) 31 (some q19_)) 32 (some q20_)) 33 (some q21_)), zC q0_ 13 4, zC q1_ 13 4, zC q2_ 14 160, zC q3_ 13 80, zC q4_ 13 80, zC q5_ 15 80, zC q6_ 13 8, zC q7_ 13 10, zC q8_ 13 18, zC q9_ 13 18, zC q10_ 13 64, zC q11_ 13 80, zC q12_ 13 80, zC q13_ 13 80, zC q14_ 15 12, zC q15_ 15 120, zC q16_ 13 60, zC q17_ 13 60, zC q18_ 13 60, zC q19_ 13 60, zC q20_ 13 60, zC q21_ 13 60]) (hB.pR (p := 0) rfl 33 (some q21_)) ?_
  intro T I J R hB
  refine wp_aload_n C 0 dX12_init_189 rfl rfl ?_
  refine wp_bipush C 60 dX12_init_190 (by decide) ?_
  refine wp_newaI C dX12_init_192 (by decide +kernel) (n := 60) rfl (by decide) (by decide) (by decide) ?_
  intro q22_ hq
  refine wp_gen (fun T I J R => Bd T0 I0 J0 R0 u T I J R [(u, 12, 0, va_up (fun _ => 0) 9 4, va_up (fun _ => 0) 3 1, va_up (va_up (va_up (va_up (va_up (va_up (va_up (va_up (va_up (va_up (va_up (va_up (va_up (va_up (va_up (va_up (va_up (va_up (va_up (va_up (va_up (va_up (fun _ => none) 4 (some q0_)) 5 (some q1_)) 6 (some q2_)) 10 (some q3_)) 11 (some q4_)) 12 (some q5_)) 13 (some q6_)) 14 (some q7_)) 15 (some q8_)) 16 (some q9_)) 17 (some q10_)) 18 (some q11_)) 19 (some q12_)) 20 (some q13_)) 26 (some q14_)) 27 (some q15_)) 28 (some q16_)) 29 (some q17_)) 30 (some q18_)) 31 (some q19_)) 32 (some q20_)) 33 (some q21_)), zC q0_ 13 4, zC q1_ 13 4, zC q2_ 14 160, zC q3_ 13 80, zC q4_ 13 80, zC q5_ 15 80, zC q6_ 13 8, zC q7_ 13 10, zC q8_ 13 18, zC q9_ 13 18, zC q10_ 13 64, zC q11_ 13 80, zC q12_ 13 80, zC q13_ 13 80, zC q14_ 15 12, zC q15_ 15 120, zC q16_ 13 60, zC q17_ 13 60, zC q18_ 13 60, zC q19_ 13 60, zC q20_ 13 60, zC q21_ 13 60, zC q22_ 13 60]) (hB.push hq 13 60) ?_
  intro T I J R hB
  refine wp_putR C dX12_init_194 pX12_init_86 (fun _ => hnm) (hB.ob 0 rfl) rfl rfl ?_
  refine wp_gen (fun T I J R => Bd T0 I0 J0 R0 u T I J R [(u, 12, 0, va_up (fun _ => 0) 9 4, va_up (fun _ => 0) 3 1, va_up (va_up (va_up (va_up (va_up (va_up (va_up (va_up (va_up (va_up (va_up (va_up (va_up (va_up (va_up (va_up (va_up (va_up (va_up (va_up (va_up (va_up (va_up (fun _ => none) 4 (some q0_)) 5 (some q1_)) 6 (some q2_)) 10 (some q3_)) 11 (some q4_)) 12 (some q5_)) 13 (some q6_)) 14 (some q7_)) 15 (some q8_)) 16 (some q9_)) 17 (some q10_)) 18 (some q11_)) 19 (some q12_)) 20 (some q13_)) 26 (some q14_)) 27 (some q15_)) 28 (some q16_)) 29 (some q17_)) 30 (some q18_)) 31 (some q19_)) 32 (some q20_)) 33 (some q21_)) 34 (some q22_)), zC q0_ 13 4, zC q1_ 13 4, zC q2_ 14 160, zC q3_ 13 80, zC q4_ 13 80, zC q5_ 15 80, zC q6_ 13 8, zC q7_ 13 10, zC q8_ 13 18, zC q9_ 13 18, zC q10_ 13 64, zC q11_ 13 80, zC q12_ 13 80, zC q13_ 13 80, zC q14_ 15 12, zC q15_ 15 120, zC q16_ 13 60, zC q17_ 13 60, zC q18_ 13 60, zC q19_ 13 60, zC q20_ 13 60, zC q21_ 13 60, zC q22_ 13 60]) (hB.pR (p := 0) rfl 34 (some q22_)) ?_
  intro T I J R hB
  refine wp_aload_n C 0 dX12_init_197 rfl rfl ?_
  refine wp_bipush C 60 dX12_init_198 (by decide) ?_
  refine wp_newaI C dX12_init_200 (by decide +kernel) (n := 60) rfl (by decide) (by decide) (by decide) ?_
  intro q23_ hq
  refine wp_gen (fun T I J R => Bd T0 I0 J0 R0 u T I J R [(u, 12, 0, va_up (fun _ => 0) 9 4, va_up (fun _ => 0) 3 1, va_up (va_up (va_up (va_up (va_up (va_up (va_up (va_up (va_up (va_up (va_up (va_up (va_up (va_up (va_up (va_up (va_up (va_up (va_up (va_up (va_up (va_up (va_up (fun _ => none) 4 (some q0_)) 5 (some q1_)) 6 (some q2_)) 10 (some q3_)) 11 (some q4_)) 12 (some q5_)) 13 (some q6_)) 14 (some q7_)) 15 (some q8_)) 16 (some q9_)) 17 (some q10_)) 18 (some q11_)) 19 (some q12_)) 20 (some q13_)) 26 (some q14_)) 27 (some q15_)) 28 (some q16_)) 29 (some q17_)) 30 (some q18_)) 31 (some q19_)) 32 (some q20_)) 33 (some q21_)) 34 (some q22_)), zC q0_ 13 4, zC q1_ 13 4, zC q2_ 14 160, zC q3_ 13 80, zC q4_ 13 80, zC q5_ 15 80, zC q6_ 13 8, zC q7_ 13 10, zC q8_ 13 18, zC q9_ 13 18, zC q10_ 13 64, zC q11_ 13 80, zC q12_ 13 80, zC q13_ 13 80, zC q14_ 15 12, zC q15_ 15 120, zC q16_ 13 60, zC q17_ 13 60, zC q18_ 13 60, zC q19_ 13 60, zC q20_ 13 60, zC q21_ 13 60, zC q22_ 13 60, zC q23_ 13 60]) (hB.push hq 13 60) ?_
  intro T I J R hB
  refine wp_putR C dX12_init_202 pX12_init_89 (fun _ => hnm) (hB.ob 0 rfl) rfl rfl ?_
  refine wp_gen (fun T I J R => Bd T0 I0 J0 R0 u T I J R [(u, 12, 0, va_up (fun _ => 0) 9 4, va_up (fun _ => 0) 3 1, va_up (va_up (va_up (va_up (va_up (va_up (va_up (va_up (va_up (va_up (va_up (va_up (va_up (va_up (va_up (va_up (va_up (va_up (va_up (va_up (va_up (va_up (va_up (va_up (fun _ => none) 4 (some q0_)) 5 (some q1_)) 6 (some q2_)) 10 (some q3_)) 11 (some q4_)) 12 (some q5_)) 13 (some q6_)) 14 (some q7_)) 15 (some q8_)) 16 (some q9_)) 17 (some q10_)) 18 (some q11_)) 19 (some q12_)) 20 (some q13_)) 26 (some q14_)) 27 (some q15_)) 28 (some q16_)) 29 (some q17_)) 30 (some q18_)) 31 (some q19_)) 32 (some q20_)) 33 (some q21_)) 34 (some q22_)) 35 (some q23_)), zC q0_ 13 4, zC q1_ 13 4, zC q2_ 14 160, zC q3_ 13 80, zC q4_ 13 80, zC q5_ 15 80, zC q6_ 13 8, zC q7_ 13 10, zC q8_ 13 18, zC q9_ 13 18, zC q10_ 13 64, zC q11_ 13 80, zC q12_ 13 80, zC q13_ 13 80, zC q14_ 15 12, zC q15_ 15 120, zC q16_ 13 60, zC q17_ 13 60, zC q18_ 13 60, zC q19_ 13 60, zC q20_ 13 60, zC q21_ 13 60, zC q22_ 13 60, zC q23_ 13 60]) (hB.pR (p := 0) rfl 35 (some q23_)) ?_
  intro T I J R hB
  refine wp_aload_n C 0 dX12_init_205 rfl rfl ?_
  refine wp_bipush C 30 dX12_init_206 (by decide) ?_
  refine wp_newaI C dX12_init_208 (by decide +kernel) (n := 30) rfl (by decide) (by decide) (by decide) ?_
  intro q24_ hq
  refine wp_gen (fun T I J R => Bd T0 I0 J0 R0 u T I J R [(u, 12, 0, va_up (fun _ => 0) 9 4, va_up (fun _ => 0) 3 1, va_up (va_up (va_up (va_up (va_up (va_up (va_up (va_up (va_up (va_up (va_up (va_up (va_up (va_up (va_up (va_up (va_up (va_up (va_up (va_up (va_up (va_up (va_up (va_up (fun _ => none) 4 (some q0_)) 5 (some q1_)) 6 (some q2_)) 10 (some q3_)) 11 (some q4_)) 12 (some q5_)) 13 (some q6_)) 14 (some q7_)) 15 (some q8_)) 16 (some q9_)) 17 (some q10_)) 18 (some q11_)) 19 (some q12_)) 20 (some q13_)) 26 (some q14_)) 27 (some q15_)) 28 (some q16_)) 29 (some q17_)) 30 (some q18_)) 31 (some q19_)) 32 (some q20_)) 33 (some q21_)) 34 (some q22_)) 35 (some q23_)), zC q0_ 13 4, zC q1_ 13 4, zC q2_ 14 160, zC q3_ 13 80, zC q4_ 13 80, zC q5_ 15 80, zC q6_ 13 8, zC q7_ 13 10, zC q8_ 13 18, zC q9_ 13 18, zC q10_ 13 64, zC q11_ 13 80, zC q12_ 13 80, zC q13_ 13 80, zC q14_ 15 12, zC q15_ 15 120, zC q16_ 13 60, zC q17_ 13 60, zC q18_ 13 60, zC q19_ 13 60, zC q20_ 13 60, zC q21_ 13 60, zC q22_ 13 60, zC q23_ 13 60, zC q24_ 13 30]) (hB.push hq 13 30) ?_
  intro T I J R hB
  refine wp_putR C dX12_init_210 pX12_init_92 (fun _ => hnm) (hB.ob 0 rfl) rfl rfl ?_
  refine wp_gen (fun T I J R => Bd T0 I0 J0 R0 u T I J R [(u, 12, 0, va_up (fun _ => 0) 9 4, va_up (fun _ => 0) 3 1, va_up (va_up (va_up (va_up (va_up (va_up (va_up (va_up (va_up (va_up (va_up (va_up (va_up (va_up (va_up (va_up (va_up (va_up (va_up (va_up (va_up (va_up (va_up (va_up (va_up (fun _ => none) 4 (some q0_)) 5 (some q1_)) 6 (some q2_)) 10 (some q3_)) 11 (some q4_)) 12 (some q5_)) 13 (some q6_)) 14 (some q7_)) 15 (some q8_)) 16 (some q9_)) 17 (some q10_)) 18 (some q11_)) 19 (some q12_)) 20 (some q13_)) 26 (some q14_)) 27 (some q15_)) 28 (some q16_)) 29 (some q17_)) 30 (some q18_)) 31 (some q19_)) 32 (some q20_)) 33 (some q21_)) 34 (some q22_)) 35 (some q23_)) 36 (some q24_)), zC q0_ 13 4, zC q1_ 13 4, zC q2_ 14 160, zC q3_ 13 80, zC q4_ 13 80, zC q5_ 15 80, zC q6_ 13 8, zC q7_ 13 10, zC q8_ 13 18, zC q9_ 13 18, zC q10_ 13 64, zC q11_ 13 80, zC q12_ 13 80, zC q13_ 13 80, zC q14_ 15 12, zC q15_ 15 120, zC q16_ 13 60, zC q17_ 13 60, zC q18_ 13 60, zC q19_ 13 60, zC q20_ 13 60, zC q21_ 13 60, zC q22_ 13 60, zC q23_ 13 60, zC q24_ 13 30]) (hB.pR (p := 0) rfl 36 (some q24_)) ?_
  intro T I J R hB
  refine wp_aload_n C 0 dX12_init_213 rfl rfl ?_
  refine wp_bipush C 30 dX12_init_214 (by decide) ?_
  refine wp_newaI C dX12_init_216 (by decide +kernel) (n := 30) rfl (by decide) (by decide) (by decide) ?_
  intro q25_ hq
  refine wp_gen (fun T I J R => Bd T0 I0 J0 R0 u T I J R [(u, 12, 0, va_up (fun _ => 0) 9 4, va_up (fun _ => 0) 3 1, va_up (va_up (va_up (va_up (va_up (va_up (va_up (va_up (va_up (va_up (va_up (va_up (va_up (va_up (va_up (va_up (va_up (va_up (va_up (va_up (va_up (va_up (va_up (va_up (va_up (fun _ => none) 4 (some q0_)) 5 (some q1_)) 6 (some q2_)) 10 (some q3_)) 11 (some q4_)) 12 (some q5_)) 13 (some q6_)) 14 (some q7_)) 15 (some q8_)) 16 (some q9_)) 17 (some q10_)) 18 (some q11_)) 19 (some q12_)) 20 (some q13_)) 26 (some q14_)) 27 (some q15_)) 28 (some q16_)) 29 (some q17_)) 30 (some q18_)) 31 (some q19_)) 32 (some q20_)) 33 (some q21_)) 34 (some q22_)) 35 (some q23_)) 36 (some q24_)), zC q0_ 13 4, zC q1_ 13 4, zC q2_ 14 160, zC q3_ 13 80, zC q4_ 13 80, zC q5_ 15 80, zC q6_ 13 8, zC q7_ 13 10, zC q8_ 13 18, zC q9_ 13 18, zC q10_ 13 64, zC q11_ 13 80, zC q12_ 13 80, zC q13_ 13 80, zC q14_ 15 12, zC q15_ 15 120, zC q16_ 13 60, zC q17_ 13 60, zC q18_ 13 60, zC q19_ 13 60, zC q20_ 13 60, zC q21_ 13 60, zC q22_ 13 60, zC q23_ 13 60, zC q24_ 13 30, zC q25_ 13 30]) (hB.push hq 13 30) ?_
  intro T I J R hB
  refine wp_putR C dX12_init_218 pX12_init_95 (fun _ => hnm) (hB.ob 0 rfl) rfl rfl ?_
  refine wp_gen (fun T I J R => Bd T0 I0 J0 R0 u T I J R [(u, 12, 0, va_up (fun _ => 0) 9 4, va_up (fun _ => 0) 3 1, va_up (va_up (va_up (va_up (va_up (va_up (va_up (va_up (va_up (va_up (va_up (va_up (va_up (va_up (va_up (va_up (va_up (va_up (va_up (va_up (va_up (va_up (va_up (va_up (va_up (va_up (fun _ => none) 4 (some q0_)) 5 (some q1_)) 6 (some q2_)) 10 (some q3_)) 11 (some q4_)) 12 (some q5_)) 13 (some q6_)) 14 (some q7_)) 15 (some q8_)) 16 (some q9_)) 17 (some q10_)) 18 (some q11_)) 19 (some q12_)) 20 (some q13_)) 26 (some q14_)) 27 (some q15_)) 28 (some q16_)) 29 (some q17_)) 30 (some q18_)) 31 (some q19_)) 32 (some q20_)) 33 (some q21_)) 34 (some q22_)) 35 (some q23_)) 36 (some q24_)) 37 (some q25_)), zC q0_ 13 4, zC q1_ 13 4, zC q2_ 14 160, zC q3_ 13 80, zC q4_ 13 80, zC q5_ 15 80, zC q6_ 13 8, zC q7_ 13 10, zC q8_ 13 18, zC q9_ 13 18, zC q10_ 13 64, zC q11_ 13 80, zC q12_ 13 80, zC q13_ 13 80, zC q14_ 15 12, zC q15_ 15 120, zC q16_ 13 60, zC q17_ 13 60, zC q18_ 13 60, zC q19_ 13 60, zC q20_ 13 60, zC q21_ 13 60, zC q22_ 13 60, zC q23_ 13 60, zC q24_ 13 30, zC q25_ 13 30]) (hB.pR (p := 0) rfl 37 (some q25_)) ?_
  intro T I J R hB
  refine wp_aload_n C 0 dX12_init_221 rfl rfl ?_
  refine wp_bipush C 30 dX12_init_222 (by decide) ?_
  refine wp_newaI C dX12_init_224 (by decide +kernel) (n := 30) rfl (by decide) (by decide) (by decide) ?_
  intro q26_ hq
  refine wp_gen (fun T I J R => Bd T0 I0 J0 R0 u T I J R [(u, 12, 0, va_up (fun _ => 0) 9 4, va_up (fun _ => 0) 3 1, va_up (va_up (va_up (va_up (va_up (va_up (va_up (va_up (va_up (va_up (va_up (va_up (va_up (va_up (va_up (va_up (va_up (va_up (va_up (va_up (va_up (va_up (va_up (va_up (va_up (va_up (fun _ => none) 4 (some q0_)) 5 (some q1_)) 6 (some q2_)) 10 (some q3_)) 11 (some q4_)) 12 (some q5_)) 13 (some q6_)) 14 (some q7_)) 15 (some q8_)) 16 (some q9_)) 17 (some q10_)) 18 (some q11_)) 19 (some q12_)) 20 (some q13_)) 26 (some q14_)) 27 (some q15_)) 28 (some q16_)) 29 (some q17_)) 30 (some q18_)) 31 (some q19_)) 32 (some q20_)) 33 (some q21_)) 34 (some q22_)) 35 (some q23_)) 36 (some q24_)) 37 (some q25_)), zC q0_ 13 4, zC q1_ 13 4, zC q2_ 14 160, zC q3_ 13 80, zC q4_ 13 80, zC q5_ 15 80, zC q6_ 13 8, zC q7_ 13 10, zC q8_ 13 18, zC q9_ 13 18, zC q10_ 13 64, zC q11_ 13 80, zC q12_ 13 80, zC q13_ 13 80, zC q14_ 15 12, zC q15_ 15 120, zC q16_ 13 60, zC q17_ 13 60, zC q18_ 13 60, zC q19_ 13 60, zC q20_ 13 60, zC q21_ 13 60, zC q22_ 13 60, zC q23_ 13 60, zC q24_ 13 30, zC q25_ 13 30, zC q26_ 13 30]) (hB.push hq 13 30) ?_
  intro T I J R hB
  refine wp_putR C dX12_init_226 pX12_init_98 (fun _ => hnm) (hB.ob 0 rfl) rfl rfl ?_
  refine wp_gen (fun T I J R => Bd T0 I0 J0 R0 u T I J R [(u, 12, 0, va_up (fun _ => 0) 9 4, va_up (fun _ => 0) 3 1, va_up (va_up (va_up (va_up (va_up (va_up (va_up (va_up (va_up (va_up (va_up (va_up (va_up (va_up (va_up (va_up (va_up (va_up (va_up (va_up (va_up (va_up (va_up (va_up (va_up (va_up (va_up (fun _ => none) 4 (some q0_)) 5 (some q1_)) 6 (some q2_)) 10 (some q3_)) 11 (some q4_)) 12 (some q5_)) 13 (some q6_)) 14 (some q7_)) 15 (some q8_)) 16 (some q9_)) 17 (some q10_)) 18 (some q11_)) 19 (some q12_)) 20 (some q13_)) 26 (some q14_)) 27 (some q15_)) 28 (some q16_)) 29 (some q17_)) 30 (some q18_)) 31 (some q19_)) 32 (some q20_)) 33 (some q21_)) 34 (some q22_)) 35 (some q23_)) 36 (some q24_)) 37 (some q25_)) 38 (some q26_)), zC q0_ 13 4, zC q1_ 13 4, zC q2_ 14 160, zC q3_ 13 80, zC q4_ 13 80, zC q5_ 15 80, zC q6_ 13 8, zC q7_ 13 10, zC q8_ 13 18, zC q9_ 13 18, zC q10_ 13 64, zC q11_ 13 80, zC q12_ 13 80, zC q13_ 13 80, zC q14_ 15 12, zC q15_ 15 120, zC q16_ 13 60, zC q17_ 13 60, zC q18_ 13 60, zC q19_ 13 60, zC q20_ 13 60, zC q21_ 13 60, zC q22_ 13 60, zC q23_ 13 60, zC q24_ 13 30, zC q25_ 13 30, zC q26_ 13 30]) (hB.pR (p := 0) rfl 38 (some q26_)) ?_
  intro T I J R hB
  refine wp_aload_n C 0 dX12_init_229 rfl rfl ?_
  refine wp_bipush C 30 dX12_init_230 (by decide) ?_
  refine wp_newaI C dX12_init_232 (by decide +kernel) (n := 30) rfl (by decide) (by decide) (by decide) ?_
  intro q27_ hq
  refine wp_gen (fun T I J R => Bd T0 I0 J0 R0 u T I J R [(u, 12, 0, va_up (fun _ => 0) 9 4, va_up (fun _ => 0) 3 1, va_up (va_up (va_up (va_up (va_up (va_up (va_up (va_up (va_up (va_up (va_up (va_up (va_up (va_up (va_up (va_up (va_up (va_up (va_up (va_up (va_up (va_up (va_up (va_up (va_up (va_up (va_up (fun _ => none) 4 (some q0_)) 5 (some q1_)) 6 (some q2_)) 10 (some q3_)) 11 (some q4_)) 12 (some q5_)) 13 (some q6_)) 14 (some q7_)) 15 (some q8_)) 16 (some q9_)) 17 (some q10_)) 18 (some q11_)) 19 (some q12_)) 20 (some q13_)) 26 (some q14_)) 27 (some q15_)) 28 (some q16_)) 29 (some q17_)) 30 (some q18_)) 31 (some q19_)) 32 (some q20_)) 33 (some q21_)) 34 (some q22_)) 35 (some q23_)) 36 (some q24_)) 37 (some q25_)) 38 (some q26_)), zC q0_ 13 4, zC q1_ 13 4, zC q2_ 14 160, zC q3_ 13 80, zC q4_ 13 80, zC q5_ 15 80, zC q6_ 13 8, zC q7_ 13 10, zC q8_ 13 18, zC q9_ 13 18, zC q10_ 13 64, zC q11_ 13 80, zC q12_ 13 80, zC q13_ 13 80, zC q14_ 15 12, zC q15_ 15 120, zC q16_ 13 60, zC q17_ 13 60, zC q18_ 13 60, zC q19_ 13 60, zC q20_ 13 60, zC q21_ 13 60, zC q22_ 13 60, zC q23_ 13 60, zC q24_ 13 30, zC q25_ 13 30, zC q26_ 13 30, zC q27_ 13 30]) (hB.push hq 13 30) ?_
  intro T I J R hB
  refine wp_putR C dX12_init_234 pX12_init_101 (fun _ => hnm) (hB.ob 0 rfl) rfl rfl ?_
  refine wp_gen (fun T I J R => Bd T0 I0 J0 R0 u T I J R [(u, 12, 0, va_up (fun _ => 0) 9 4, va_up (fun _ => 0) 3 1, va_up (va_up (va_up (va_up (va_up (va_up (va_up (va_up (va_up (va_up (va_up (va_up (va_up (va_up (va_up (va_up (va_up (va_up (va_up (va_up (va_up (va_up (va_up (va_up (va_up (va_up (va_up (va_up (fun _ => none) 4 (some q0_)) 5 (some q1_)) 6 (some q2_)) 10 (some q3_)) 11 (some q4_)) 12 (some q5_)) 13 (some q6_)) 14 (some q7_)) 15 (some q8_)) 16 (some q9_)) 17 (some q10_)) 18 (some q11_)) 19 (some q12_)) 20 (some q13_)) 26 (some q14_)) 27 (some q15_)) 28 (some q16_)) 29 (some q17_)) 30 (some q18_)) 31 (some q19_)) 32 (some q20_)) 33 (some q21_)) 34 (some q22_)) 35 (some q23_)) 36 (some q24_)) 37 (some q25_)) 38 (some q26_)) 39 (some q27_)), zC q0_ 13 4, zC q1_ 13 4, zC q2_ 14 160, zC q3_ 13 80, zC q4_ 13 80, zC q5_ 15 80, zC q6_ 13 8, zC q7_ 13 10, zC q8_ 13 18, zC q9_ 13 18, zC q10_ 13 64, zC q11_ 13 80, zC q12_ 13 80, zC q13_ 13 80, zC q14_ 15 12, zC q15_ 15 120, zC q16_ 13 60, zC q17_ 13 60, zC q18_ 13 60, zC q19_ 13 60, zC q20_ 13 60, zC q21_ 13 60, zC q22_ 13 60, zC q23_ 13 60, zC q24_ 13 30, zC q25_ 13 30, zC q26_ 13 30, zC q27_ 13 30]) (hB.pR (p := 0) rfl 39 (some q27_)) ?_
  intro T I J R hB
  refine wp_aload_n C 0 dX12_init_237 rfl rfl ?_
  refine wp_bipush C 60 dX12_init_238 (by decide) ?_
  refine wp_newaI C dX12_init_240 (by decide +kernel) (n := 60) rfl (by decide) (by decide) (by decide) ?_
  intro q28_ hq
  refine wp_gen (fun T I J R => Bd T0 I0 J0 R0 u T I J R [(u, 12, 0, va_up (fun _ => 0) 9 4, va_up (fun _ => 0) 3 1, va_up (va_up (va_up (va_up (va_up (va_up (va_up (va_up (va_up (va_up (va_up (va_up (va_up (va_up (va_up (va_up (va_up (va_up (va_up (va_up (va_up (va_up (va_up (va_up (va_up (va_up (va_up (va_up (fun _ => none) 4 (some q0_)) 5 (some q1_)) 6 (some q2_)) 10 (some q3_)) 11 (some q4_)) 12 (some q5_)) 13 (some q6_)) 14 (some q7_)) 15 (some q8_)) 16 (some q9_)) 17 (some q10_)) 18 (some q11_)) 19 (some q12_)) 20 (some q13_)) 26 (some q14_)) 27 (some q15_)) 28 (some q16_)) 29 (some q17_)) 30 (some q18_)) 31 (some q19_)) 32 (some q20_)) 33 (some q21_)) 34 (some q22_)) 35 (some q23_)) 36 (some q24_)) 37 (some q25_)) 38 (some q26_)) 39 (some q27_)), zC q0_ 13 4, zC q1_ 13 4, zC q2_ 14 160, zC q3_ 13 80, zC q4_ 13 80, zC q5_ 15 80, zC q6_ 13 8, zC q7_ 13 10, zC q8_ 13 18, zC q9_ 13 18, zC q10_ 13 64, zC q11_ 13 80, zC q12_ 13 80, zC q13_ 13 80, zC q14_ 15 12, zC q15_ 15 120, zC q16_ 13 60, zC q17_ 13 60, zC q18_ 13 60, zC q19_ 13 60, zC q20_ 13 60, zC q21_ 13 60, zC q22_ 13 60, zC q23_ 13 60, zC q24_ 13 30, zC q25_ 13 30, zC q26_ 13 30, zC q27_ 13 30, zC q28_ 13 60]) (hB.push hq 13 60) ?_
  intro T I J R hB
  refine wp_putR C dX12_init_242 pX12_init_104 (fun _ => hnm) (hB.ob 0 rfl) rfl rfl ?_
  refine wp_gen (fun T I J R => Bd T0 I0 J0 R0 u T I J R [(u, 12, 0, va_up (fun _ => 0) 9 4, va_up (fun _ => 0) 3 1, va_up (va_up (va_up (va_up (va_up (va_up (va_up (va_up (va_up (va_up (va_up (va_up (va_up (va_up (va_up (va_up (va_up (va_up (va_up (va_up (va_up (va_up (va_up (va_up (va_up (va_up (va_up (va_up (va_up (fun _ => none) 4 (some q0_)) 5 (some q1_)) 6 (some q2_)) 10 (some q3_)) 11 (some q4_)) 12 (some q5_)) 13 (some q6_)) 14 (some q7_)) 15 (some q8_)) 16 (some q9_)) 17 (some q10_)) 18 (some q11_)) 19 (some q12_)) 20 (some q13_)) 26 (some q14_)) 27 (some q15_)) 28 (some q16_)) 29 (some q17_)) 30 (some q18_)) 31 (some q19_)) 32 (some q20_)) 33 (some q21_)) 34 (some q22_)) 35 (some q23_)) 36 (some q24_)) 37 (some q25_)) 38 (some q26_)) 39 (some q27_)) 40 (some q28_)), zC q0_ 13 4, zC q1_ 13 4, zC q2_ 14 160, zC q3_ 13 80, zC q4_ 13 80, zC q5_ 15 80, zC q6_ 13 8, zC q7_ 13 10, zC q8_ 13 18, zC q9_ 13 18, zC q10_ 13 64, zC q11_ 13 80, zC q12_ 13 80, zC q13_ 13 80, zC q14_ 15 12, zC q15_ 15 120, zC q16_ 13 60, zC q17_ 13 60, zC q18_ 13 60, zC q19_ 13 60, zC q20_ 13 60, zC q21_ 13 60, zC q22_ 13 60, zC q23_ 13 60, zC q24_ 13 30, zC q25_ 13 30, zC q26_ 13 30, zC q27_ 13 30, zC q28_ 13 60]) (hB.pR (p := 0) rfl 40 (some q28_)) ?_
  intro T I J R hB
  refine wp_aload_n C 0 dX12_init_245 rfl rfl ?_
  refine wp_bipush C 60 dX12_init_246 (by decide) ?_
  refine wp_newaI C dX12_init_248 (by decide +kernel) (n := 60) rfl (by decide) (by decide) (by decide) ?_
  intro q29_ hq
  refine wp_gen (fun T I J R => Bd T0 I0 J0 R0 u T I J R [(u, 12, 0, va_up (fun _ => 0) 9 4, va_up (fun _ => 0) 3 1, va_up (va_up (va_up (va_up (va_up (va_up (va_up (va_up (va_up (va_up (va_up (va_up (va_up (va_up (va_up (va_up (va_up (va_up (va_up (va_up (va_up (va_up (va_up (va_up (va_up (va_up (va_up (va_up (va_up (fun _ => none) 4 (some q0_)) 5 (some q1_)) 6 (some q2_)) 10 (some q3_)) 11 (some q4_)) 12 (some q5_)) 13 (some q6_)) 14 (some q7_)) 15 (some q8_)) 16 (some q9_)) 17 (some q10_)) 18 (some q11_)) 19 (some q12_)) 20 (some q13_)) 26 (some q14_)) 27 (some q15_)) 28 (some q16_)) 29 (some q17_)) 30 (some q18_)) 31 (some q19_)) 32 (some q20_)) 33 (some q21_)) 34 (some q22_)) 35 (some q23_)) 36 (some q24_)) 37 (some q25_)) 38 (some q26_)) 39 (some q27_)) 40 (some q28_)), zC q0_ 13 4, zC q1_ 13 4, zC q2_ 14 160, zC q3_ 13 80, zC q4_ 13 80, zC q5_ 15 80, zC q6_ 13 8, zC q7_ 13 10, zC q8_ 13 18, zC q9_ 13 18, zC q10_ 13 64, zC q11_ 13 80, zC q12_ 13 80, zC q13_ 13 80, zC q14_ 15 12, zC q15_ 15 120, zC q16_ 13 60, zC q17_ 13 60, zC q18_ 13 60, zC q19_ 13 60, zC q20_ 13 60, zC q21_ 13 60, zC q22_ 13 60, zC q23_ 13 60, zC q24_ 13 30, zC q25_ 13 30, zC q26_ 13 30, zC q27_ 13 30, zC q28_ 13 60, zC q29_ 13 60]) (hB.push hq 13 60) ?_
  intro T I J R hB
  refine wp_putR C dX12_init_250 pX12_init_107 (fun _ => hnm) (hB.ob 0 rfl) rfl rfl ?_
  refine wp_gen (fun T I J R => Bd T0 I0 J0 R0 u T I J R [(u, 12, 0, va_up (fun _ => 0) 9 4, va_up (fun _ => 0) 3 1, va_up (va_up (va_up (va_up (va_up (va_up (va_up (va_up (va_up (va_up (va_up (va_up (va_up (va_up (va_up (va_up (va_up (va_up (va_up (va_up (va_up (va_up (va_up (va_up (va_up (va_up (va_up (va_up (va_up (va_up (fun _ => none) 4 (some q0_)) 5 (some q1_)) 6 (some q2_)) 10 (some q3_)) 11 (some q4_)) 12 (some q5_)) 13 (some q6_)) 14 (some q7_)) 15 (some q8_)) 16 (some q9_)) 17 (some q10_)) 18 (some q11_)) 19 (some q12_)) 20 (some q13_)) 26 (some q14_)) 27 (some q15_)) 28 (some q16_)) 29 (some q17_)) 30 (some q18_)) 31 (some q19_)) 32 (some q20_)) 33 (some q21_)) 34 (some q22_)) 35 (some q23_)) 36 (some q24_)) 37 (some q25_)) 38 (some q26_)) 39 (some q27_)) 40 (some q28_)) 41 (some q29_)), zC q0_ 13 4, zC q1_ 13 4, zC q2_ 14 160, zC q3_ 13 80, zC q4_ 13 80, zC q5_ 15 80, zC q6_ 13 8, zC q7_ 13 10, zC q8_ 13 18, zC q9_ 13 18, zC q10_ 13 64, zC q11_ 13 80, zC q12_ 13 80, zC q13_ 13 80, zC q14_ 15 12, zC q15_ 15 120, zC q16_ 13 60, zC q17_ 13 60, zC q18_ 13 60, zC q19_ 13 60, zC q20_ 13 60, zC q21_ 13 60, zC q22_ 13 60, zC q23_ 13 60, zC q24_ 13 30, zC q25_ 13 30, zC q26_ 13 30, zC q27_ 13 30, zC q28_ 13 60, zC q29_ 13 60]) (hB.pR (p := 0) rfl 41 (some q29_)) ?_
  intro T I J R hB
  refine wp_aload_n C 0 dX12_init_253 rfl rfl ?_
  refine wp_bipush C 60 dX12_init_254 (by decide) ?_
  refine wp_newaI C dX12_init_256 (by decide +kernel) (n := 60) rfl (by decide) (by decide) (by decide) ?_
  intro q30_ hq
  refine wp_gen (fun T I J R => Bd T0 I0 J0 R0 u T I J R [(u, 12, 0, va_up (fun _ => 0) 9 4, va_up (fun _ => 0) 3 1, va_up (va_up (va_up (va_up (va_up (va_up (va_up (va_up (va_up (va_up (va_up (va_up (va_up (va_up (va_up (va_up (va_up (va_up (va_up (va_up (va_up (va_up (va_up (va_up (va_up (va_up (va_up (va_up (va_up (va_up (fun _ => none) 4 (some q0_)) 5 (some q1_)) 6 (some q2_)) 10 (some q3_)) 11 (some q4_)) 12 (some q5_)) 13 (some q6_)) 14 (some q7_)) 15 (some q8_)) 16 (some q9_)) 17 (some q10_)) 18 (some q11_)) 19 (some q12_)) 20 (some q13_)) 26 (some q14_)) 27 (some q15_)) 28 (some q16_)) 29 (some q17_)) 30 (some q18_)) 31 (some q19_)) 32 (some q20_)) 33 (some q21_)) 34 (some q22_)) 35 (some q23_)) 36 (some q24_)) 37 (some q25_)) 38 (some q26_)) 39 (some q27_)) 40 (some q28_)) 41 (some q29_)), zC q0_ 13 4, zC q1_ 13 4, zC q2_ 14 160, zC q3_ 13 80, zC q4_ 13 80, zC q5_ 15 80, zC q6_ 13 8, zC q7_ 13 10, zC q8_ 13 18, zC q9_ 13 18, zC q10_ 13 64, zC q11_ 13 80, zC q12_ 13 80, zC q13_ 13 80, zC q14_ 15 12, zC q15_ 15 120, zC q16_ 13 60, zC q17_ 13 60, zC q18_ 13 60, zC q19_ 13 60, zC q20_ 13 60, zC q21_ 13 60, zC q22_ 13 60, zC q23_ 13 60, zC q24_ 13 30, zC q25_ 13 30, zC q26_ 13 30, zC q27_ 13 30, zC q28_ 13 60, zC q29_ 13 60, zC q30_ 13 60]) (hB.push hq 13 60) ?_
  intro T I J R hB
  refine wp_putR C dX12_init_258 pX12_init_110 (fun _ => hnm) (hB.ob 0 rfl) rfl rfl ?_
  refine wp_gen (fun T I J R => Bd T0 I0 J0 R0 u T I J R [(u, 12, 0, va_up (fun _ => 0) 9 4, va_up (fun _ => 0) 3 1, va_up (va_up (va_up (va_up (va_up (va_up (va_up (va_up (va_up (va_up (va_up (va_up (va_up (va_up (va_up (va_up (va_up (va_up (va_up (va_up (va_up (va_up (va_up (va_up (va_up (va_up (va_up (va_up (va_up (va_up (va_up (fun _ => none) 4 (some q0_)) 5 (some q1_)) 6 (some q2_)) 10 (some q3_)) 11 (some q4_)) 12 (some q5_)) 13 (some q6_)) 14 (some q7_)) 15 (some q8_)) 16 (some q9_)) 17 (some q10_)) 18 (some q11_)) 19 (some q12_)) 20 (some q13_)) 26 (some q14_)) 27 (some q15_)) 28 (some q16_)) 29 (some q17_)) 30 (some q18_)) 31 (some q19_)) 32 (some q20_)) 33 (some q21_)) 34 (some q22_)) 35 (some q23_)) 36 (some q24_)) 37 (some q25_)) 38 (some q26_)) 39 (some q27_)) 40 (some q28_)) 41 (some q29_)) 42 (some q30_)), zC q0_ 13 4, zC q1_ 13 4, zC q2_ 14 160, zC q3_ 13 80, zC q4_ 13 80, zC q5_ 15 80, zC q6_ 13 8, zC q7_ 13 10, zC q8_ 13 18, zC q9_ 13 18, zC q10_ 13 64, zC q11_ 13 80, zC q12_ 13 80, zC q13_ 13 80, zC q14_ 15 12, zC q15_ 15 120, zC q16_ 13 60, zC q17_ 13 60, zC q18_ 13 60, zC q19_ 13 60, zC q20_ 13 60, zC q21_ 13 60, zC q22_ 13 60, zC q23_ 13 60, zC q24_ 13 30, zC q25_ 13 30, zC q26_ 13 30, zC q27_ 13 30, zC q28_ 13 60, zC q29_ 13 60, zC q30_ 13 60]) (hB.pR (p := 0) rfl 42 (some q30_)) ?_
  intro T I J R hB
  refine wp_aload_n C 0 dX12_init_261 rfl rfl ?_
  refine wp_bipush C 60 dX12_init_262 (by decide) ?_
  refine wp_newaI C dX12_init_264 (by decide +kernel) (n := 60) rfl (by decide) (by decide) (by decide) ?_
  intro q31_ hq
  refine wp_gen (fun T I J R => Bd T0 I0 J0 R0 u T I J R [(u, 12, 0, va_up (fun _ => 0) 9 4, va_up (fun _ => 0) 3 1, va_up (va_up (va_up (va_up (va_up (va_up (va_up (va_up (va_up (va_up (va_up (va_up (va_up (va_up (va_up (va_up (va_up (va_up (va_up (va_up (va_up (va_up (va_up (va_up (va_up (va_up (va_up (va_up (va_up (va_up (va_up (fun _ => none) 4 (some q0_)) 5 (some q1_)) 6 (some q2_)) 10 (some q3_)) 11 (some q4_)) 12 (some q5_)) 13 (some q6_)) 14 (some q7_)) 15 (some q8_)) 16 (some q9_)) 17 (some q10_)) 18 (some q11_)) 19 (some q12_)) 20 (some q13_)) 26 (some q14_)) 27 (some q15_)) 28 (some q16_)) 29 (some q17_)) 30 (some q18_)) 31 (some q19_)) 32 (some q20_)) 33 (some q21_)) 34 (some q22_)) 35 (some q23_)) 36 (some q24_)) 37 (some q25_)) 38 (some q26_)) 39 (some q27_)) 40 (some q28_)) 41 (some q29_)) 42 (some q30_)), zC q0_ 13 4, zC q1_ 13 4, zC q2_ 14 160, zC q3_ 13 80, zC q4_ 13 80, zC q5_ 15 80, zC q6_ 13 8, zC q7_ 13 10, zC q8_ 13 18, zC q9_ 13 18, zC q10_ 13 64, zC q11_ 13 80, zC q12_ 13 80, zC q13_ 13 80, zC q14_ 15 12, zC q15_ 15 120, zC q16_ 13 60, zC q17_ 13 60, zC q18_ 13 60, zC q19_ 13 60, zC q20_ 13 60, zC q21_ 13 60, zC q22_ 13 60, zC q23_ 13 60, zC q24_ 13 30, zC q25_ 13 30, zC q26_ 13 30, zC q27_ 13 30, zC q28_ 13 60, zC q29_ 13 60, zC q30_ 13 60, zC q31_ 13 60]) (hB.push hq 13 60) ?_
  intro T I J R hB
  refine wp_putR C dX12_init_266 pX12_init_113 (fun _ => hnm) (hB.ob 0 rfl) rfl rfl ?_
  refine wp_gen (fun T I J R => Bd T0 I0 J0 R0 u T I J R [(u, 12, 0, va_up (fun _ => 0) 9 4, va_up (fun _ => 0) 3 1, va_up (va_up (va_up (va_up (va_up (va_up (va_up (va_up (va_up (va_up (va_up (va_up (va_up (va_up (va_up (va_up (va_up (va_up (va_up (va_up (va_up (va_up (va_up (va_up (va_up (va_up (va_up (va_up (va_up (va_up (va_up (va_up (fun _ => none) 4 (some q0_)) 5 (some q1_)) 6 (some q2_)) 10 (some q3_)) 11 (some q4_)) 12 (some q5_)) 13 (some q6_)) 14 (some q7_)) 15 (some q8_)) 16 (some q9_)) 17 (some q10_)) 18 (some q11_)) 19 (some q12_)) 20 (some q13_)) 26 (some q14_)) 27 (some q15_)) 28 (some q16_)) 29 (some q17_)) 30 (some q18_)) 31 (some q19_)) 32 (some q20_)) 33 (some q21_)) 34 (some q22_)) 35 (some q23_)) 36 (some q24_)) 37 (some q25_)) 38 (some q26_)) 39 (some q27_)) 40 (some q28_)) 41 (some q29_)) 42 (some q30_)) 43 (some q31_)), zC q0_ 13 4, zC q1_ 13 4, zC q2_ 14 160, zC q3_ 13 80, zC q4_ 13 80, zC q5_ 15 80, zC q6_ 13 8, zC q7_ 13 10, zC q8_ 13 18, zC q9_ 13 18, zC q10_ 13 64, zC q11_ 13 80, zC q12_ 13 80, zC q13_ 13 80, zC q14_ 15 12, zC q15_ 15 120, zC q16_ 13 60, zC q17_ 13 60, zC q18_ 13 60, zC q19_ 13 60, zC q20_ 13 60, zC q21_ 13 60, zC q22_ 13 60, zC q23_ 13 60, zC q24_ 13 30, zC q25_ 13 30, zC q26_ 13 30, zC q27_ 13 30, zC q28_ 13 60, zC q29_ 13 60, zC q30_ 13 60, zC q31_ 13 60]) (hB.pR (p := 0) rfl 43 (some q31_)) ?_
  intro T I J R hB
  refine wp_aload_n C 0 dX12_init_269 rfl rfl ?_
  refine wp_bipush C 60 dX12_init_270 (by decide) ?_
  refine wp_newaI C dX12_init_272 (by decide +kernel) (n := 60) rfl (by decide) (by decide) (by decide) ?_
  intro q32_ hq
  refine wp_gen (fun T I J R => Bd T0 I0 J0 R0 u T I J R [(u, 12, 0, va_up (fun _ => 0) 9 4, va_up (fun _ => 0) 3 1, va_up (va_up (va_up (va_up (va_up (va_up (va_up (va_up (va_up (va_up (va_up (va_up (va_up (va_up (va_up (va_up (va_up (va_up (va_up (va_up (va_up (va_up (va_up (va_up (va_up (va_up (va_up (va_up (va_up (va_up (va_up (va_up (fun _ => none) 4 (some q0_)) 5 (some q1_)) 6 (some q2_)) 10 (some q3_)) 11 (some q4_)) 12 (some q5_)) 13 (some q6_)) 14 (some q7_)) 15 (some q8_)) 16 (some q9_)) 17 (some q10_)) 18 (some q11_)) 19 (some q12_)) 20 (some q13_)) 26 (some q14_)) 27 (some q15_)) 28 (some q16_)) 29 (some q17_)) 30 (some q18_)) 31 (some q19_)) 32 (some q20_)) 33 (some q21_)) 34 (some q22_)) 35 (some q23_)) 36 (some q24_)) 37 (some q25_)) 38 (some q26_)) 39 (some q27_)) 40 (some q28_)) 41 (some q29_)) 42 (some q30_)) 43 (some q31_)), zC q0_ 13 4, zC q1_ 13 4, zC q2_ 14 160, zC q3_ 13 80, zC q4_ 13 80, zC q5_ 15 80, zC q6_ 13 8, zC q7_ 13 10, zC q8_ 13 18, zC q9_ 13 18, zC q10_ 13 64, zC q11_ 13 80, zC q12_ 13 80, zC q13_ 13 80, zC q14_ 15 12, zC q15_ 15 120, zC q16_ 13 60, zC q17_ 13 60, zC q18_ 13 60, zC q19_ 13 60, zC q20_ 13 60, zC q21_ 13 60, zC q22_ 13 60, zC q23_ 13 60, zC q24_ 13 30, zC q25_ 13 30, zC q26_ 13 30, zC q27_ 13 30, zC q28_ 13 60, zC q29_ 13 60, zC q30_ 13 60, zC q31_ 13 60, zC q32_ 13 60]) (hB.push hq 13 60) ?_
  intro T I J R hB
  refine wp_putR C dX12_init_274 pX12_init_116 (fun _ => hnm) (hB.ob 0 rfl) rfl rfl ?_
  refine wp_gen (fun T I J R => Bd T0 I0 J0 R0 u T I J R [(u, 12, 0, va_up (fun _ => 0) 9 4, va_up (fun _ => 0) 3 1, va_up (va_up (va_up (va_up (va_up (va_up (va_up (va_up (va_up (va_up (va_up (va_up (va_up (va_up (va_up (va_up (va_up (va_up (va_up (va_up (va_up (va_up (va_up (va_up (va_up (va_up (va_up (va_up (va_up (va_up (va_up (va_up (va_up (fun _ => none) 4 (some q0_)) 5 (some q1_)) 6 (some q2_)) 10 (some q3_)) 11 (some q4_)) 12 (some q5_)) 13 (some q6_)) 14 (some q7_)) 15 (some q8_)) 16 (some q9_)) 17 (some q10_)) 18 (some q11_)) 19 (some q12_)) 20 (some q13_)) 26 (some q14_)) 27 (some q15_)) 28 (some q16_)) 29 (some q17_)) 30 (some q18_)) 31 (some q19_)) 32 (some q20_)) 33 (some q21_)) 34 (some q22_)) 35 (some q23_)) 36 (some q24_)) 37 (some q25_)) 38 (some q26_)) 39 (some q27_)) 40 (some q28_)) 41 (some q29_)) 42 (some q30_)) 43 (some q31_)) 44 (some q32_)), zC q0_ 13 4, zC q1_ 13 4, zC q2_ 14 160, zC q3_ 13 80, zC q4_ 13 80, zC q5_ 15 80, zC q6_ 13 8, zC q7_ 13 10, zC q8_ 13 18, zC q9_ 13 18, zC q10_ 13 64, zC q11_ 13 80, zC q12_ 13 80, zC q13_ 13 80, zC q14_ 15 12, zC q15_ 15 120, zC q16_ 13 60, zC q17_ 13 60, zC q18_ 13 60, zC q19_ 13 60, zC q20_ 13 60, zC q21_ 13 60, zC q22_ 13 60, zC q23_ 13 60, zC q24_ 13 30, zC q25_ 13 30, zC q26_ 13 30, zC q27_ 13 30, zC q28_ 13 60, zC q29_ 13 60, zC q30_ 13 60, zC q31_ 13 60, zC q32_ 13 60]) (hB.pR (p := 0) rfl 44 (some q32_)) ?_
  intro T I J R hB
  refine wp_aload_n C 0 dX12_init_277 rfl rfl ?_
  refine wp_bipush C 60 dX12_init_278 (by decide) ?_
  refine wp_newaI C dX12_init_280 (by decide +kernel) (n := 60) rfl (by decide) (by decide) (by decide) ?_
  intro q33_ hq
  refine wp_gen (fun T I J R => Bd T0 I0 J0 R0 u T I J R [(u, 12, 0, va_up (fun _ => 0) 9 4, va_up (fun _ => 0) 3 1, va_up (va_up (va_up (va_up (va_up (va_up (va_up (va_up (va_up (va_up (va_up (va_up (va_up (va_up (va_up (va_up (va_up (va_up (va_up (va_up (va_up (va_up (va_up (va_up (va_up (va_up (va_up (va_up (va_up (va_up (va_up (va_up (va_up (fun _ => none) 4 (some q0_)) 5 (some q1_)) 6 (some q2_)) 10 (some q3_)) 11 (some q4_)) 12 (some q5_)) 13 (some q6_)) 14 (some q7_)) 15 (some q8_)) 16 (some q9_)) 17 (some q10_)) 18 (some q11_)) 19 (some q12_)) 20 (some q13_)) 26 (some q14_)) 27 (some q15_)) 28 (some q16_)) 29 (some q17_)) 30 (some q18_)) 31 (some q19_)) 32 (some q20_)) 33 (some q21_)) 34 (some q22_)) 35 (some q23_)) 36 (some q24_)) 37 (some q25_)) 38 (some q26_)) 39 (some q27_)) 40 (some q28_)) 41 (some q29_)) 42 (some q30_)) 43 (some q31_)) 44 (some q32_)), zC q0_ 13 4, zC q1_ 13 4, zC q2_ 14 160, zC q3_ 13 80, zC q4_ 13 80, zC q5_ 15 80, zC q6_ 13 8, zC q7_ 13 10, zC q8_ 13 18, zC q9_ 13 18, zC q10_ 13 64, zC q11_ 13 80, zC q12_ 13 80, zC q13_ 13 80, zC q14_ 15 12, zC q15_ 15 120, zC q16_ 13 60, zC q17_ 13 60, zC q18_ 13 60, zC q19_ 13 60, zC q20_ 13 60, zC q21_ 13 60, zC q22_ 13 60, zC q23_ 13 60, zC q24_ 13 30, zC q25_ 13 30, zC q26_ 13 30, zC q27_ 13 30, zC q28_ 13 60, zC q29_ 13 60, zC q30_ 13 60, zC q31_ 13 60, zC q32_ 13 60, zC q33_ 13 60]) (hB.push hq 13 60) ?_
  intro T I J R hB
  refine wp_putR C dX12_init_282 pX12_init_119 (fun _ => hnm) (hB.ob 0 rfl) rfl rfl ?_
  refine wp_gen (fun T I J R => Bd T0 I0 J0 R0 u T I J R [(u, 12, 0, va_up (fun _ => 0) 9 4, va_up (fun _ => 0) 3 1, va_up (va_up (va_up (va_up (va_up (va_up (va_up (va_up (va_up (va_up (va_up (va_up (va_up (va_up (va_up (va_up (va_up (va_up (va_up (va_up (va_up (va_up (va_up (va_up (va_up (va_up (va_up (va_up (va_up (va_up (va_up (va_up (va_up (va_up (fun _ => none) 4 (some q0_)) 5 (some q1_)) 6 (some q2_)) 10 (some q3_)) 11 (some q4_)) 12 (some q5_)) 13 (some q6_)) 14 (some q7_)) 15 (some q8_)) 16 (some q9_)) 17 (some q10_)) 18 (some q11_)) 19 (some q12_)) 20 (some q13_)) 26 (some q14_)) 27 (some q15_)) 28 (some q16_)) 29 (some q17_)) 30 (some q18_)) 31 (some q19_)) 32 (some q20_)) 33 (some q21_)) 34 (some q22_)) 35 (some q23_)) 36 (some q24_)) 37 (some q25_)) 38 (some q26_)) 39 (some q27_)) 40 (some q28_)) 41 (some q29_)) 42 (some q30_)) 43 (some q31_)) 44 (some q32_)) 45 (some q33_)), zC q0_ 13 4, zC q1_ 13 4, zC q2_ 14 160, zC q3_ 13 80, zC q4_ 13 80, zC q5_ 15 80, zC q6_ 13 8, zC q7_ 13 10, zC q8_ 13 18, zC q9_ 13 18, zC q10_ 13 64, zC q11_ 13 80, zC q12_ 13 80, zC q13_ 13 80, zC q14_ 15 12, zC q15_ 15 120, zC q16_ 13 60, zC q17_ 13 60, zC q18_ 13 60, zC q19_ 13 60, zC q20_ 13 60, zC q21_ 13 60, zC q22_ 13 60, zC q23_ 13 60, zC q24_ 13 30, zC q25_ 13 30, zC q26_ 13 30, zC q27_ 13 30, zC q28_ 13 60, zC q29_ 13 60, zC q30_ 13 60, zC q31_ 13 60, zC q32_ 13 60, zC q33_ 13 60]) (hB.pR (p := 0) rfl 45 (some q33_)) ?_
  intro T I J R hB
  refine wp_aload_n C 0 dX12_init_285 rfl rfl ?_
  refine wp_bipush C 60 dX12_init_286 (by decide) ?_
  refine wp_newaI C dX12_init_288 (by decide +kernel) (n := 60) rfl (by decide) (by decide) (by decide) ?_
  intro q34_ hq
  refine wp_gen (fun T I J R => Bd T0 I0 J0 R0 u T I J R [(u, 12, 0, va_up (fun _ => 0) 9 4, va_up (fun _ => 0) 3 1, va_up (va_up (va_up (va_up (va_up (va_up (va_up (va_up (va_up (va_up (va_up (va_up (va_up (va_up (va_up (va_up (va_up (va_up (va_up (va_up (va_up (va_up (va_up (va_up (va_up (va_up (va_up (va_up (va_up (va_up (va_up (va_up (va_up (va_up (fun _ => none) 4 (some q0_)) 5 (some q1_)) 6 (some q2_)) 10 (some q3_)) 11 (some q4_)) 12 (some q5_)) 13 (some q6_)) 14 (some q7_)) 15 (some q8_)) 16 (some q9_)) 17 (some q10_)) 18 (some q11_)) 19 (some q12_)) 20 (some q13_)) 26 (some q14_)) 27 (some q15_)) 28 (some q16_)) 29 (some q17_)) 30 (some q18_)) 31 (some q19_)) 32 (some q20_)) 33 (some q21_)) 34 (some q22_)) 35 (some q23_)) 36 (some q24_)) 37 (some q25_)) 38 (some q26_)) 39 (some q27_)) 40 (some q28_)) 41 (some q29_)) 42 (some q30_)) 43 (some q31_)) 44 (some q32_)) 45 (some q33_)), zC q0_ 13 4, zC q1_ 13 4, zC q2_ 14 160, zC q3_ 13 80, zC q4_ 13 80, zC q5_ 15 80, zC q6_ 13 8, zC q7_ 13 10, zC q8_ 13 18, zC q9_ 13 18, zC q10_ 13 64, zC q11_ 13 80, zC q12_ 13 80, zC q13_ 13 80, zC q14_ 15 12, zC q15_ 15 120, zC q16_ 13 60, zC q17_ 13 60, zC q18_ 13 60, zC q19_ 13 60, zC q20_ 13 60, zC q21_ 13 60, zC q22_ 13 60, zC q23_ 13 60, zC q24_ 13 30, zC q25_ 13 30, zC q26_ 13 30, zC q27_ 13 30, zC q28_ 13 60, zC q29_ 13 60, zC q30_ 13 60, zC q31_ 13 60, zC q32_ 13 60, zC q33_ 13 60, zC q34_ 13 60]) (hB.push hq 13 60) ?_
  intro T I J R hB
  refine wp_putR C dX12_init_290 pX12_init_122 (fun _ => hnm) (hB.ob 0 rfl) rfl rfl ?_
  refine wp_gen (fun T I J R => Bd T0 I0 J0 R0 u T I J R [(u, 12, 0, va_up (fun _ => 0) 9 4, va_up (fun _ => 0) 3 1, va_up (va_up (va_up (va_up (va_up (va_up (va_up (va_up (va_up (va_up (va_up (va_up (va_up (va_up (va_up (va_up (va_up (va_up (va_up (va_up (va_up (va_up (va_up (va_up (va_up (va_up (va_up (va_up (va_up (va_up (va_up (va_up (va_up (va_up (va_up (fun _ => none) 4 (some q0_)) 5 (some q1_)) 6 (some q2_)) 10 (some q3_)) 11 (some q4_)) 12 (some q5_)) 13 (some q6_)) 14 (some q7_)) 15 (some q8_)) 16 (some q9_)) 17 (some q10_)) 18 (some q11_)) 19 (some q12_)) 20 (some q13_)) 26 (some q14_)) 27 (some q15_)) 28 (some q16_)) 29 (some q17_)) 30 (some q18_)) 31 (some q19_)) 32 (some q20_)) 33 (some q21_)) 34 (some q22_)) 35 (some q23_)) 36 (some q24_)) 37 (some q25_)) 38 (some q26_)) 39 (some q27_)) 40 (some q28_)) 41 (some q29_)) 42 (some q30_)) 43 (some q31_)) 44 (some q32_)) 45 (some q33_)) 46 (some q34_)), zC q0_ 13 4, zC q1_ 13 4, zC q2_ 14 160, zC q3_ 13 80, zC q4_ 13 80, zC q5_ 15 80, zC q6_ 13 8, zC q7_ 13 10, zC q8_ 13 18, zC q9_ 13 18, zC q10_ 13 64, zC q11_ 13 80, zC q12_ 13 80, zC q13_ 13 80, zC q14_ 15 12, zC q15_ 15 120, zC q16_ 13 60, zC q17_ 13 60, zC q18_ 13 60, zC q19_ 13 60, zC q20_ 13 60, zC q21_ 13 60, zC q22_ 13 60, zC q23_ 13 60, zC q24_ 13 30, zC q25_ 13 30, zC q26_ 13 30, zC q27_ 13 30, zC q28_ 13 60, zC q29_ 13 60, zC q30_ 13 60, zC q31_ 13 60, zC q32_ 13 60, zC q33_ 13 60, zC q34_ 13 60]) (hB.pR (p := 0) rfl 46 (some q34_)) ?_
  intro T I J R hB
  refine wp_aload_n C 0 dX12_init_293 rfl rfl ?_
  refine wp_bipush C 60 dX12_init_294 (by decide) ?_
  refine wp_newaI C dX12_init_296 (by decide +kernel) (n := 60) rfl (by decide) (by decide) (by decide) ?_
  intro q35_ hq
  refine wp_gen (fun T I J R => Bd T0 I0 J0 R0 u T I J R [(u, 12, 0, va_up (fun _ => 0) 9 4, va_up (fun _ => 0) 3 1, va_up (va_up (va_up (va_up (va_up (va_up (va_up (va_up (va_up (va_up (va_up (va_up (va_up (va_up (va_up (va_up (va_up (va_up (va_up (va_up (va_up (va_up (va_up (va_up (va_up (va_up (va_up (va_up (va_up (va_up (va_up (va_up (va_up (va_up (va_up (fun _ => none) 4 (some q0_)) 5 (some q1_)) 6 (some q2_)) 10 (some q3_)) 11 (some q4_)) 12 (some q5_)) 13 (some q6_)) 14 (some q7_)) 15 (some q8_)) 16 (some q9_)) 17 (some q10_)) 18 (some q11_)) 19 (some q12_)) 20 (some q13_)) 26 (some q14_)) 27 (some q15_)) 28 (some q16_)) 29 (some q17_)) 30 (some q18_)) 31 (some q19_)) 32 (some q20_)) 33 (some q21_)) 34 (some q22_)) 35 (some q23_)) 36 (some q24_)) 37 (some q25_)) 38 (some q26_)) 39 (some q27_)) 40 (some q28_)) 41 (some q29_)) 42 (some q30_)) 43 (some q31_)) 44 (some q32_)) 45 (some q33_)) 46 (some q34_)), zC q0_ 13 4, zC q1_ 13 4, zC q2_ 14 160, zC q3_ 13 80, zC q4_ 13 80, zC q5_ 15 80, zC q6_ 13 8, zC q7_ 13 10, zC q8_ 13 18, zC q9_ 13 18, zC q10_ 13 64, zC q11_ 13 80, zC q12_ 13 80, zC q13_ 13 80, zC q14_ 15 12, zC q15_ 15 120, zC q16_ 13 60, zC q17_ 13 60, zC q18_ 13 60, zC q19_ 13 60, zC q20_ 13 60, zC q21_ 13 60, zC q22_ 13 60, zC q23_ 13 60, zC q24_ 13 30, zC q25_ 13 30, zC q26_ 13 30, zC q27_ 13 30, zC q28_ 13 60, zC q29_ 13 60, zC q30_ 13 60, zC q31_ 13 60, zC q32_ 13 60, zC q33_ 13 60, zC q34_ 13 60, zC q35_ 13 60]) (hB.push hq 13 60) ?_
  intro T I J R hB
  refine wp_putR C dX12_init_298 pX12_init_125 (fun _ => hnm) (hB.ob 0 rfl) rfl rfl ?_
  refine wp_gen (fun T I J R => Bd T0 I0 J0 R0 u T I J R [(u, 12, 0, va_up (fun _ => 0) 9 4, va_up (fun _ => 0) 3 1, va_up (va_up (va_up (va_up (va_up (va_up (va_up (va_up (va_up (va_up (va_up (va_up (va_up (va_up (va_up (va_up (va_up (va_up (va_up (va_up (va_up (va_up (va_up (va_up (va_up (va_up (va_up (va_up (va_up (va_up (va_up (va_up (va_up (va_up (va_up (va_up (fun _ => none) 4 (some q0_)) 5 (some q1_)) 6 (some q2_)) 10 (some q3_)) 11 (some q4_)) 12 (some q5_)) 13 (some q6_)) 14 (some q7_)) 15 (some q8_)) 16 (some q9_)) 17 (some q10_)) 18 (some q11_)) 19 (some q12_)) 20 (some q13_)) 26 (some q14_)) 27 (some q15_)) 28 (some q16_)) 29 (some q17_)) 30 (some q18_)) 31 (some q19_)) 32 (some q20_)) 33 (some q21_)) 34 (some q22_)) 35 (some q23_)) 36 (some q24_)) 37 (some q25_)) 38 (some q26_)) 39 (some q27_)) 40 (some q28_)) 41 (some q29_)) 42 (some q30_)) 43 (some q31_)) 44 (some q32_)) 45 (some q33_)) 46 (some q34_)) 47 (some q35_)), zC q0_ 13 4, zC q1_ 13 4, zC q2_ 14 160, zC q3_ 13 80, zC q4_ 13 80, zC q5_ 15 80, zC q6_ 13 8, zC q7_ 13 10, zC q8_ 13 18, zC q9_ 13 18, zC q10_ 13 64, zC q11_ 13 80, zC q12_ 13 80, zC q13_ 13 80, zC q14_ 15 12, zC q15_ 15 120, zC q16_ 13 60, zC q17_ 13 60, zC q18_ 13 60, zC q19_ 13 60, zC q20_ 13 60, zC q21_ 13 60, zC q22_ 13 60, zC q23_ 13 60, zC q24_ 13 30, zC q25_ 13 30, zC q26_ 13 30, zC q27_ 13 30, zC q28_ 13 60, zC q29_ 13 60, zC q30_ 13 60, zC q31_ 13 60, zC q32_ 13 60, zC q33_ 13 60, zC q34_ 13 60, zC q35_ 13 60]) (hB.pR (p := 0) rfl 47 (some q35_)) ?_
  intro T I J R hB
  refine wp_aload_n C 0 dX12_init_301 rfl rfl ?_
  refine wp_bipush C 60 dX12_init_302 (by decide) ?_
  refine wp_newaI C dX12_init_304 (by decide +kernel) (n := 60) rfl (by decide) (by decide) (by decide) ?_
  intro q36_ hq
  refine wp_gen (fun T I J R => Bd T0 I0 J0 R0 u T I J R [(u, 12, 0, va_up (fun _ => 0) 9 4, va_up (fun _ => 0) 3 1, va_up (va_up (va_up (va_up (va_up (va_up (va_up (va_up (va_up (va_up (va_up (va_up (va_up (va_up (va_up (va_up (va_up (va_up (va_up (va_up (va_up (va_up (va_up (va_up (va_up (va_up (va_up (va_up (va_up (va_up (va_up (va_up (va_up (va_up (va_up (va_up (fun _ => none) 4 (some q0_)) 5 (some q1_)) 6 (some q2_)) 10 (some q3_)) 11 (some q4_)) 12 (some q5_)) 13 (some q6_)) 14 (some q7_)) 15 (some q8_)) 16 (some q9_)) 17 (some q10_)) 18 (some q11_)) 19 (some q12_)) 20 (some q13_)) 26 (some q14_)) 27 (some q15_)) 28 (some q16_)) 29 (some q17_)) 30 (some q18_)) 31 (some q19_)) 32 (some q20_)) 33 (some q21_)) 34 (some q22_)) 35 (some q23_)) 36 (some q24_)) 37 (some q25_)) 38 (some q26_)) 39 (some q27_)) 40 (some q28_)) 41 (some q29_)) 42 (some q30_)) 43 (some q31_)) 44 (some q32_)) 45 (some q33_)) 46 (some q34_)) 47 (some q35_)), zC q0_ 13 4, zC q1_ 13 4, zC q2_ 14 160, zC q3_ 13 80, zC q4_ 13 80, zC q5_ 15 80, zC q6_ 13 8, zC q7_ 13 10, zC q8_ 13 18, zC q9_ 13 18, zC q10_ 13 64, zC q11_ 13 80, zC q12_ 13 80, zC q13_ 13 80, zC q14_ 15 12, zC q15_ 15 120, zC q16_ 13 60, zC q17_ 13 60, zC q18_ 13 60, zC q19_ 13 60, zC q20_ 13 60, zC q21_ 13 60, zC q22_ 13 60, zC q23_ 13 60, zC q24_ 13 30, zC q25_ 13 30, zC q26_ 13 30, zC q27_ 13 30, zC q28_ 13 60, zC q29_ 13 60, zC q30_ 13 60, zC q31_ 13 60, zC q32_ 13 60, zC q33_ 13 60, zC q34_ 13 60, zC q35_ 13 60, zC q36_ 13 60]) (hB.push hq 13 60) ?_
  intro T I J R hB
  refine wp_putR C dX12_init_306 pX12_init_128 (fun _ => hnm) (hB.ob 0 rfl) rfl rfl ?_
  refine wp_gen (fun T I J R => Bd T0 I0 J0 R0 u T I J R [(u, 12, 0, va_up (fun _ => 0) 9 4, va_up (fun _ => 0) 3 1, va_up (va_up (va_up (va_up (va_up (va_up (va_up (va_up (va_up (va_up (va_up (va_up (va_up (va_up (va_up (va_up (va_up (va_up (va_up (va_up (va_up (va_up (va_up (va_up (va_up (va_up (va_up (va_up (va_up (va_up (va_up (va_up (va_up (va_up (va_up (va_up (va_up (fun _ => none) 4 (some q0_)) 5 (some q1_)) 6 (some q2_)) 10 (some q3_)) 11 (some q4_)) 12 (some q5_)) 13 (some q6_)) 14 (some q7_)) 15 (some q8_)) 16 (some q9_)) 17 (some q10_)) 18 (some q11_)) 19 (some q12_)) 20 (some q13_)) 26 (some q14_)) 27 (some q15_)) 28 (some q16_)) 29 (some q17_)) 30 (some q18_)) 31 (some q19_)) 32 (some q20_)) 33 (some q21_)) 34 (some q22_)) 35 (some q23_)) 36 (some q24_)) 37 (some q25_)) 38 (some q26_)) 39 (some q27_)) 40 (some q28_)) 41 (some q29_)) 42 (some q30_)) 43 (some q31_)) 44 (some q32_)) 45 (some q33_)) 46 (some q34_)) 47 (some q35_)) 48 (some q36_)), zC q0_ 13 4, zC q1_ 13 4, zC q2_ 14 160, zC q3_ 13 80, zC q4_ 13 80, zC q5_ 15 80, zC q6_ 13 8, zC q7_ 13 10, zC q8_ 13 18, zC q9_ 13 18, zC q10_ 13 64, zC q11_ 13 80, zC q12_ 13 80, zC q13_ 13 80, zC q14_ 15 12, zC q15_ 15 120, zC q16_ 13 60, zC q17_ 13 60, zC q18_ 13 60, zC q19_ 13 60, zC q20_ 13 60, zC q21_ 13 60, zC q22_ 13 60, zC q23_ 13 60, zC q24_ 13 30, zC q25_ 13 30, zC q26_ 13 30, zC q27_ 13 30, zC q28_ 13 60, zC q29_ 13 60, zC q30_ 13 60, zC q31_ 13 60, zC q32_ 13 60, zC q33_ 13 60, zC q34_ 13 60, zC q35_ 13 60, zC q36_ 13 60]) (hB.pR (p := 0) rfl 48 (some q36_)) ?_
  intro T I J R hB
  refine wp_aload_n C 0 dX12_init_309 rfl rfl ?_
  refine wp_bipush C 10 dX12_init_310 (by decide) ?_
  refine wp_newaZ C dX12_init_312 (by decide +kernel) (n := 10) rfl (by decide) (by decide) (by decide) ?_
  intro q37_ hq
  refine wp_gen (fun T I J R => Bd T0 I0 J0 R0 u T I J R [(u, 12, 0, va_up (fun _ => 0) 9 4, va_up (fun _ => 0) 3 1, va_up (va_up (va_up (va_up (va_up (va_up (va_up (va_up (va_up (va_up (va_up (va_up (va_up (va_up (va_up (va_up (va_up (va_up (va_up (va_up (va_up (va_up (va_up (va_up (va_up (va_up (va_up (va_up (va_up (va_up (va_up (va_up (va_up (va_up (va_up (va_up (va_up (fun _ => none) 4 (some q0_)) 5 (some q1_)) 6 (some q2_)) 10 (some q3_)) 11 (some q4_)) 12 (some q5_)) 13 (some q6_)) 14 (some q7_)) 15 (some q8_)) 16 (some q9_)) 17 (some q10_)) 18 (some q11_)) 19 (some q12_)) 20 (some q13_)) 26 (some q14_)) 27 (some q15_)) 28 (some q16_)) 29 (some q17_)) 30 (some q18_)) 31 (some q19_)) 32 (some q20_)) 33 (some q21_)) 34 (some q22_)) 35 (some q23_)) 36 (some q24_)) 37 (some q25_)) 38 (some q26_)) 39 (some q27_)) 40 (some q28_)) 41 (some q29_)) 42 (some q30_)) 43 (some q31_)) 44 (some q32_)) 45 (some q33_)) 46 (some q34_)) 47 (some q35_)) 48 (some q36_)), zC q0_ 13 4, zC q1_ 13 4, zC q2_ 14 160, zC q3_ 13 80, zC q4_ 13 80, zC q5_ 15 80, zC q6_ 13 8, zC q7_ 13 10, zC q8_ 13 18, zC q9_ 13 18, zC q10_ 13 64, zC q11_ 13 80, zC q12_ 13 80, zC q13_ 13 80, zC q14_ 15 12, zC q15_ 15 120, zC q16_ 13 60, zC q17_ 13 60, zC q18_ 13 60, zC q19_ 13 60, zC q20_ 13 60, zC q21_ 13 60, zC q22_ 13 60, zC q23_ 13 60, zC q24_ 13 30, zC q25_ 13 30, zC q26_ 13 30, zC q27_ 13 30, zC q28_ 13 60, zC q29_ 13 60, zC q30_ 13 60, zC q31_ 13 60, zC q32_ 13 60, zC q33_ 13 60, zC q34_ 13 60, zC q35_ 13 60, zC q36_ 13 60, zC q37_ 15 10]) (hB.push hq 15 10) ?_
  intro T I J R hB
  refine wp_putR C dX12_init_314 pX12_init_131 (fun _ => hnm) (hB.ob 0 rfl) rfl rfl ?_
  refine wp_gen (fun T I J R => Bd T0 I0 J0 R0 u T I J R [(u, 12, 0, va_up (fun _ => 0) 9 4, va_up (fun _ => 0) 3 1, va_up (va_up (va_up (va_up (va_up (va_up (va_up (va_up (va_up (va_up (va_up (va_up (va_up (va_up (va_up (va_up (va_up (va_up (va_up (va_up (va_up (va_up (va_up (va_up (va_up (va_up (va_up (va_up (va_up (va_up (va_up (va_up (va_up (va_up (va_up (va_up (va_up (va_up (fun _ => none) 4 (some q0_)) 5 (some q1_)) 6 (some q2_)) 10 (some q3_)) 11 (some q4_)) 12 (some q5_)) 13 (some q6_)) 14 (some q7_)) 15 (some q8_)) 16 (some q9_)) 17 (some q10_)) 18 (some q11_)) 19 (some q12_)) 20 (some q13_)) 26 (some q14_)) 27 (some q15_)) 28 (some q16_)) 29 (some q17_)) 30 (some q18_)) 31 (some q19_)) 32 (some q20_)) 33 (some q21_)) 34 (some q22_)) 35 (some q23_)) 36 (some q24_)) 37 (some q25_)) 38 (some q26_)) 39 (some q27_)) 40 (some q28_)) 41 (some q29_)) 42 (some q30_)) 43 (some q31_)) 44 (some q32_)) 45 (some q33_)) 46 (some q34_)) 47 (some q35_)) 48 (some q36_)) 53 (some q37_)), zC q0_ 13 4, zC q1_ 13 4, zC q2_ 14 160, zC q3_ 13 80, zC q4_ 13 80, zC q5_ 15 80, zC q6_ 13 8, zC q7_ 13 10, zC q8_ 13 18, zC q9_ 13 18, zC q10_ 13 64, zC q11_ 13 80, zC q12_ 13 80, zC q13_ 13 80, zC q14_ 15 12, zC q15_ 15 120, zC q16_ 13 60, zC q17_ 13 60, zC q18_ 13 60, zC q19_ 13 60, zC q20_ 13 60, zC q21_ 13 60, zC q22_ 13 60, zC q23_ 13 60, zC q24_ 13 30, zC q25_ 13 30, zC q26_ 13 30, zC q27_ 13 30, zC q28_ 13 60, zC q29_ 13 60, zC q30_ 13 60, zC q31_ 13 60, zC q32_ 13 60, zC q33_ 13 60, zC q34_ 13 60, zC q35_ 13 60, zC q36_ 13 60, zC q37_ 15 10]) (hB.pR (p := 0) rfl 53 (some q37_)) ?_
  intro T I J R hB
  refine wp_iconst C 0 dX12_init_317 (by decide) ?_
  refine wp_istore_n C [(1, .int 0), (0, .ref u)] dX12_init_318 rfl (by decide) rfl ?_
  refine wp_iload_n C 0 dX12_init_319 rfl rfl ?_
  refine wp_iconst C 4 dX12_init_320 (by decide) ?_
  refine wp_icmp_ge C 337 dX12_init_321 (by decide) (fun z => absurd z (by decide)) (fun _ => ?_)
  refine wp_aload_n C 1 dX12_init_324 rfl rfl ?_
  refine wp_getR C dX12_init_325 fX12_init_17 (hB.ob 0 rfl) (hB.rf 0 rfl 5 rfl) ?_
  refine wp_iload_n C 0 dX12_init_328 rfl rfl ?_
  refine wp_iconst C (-1) dX12_init_329 (by decide) ?_
  refine wp_iast C dX12_init_330 (hB.ar 2 rfl) (j := 0) rfl (by decide) (by decide) ?_
  refine wp_gen (fun T I J R => Bd T0 I0 J0 R0 u T I J R [(u, 12, 0, va_up (fun _ => 0) 9 4, va_up (fun _ => 0) 3 1, va_up (va_up (va_up (va_up (va_up (va_up (va_up (va_up (va_up (va_up (va_up (va_up (va_up (va_up (va_up (va_up (va_up (va_up (va_up (va_up (va_up (va_up (va_up (va_up (va_up (va_up (va_up (va_up (va_up (va_up (va_up (va_up (va_up (va_up (va_up (va_up (va_up (va_up (fun _ => none) 4 (some q0_)) 5 (some q1_)) 6 (some q2_)) 10 (some q3_)) 11 (some q4_)) 12 (some q5_)) 13 (some q6_)) 14 (some q7_)) 15 (some q8_)) 16 (some q9_)) 17 (some q10_)) 18 (some q11_)) 19 (some q12_)) 20 (some q13_)) 26 (some q14_)) 27 (some q15_)) 28 (some q16_)) 29 (some q17_)) 30 (some q18_)) 31 (some q19_)) 32 (some q20_)) 33 (some q21_)) 34 (some q22_)) 35 (some q23_)) 36 (some q24_)) 37 (some q25_)) 38 (some q26_)) 39 (some q27_)) 40 (some q28_)) 41 (some q29_)) 42 (some q30_)) 43 (some q31_)) 44 (some q32_)) 45 (some q33_)) 46 (some q34_)) 47 (some q35_)) 48 (some q36_)) 53 (some q37_)), zC q0_ 13 4, (q1_, 13, 4, va_up (fun _ => 0) 0 (-1), fun _ => 0, fun _ => none), zC q2_ 14 160, zC q3_ 13 80, zC q4_ 13 80, zC q5_ 15 80, zC q6_ 13 8, zC q7_ 13 10, zC q8_ 13 18, zC q9_ 13 18, zC q10_ 13 64, zC q11_ 13 80, zC q12_ 13 80, zC q13_ 13 80, zC q14_ 15 12, zC q15_ 15 120, zC q16_ 13 60, zC q17_ 13 60, zC q18_ 13 60, zC q19_ 13 60, zC q20_ 13 60, zC q21_ 13 60, zC q22_ 13 60, zC q23_ 13 60, zC q24_ 13 30, zC q25_ 13 30, zC q26_ 13 30, zC q27_ 13 30, zC q28_ 13 60, zC q29_ 13 60, zC q30_ 13 60, zC q31_ 13 60, zC q32_ 13 60, zC q33_ 13 60, zC q34_ 13 60, zC q35_ 13 60, zC q36_ 13 60, zC q37_ 15 10]) (hB.pI (p := 2) rfl 0 (-1)) ?_
  intro T I J R hB
  refine wp_iinc C 0 1 [(1, .int 1), (0, .ref u)] dX12_init_331 rfl rfl (by decide) rfl ?_
  refine wp_goto C 319 dX12_init_334 (by decide) ?_
  refine wp_iload_n C 0 dX12_init_319 rfl rfl ?_
  refine wp_iconst C 4 dX12_init_320 (by decide) ?_
  refine wp_icmp_ge C 337 dX12_init_321 (by decide) (fun z => absurd z (by decide)) (fun _ => ?_)
  refine wp_aload_n C 1 dX12_init_324 rfl rfl ?_
  refine wp_getR C dX12_init_325 fX12_init_17 (hB.ob 0 rfl) (hB.rf 0 rfl 5 rfl) ?_
  refine wp_iload_n C 0 dX12_init_328 rfl rfl ?_
  refine wp_iconst C (-1) dX12_init_329 (by decide) ?_
  refine wp_iast C dX12_init_330 (hB.ar 2 rfl) (j := 1) rfl (by decide) (by decide) ?_
  refine wp_gen (fun T I J R => Bd T0 I0 J0 R0 u T I J R [(u, 12, 0, va_up (fun _ => 0) 9 4, va_up (fun _ => 0) 3 1, va_up (va_up (va_up (va_up (va_up (va_up (va_up (va_up (va_up (va_up (va_up (va_up (va_up (va_up (va_up (va_up (va_up (va_up (va_up (va_up (va_up (va_up (va_up (va_up (va_up (va_up (va_up (va_up (va_up (va_up (va_up (va_up (va_up (va_up (va_up (va_up (va_up (va_up (fun _ => none) 4 (some q0_)) 5 (some q1_)) 6 (some q2_)) 10 (some q3_)) 11 (some q4_)) 12 (some q5_)) 13 (some q6_)) 14 (some q7_)) 15 (some q8_)) 16 (some q9_)) 17 (some q10_)) 18 (some q11_)) 19 (some q12_)) 20 (some q13_)) 26 (some q14_)) 27 (some q15_)) 28 (some q16_)) 29 (some q17_)) 30 (some q18_)) 31 (some q19_)) 32 (some q20_)) 33 (some q21_)) 34 (some q22_)) 35 (some q23_)) 36 (some q24_)) 37 (some q25_)) 38 (some q26_)) 39 (some q27_)) 40 (some q28_)) 41 (some q29_)) 42 (some q30_)) 43 (some q31_)) 44 (some q32_)) 45 (some q33_)) 46 (some q34_)) 47 (some q35_)) 48 (some q36_)) 53 (some q37_)), zC q0_ 13 4, (q1_, 13, 4, va_up (va_up (fun _ => 0) 0 (-1)) 1 (-1), fun _ => 0, fun _ => none), zC q2_ 14 160, zC q3_ 13 80, zC q4_ 13 80, zC q5_ 15 80, zC q6_ 13 8, zC q7_ 13 10, zC q8_ 13 18, zC q9_ 13 18, zC q10_ 13 64, zC q11_ 13 80, zC q12_ 13 80, zC q13_ 13 80, zC q14_ 15 12, zC q15_ 15 120, zC q16_ 13 60, zC q17_ 13 60, zC q18_ 13 60, zC q19_ 13 60, zC q20_ 13 60, zC q21_ 13 60, zC q22_ 13 60, zC q23_ 13 60, zC q24_ 13 30, zC q25_ 13 30, zC q26_ 13 30, zC q27_ 13 30, zC q28_ 13 60, zC q29_ 13 60, zC q30_ 13 60, zC q31_ 13 60, zC q32_ 13 60, zC q33_ 13 60, zC q34_ 13 60, zC q35_ 13 60, zC q36_ 13 60, zC q37_ 15 10]) (hB.pI (p := 2) rfl 1 (-1)) ?_
  intro T I J R hB
  refine wp_iinc C 0 2 [(1, .int 2), (0, .ref u)] dX12_init_331 rfl rfl (by decide) rfl ?_
  refine wp_goto C 319 dX12_init_334 (by decide) ?_
  refine wp_iload_n C 0 dX12_init_319 rfl rfl ?_
  refine wp_iconst C 4 dX12_init_320 (by decide) ?_
  refine wp_icmp_ge C 337 dX12_init_321 (by decide) (fun z => absurd z (by decide)) (fun _ => ?_)
  refine wp_aload_n C 1 dX12_init_324 rfl rfl ?_
  refine wp_getR C dX12_init_325 fX12_init_17 (hB.ob 0 rfl) (hB.rf 0 rfl 5 rfl) ?_
  refine wp_iload_n C 0 dX12_init_328 rfl rfl ?_
  refine wp_iconst C (-1) dX12_init_329 (by decide) ?_
  refine wp_iast C dX12_init_330 (hB.ar 2 rfl) (j := 2) rfl (by decide) (by decide) ?_
  refine wp_gen (fun T I J R => Bd T0 I0 J0 R0 u T I J R [(u, 12, 0, va_up (fun _ => 0) 9 4, va_up (fun _ => 0) 3 1, va_up (va_up (va_up (va_up (va_up (va_up (va_up (va_up (va_up (va_up (va_up (va_up (va_up (va_up (va_up (va_up (va_up (va_up (va_up (va_up (va_up (va_up (va_up (va_up (va_up (va_up (va_up (va_up (va_up (va_up (va_up (va_up (va_up (va_up (va_up (va_up (va_up (va_up (fun _ => none) 4 (some q0_)) 5 (some q1_)) 6 (some q2_)) 10 (some q3_)) 11 (some q4_)) 12 (some q5_)) 13 (some q6_)) 14 (some q7_)) 15 (some q8_)) 16 (some q9_)) 17 (some q10_)) 18 (some q11_)) 19 (some q12_)) 20 (some q13_)) 26 (some q14_)) 27 (some q15_)) 28 (some q16_)) 29 (some q17_)) 30 (some q18_)) 31 (some q19_)) 32 (some q20_)) 33 (some q21_)) 34 (some q22_)) 35 (some q23_)) 36 (some q24_)) 37 (some q25_)) 38 (some q26_)) 39 (some q27_)) 40 (some q28_)) 41 (some q29_)) 42 (some q30_)) 43 (some q31_)) 44 (some q32_)) 45 (some q33_)) 46 (some q34_)) 47 (some q35_)) 48 (some q36_)) 53 (some q37_)), zC q0_ 13 4, (q1_, 13, 4, va_up (va_up (va_up (fun _ => 0) 0 (-1)) 1 (-1)) 2 (-1), fun _ => 0, fun _ => none), zC q2_ 14 160, zC q3_ 13 80, zC q4_ 13 80, zC q5_ 15 80, zC q6_ 13 8, zC q7_ 13 10, zC q8_ 13 18, zC q9_ 13 18, zC q10_ 13 64, zC q11_ 13 80, zC q12_ 13 80, zC q13_ 13 80, zC q14_ 15 12, zC q15_ 15 120, zC q16_ 13 60, zC q17_ 13 60, zC q18_ 13 60, zC q19_ 13 60, zC q20_ 13 60, zC q21_ 13 60, zC q22_ 13 60, zC q23_ 13 60, zC q24_ 13 30, zC q25_ 13 30, zC q26_ 13 30, zC q27_ 13 30, zC q28_ 13 60, zC q29_ 13 60, zC q30_ 13 60, zC q31_ 13 60, zC q32_ 13 60, zC q33_ 13 60, zC q34_ 13 60, zC q35_ 13 60, zC q36_ 13 60, zC q37_ 15 10]) (hB.pI (p := 2) rfl 2 (-1)) ?_
  intro T I J R hB
  refine wp_iinc C 0 3 [(1, .int 3), (0, .ref u)] dX12_init_331 rfl rfl (by decide) rfl ?_
  refine wp_goto C 319 dX12_init_334 (by decide) ?_
  refine wp_iload_n C 0 dX12_init_319 rfl rfl ?_
  refine wp_iconst C 4 dX12_init_320 (by decide) ?_
  refine wp_icmp_ge C 337 dX12_init_321 (by decide) (fun z => absurd z (by decide)) (fun _ => ?_)
  refine wp_aload_n C 1 dX12_init_324 rfl rfl ?_
  refine wp_getR C dX12_init_325 fX12_init_17 (hB.ob 0 rfl) (hB.rf 0 rfl 5 rfl) ?_
  refine wp_iload_n C 0 dX12_init_328 rfl rfl ?_
  refine wp_iconst C (-1) dX12_init_329 (by decide) ?_
  refine wp_iast C dX12_init_330 (hB.ar 2 rfl) (j := 3) rfl (by decide) (by decide) ?_
  refine wp_gen (fun T I J R => Bd T0 I0 J0 R0 u T I J R [(u, 12, 0, va_up (fun _ => 0) 9 4, va_up (fun _ => 0) 3 1, va_up (va_up (va_up (va_up (va_up (va_up (va_up (va_up (va_up (va_up (va_up (va_up (va_up (va_up (va_up (va_up (va_up (va_up (va_up (va_up (va_up (va_up (va_up (va_up (va_up (va_up (va_up (va_up (va_up (va_up (va_up (va_up (va_up (va_up (va_up (va_up (va_up (va_up (fun _ => none) 4 (some q0_)) 5 (some q1_)) 6 (some q2_)) 10 (some q3_)) 11 (some q4_)) 12 (some q5_)) 13 (some q6_)) 14 (some q7_)) 15 (some q8_)) 16 (some q9_)) 17 (some q10_)) 18 (some q11_)) 19 (some q12_)) 20 (some q13_)) 26 (some q14_)) 27 (some q15_)) 28 (some q16_)) 29 (some q17_)) 30 (some q18_)) 31 (some q19_)) 32 (some q20_)) 33 (some q21_)) 34 (some q22_)) 35 (some q23_)) 36 (some q24_)) 37 (some q25_)) 38 (some q26_)) 39 (some q27_)) 40 (some q28_)) 41 (some q29_)) 42 (some q30_)) 43 (some q31_)) 44 (some q32_)) 45 (some q33_)) 46 (some q34_)) 47 (some q35_)) 48 (some q36_)) 53 (some q37_)), zC q0_ 13 4, (q1_, 13, 4, va_up (va_up (va_up (va_up (fun _ => 0) 0 (-1)) 1 (-1)) 2 (-1)) 3 (-1), fun _ => 0, fun _ => none), zC q2_ 14 160, zC q3_ 13 80, zC q4_ 13 80, zC q5_ 15 80, zC q6_ 13 8, zC q7_ 13 10, zC q8_ 13 18, zC q9_ 13 18, zC q10_ 13 64, zC q11_ 13 80, zC q12_ 13 80, zC q13_ 13 80, zC q14_ 15 12, zC q15_ 15 120, zC q16_ 13 60, zC q17_ 13 60, zC q18_ 13 60, zC q19_ 13 60, zC q20_ 13 60, zC q21_ 13 60, zC q22_ 13 60, zC q23_ 13 60, zC q24_ 13 30, zC q25_ 13 30, zC q26_ 13 30, zC q27_ 13 30, zC q28_ 13 60, zC q29_ 13 60, zC q30_ 13 60, zC q31_ 13 60, zC q32_ 13 60, zC q33_ 13 60, zC q34_ 13 60, zC q35_ 13 60, zC q36_ 13 60, zC q37_ 15 10]) (hB.pI (p := 2) rfl 3 (-1)) ?_
  intro T I J R hB
  refine wp_iinc C 0 4 [(1, .int 4), (0, .ref u)] dX12_init_331 rfl rfl (by decide) rfl ?_
  refine wp_goto C 319 dX12_init_334 (by decide) ?_
  refine wp_iload_n C 0 dX12_init_319 rfl rfl ?_
  refine wp_iconst C 4 dX12_init_320 (by decide) ?_
  refine wp_icmp_ge C 337 dX12_init_321 (by decide) (fun _ => ?_) (fun z => absurd (by decide) z)
  exact wp_vret C Z dX12_init_337 (by decide) (by decide) ⟨rfl, fun i => [q0_, q1_, q2_, q3_, q4_, q5_, q6_, q7_, q8_, q9_, q10_, q11_, q12_, q13_, q14_, q15_, q16_, q17_, q18_, q19_, q20_, q21_, q22_, q23_, q24_, q25_, q26_, q27_, q28_, q29_, q30_, q31_, q32_, q33_, q34_, q35_, q36_, q37_].getD i 0, hB⟩
