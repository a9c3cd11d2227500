/-! ===== the state of the fair: a (row 0: the reference's own numbers, row k: its array k), n (row 0: its two longs, row 6: the numbers in the trays); what the class's cells hold of it ===== -/
/-- the shape has grown -/
def GrT (T T' : gSh) : Prop := ∀ x, x ∈ T.1 → x ∈ T'.1 ∧ T'.2.1 x = T.2.1 x ∧ T'.2.2 x = T.2.2 x
theorem GrT.rf (T : gSh) : GrT T T := fun _ h => ⟨h, rfl, rfl⟩
theorem GrT.tr {T T1 T2 : gSh} (h : GrT T T1) (g : GrT T1 T2) : GrT T T2 := fun x hx => ⟨(g x (h x hx).1).1, (g x (h x hx).1).2.1.trans (h x hx).2.1, (g x (h x hx).1).2.2.trans (h x hx).2.2⟩
theorem GrT.push {T : gSh} {q kd n : Nat} (hq : q ∉ T.1) : GrT T (T.1 ++ [q], va_up T.2.1 q kd, va_up T.2.2 q n) := fun x hx => by
  have hne : x ≠ q := fun e => hq (e ▸ hx)
  exact ⟨List.mem_append_left _ hx, vu_n _ _ hne, vu_n _ _ hne⟩
theorem OB.gr {T T' : gSh} {a ci : Nat} (h : OB T a ci) (g : GrT T T') : OB T' a ci := ⟨(g a h.1).1, (g a h.1).2.1.trans h.2⟩
theorem AR.gr {T T' : gSh} {a kd n : Nat} (h : AR T a kd n) (g : GrT T T') : AR T' a kd n := ⟨(g a h.1).1, (g a h.1).2.1.trans h.2.1, (g a h.1).2.2.trans h.2.2⟩
/-- kinds of the cells that the class makes as it goes -/
def dyn (k : Nat) : Prop := k = 0 ∨ k = 3 ∨ k = 5 ∨ k = 7 ∨ k = 8
theorem cK_dyn : ∀ i, i < 30 → ¬ ((cK.getD i (0, 0)).1 = 0 ∨ (cK.getD i (0, 0)).1 = 3 ∨ (cK.getD i (0, 0)).1 = 5 ∨ (cK.getD i (0, 0)).1 = 7 ∨ (cK.getD i (0, 0)).1 = 8) := by decide
theorem CO.nd {T : gSh} {R : gR} {ca : Nat → Nat} (h : CO T R ca) {x k : Nat} (hx : OB T x k) (hk : dyn k) {i : Nat} (hi : i < 30) : x ≠ ca i := by
  rintro rfl
  have h1 := (h.1 i hi).2.1
  rw [hx.2] at h1
  exact cK_dyn i hi (h1 ▸ hk)
/-- a cell of the class -/
def CF (T : gSh) (ca : Nat → Nat) (x : Nat) : Prop := (∃ i, i < 30 ∧ x = ca i) ∨ dyn (T.2.1 x)
/-- nothing but cells of the class has changed -/
def FrC (T T' : gSh) (I I' : gI) (J J' : gJ) (R R' : gR) (ca : Nat → Nat) : Prop := GrT T T' ∧ ∀ x, x ∈ T.1 → ¬ CF T ca x → I' x = I x ∧ J' x = J x ∧ R' x = R x
theorem FrC.rf (T : gSh) (I : gI) (J : gJ) (R : gR) (ca : Nat → Nat) : FrC T T I I J J R R ca := ⟨GrT.rf T, fun _ _ _ => ⟨rfl, rfl, rfl⟩⟩
theorem FrC.tr {T T1 T2 : gSh} {I I1 I2 : gI} {J J1 J2 : gJ} {R R1 R2 : gR} {ca : Nat → Nat} (h : FrC T T1 I I1 J J1 R R1 ca) (g : FrC T1 T2 I1 I2 J1 J2 R1 R2 ca) : FrC T T2 I I2 J J2 R R2 ca := by
  refine ⟨h.1.tr g.1, fun x hx hn => ?_⟩
  have h1 := h.2 x hx hn
  have hn2 : ¬ CF T1 ca x := by
    intro z
    apply hn
    rcases z with z | z
    · exact Or.inl z
    · rw [(h.1 x hx).2.1] at z; exact Or.inr z
  have h2 := g.2 x (h.1 x hx).1 hn2
  exact ⟨h2.1.trans h1.1, h2.2.1.trans h1.2.1, h2.2.2.trans h1.2.2⟩
section FrCs
variable {T T1 : gSh} {I I1 : gI} {J J1 : gJ} {R R1 : gR} {ca : Nat → Nat}
theorem FrC.pI (h : FrC T T1 I I1 J J1 R R1 ca) {i : Nat} (hi : i < 30) (k : Nat) (v : Int32) : FrC T T1 I (u2 I1 (ca i) k v) J J1 R R1 ca :=
  ⟨h.1, fun x hx hn => ⟨by rw [u2_rown _ _ _ _ (fun e => hn (Or.inl ⟨i, hi, e⟩))]; exact (h.2 x hx hn).1, (h.2 x hx hn).2⟩⟩
theorem FrC.pJ (h : FrC T T1 I I1 J J1 R R1 ca) {i : Nat} (hi : i < 30) (k : Nat) (v : Int64) : FrC T T1 I I1 J (u2 J1 (ca i) k v) R R1 ca :=
  ⟨h.1, fun x hx hn => ⟨(h.2 x hx hn).1, by rw [u2_rown _ _ _ _ (fun e => hn (Or.inl ⟨i, hi, e⟩))]; exact (h.2 x hx hn).2.1, (h.2 x hx hn).2.2⟩⟩
theorem FrC.pR (h : FrC T T1 I I1 J J1 R R1 ca) {i : Nat} (hi : i < 30) (k : Nat) (v : Option Nat) : FrC T T1 I I1 J J1 R (u2 R1 (ca i) k v) ca :=
  ⟨h.1, fun x hx hn => ⟨(h.2 x hx hn).1, (h.2 x hx hn).2.1, by rw [u2_rown _ _ _ _ (fun e => hn (Or.inl ⟨i, hi, e⟩))]; exact (h.2 x hx hn).2.2⟩⟩
/-- a number of a cell that the class made -/
theorem FrC.dI (h : FrC T T1 I I1 J J1 R R1 ca) {y c : Nat} (hy : OB T1 y c) (hc : dyn c) (k : Nat) (v : Int32) : FrC T T1 I (u2 I1 y k v) J J1 R R1 ca :=
  ⟨h.1, fun x hx hn => ⟨by rw [u2_rown _ _ _ _ (fun e => hn (Or.inr (by rw [← (h.1 x hx).2.1, e, hy.2]; exact hc)))]; exact (h.2 x hx hn).1, (h.2 x hx hn).2⟩⟩
theorem FrC.vI (h : FrC T T1 I I1 J J1 R R1 ca) {i : Nat} (hi : i < 30) (f : Nat → Int32) : FrC T T1 I (va_up I1 (ca i) f) J J1 R R1 ca :=
  ⟨h.1, fun x hx hn => ⟨by rw [vu_n _ _ (fun e => hn (Or.inl ⟨i, hi, e⟩))]; exact (h.2 x hx hn).1, (h.2 x hx hn).2⟩⟩
theorem FrC.vJ (h : FrC T T1 I I1 J J1 R R1 ca) {i : Nat} (hi : i < 30) (f : Nat → Int64) : FrC T T1 I I1 J (va_up J1 (ca i) f) R R1 ca :=
  ⟨h.1, fun x hx hn => ⟨(h.2 x hx hn).1, by rw [vu_n _ _ (fun e => hn (Or.inl ⟨i, hi, e⟩))]; exact (h.2 x hx hn).2.1, (h.2 x hx hn).2.2⟩⟩
end FrCs
/-- the cells of the list alone have changed -/
def ExL (T T' : gSh) (I I' : gI) (J J' : gJ) (R R' : gR) (ca : Nat → Nat) (L : List Nat) : Prop := GrT T T' ∧ (∀ i ∈ L, i < 30) ∧ ∀ x, x ∈ T.1 → (∀ i ∈ L, x ≠ ca i) → I' x = I x ∧ J' x = J x ∧ R' x = R x
theorem ExL.frc {T T' : gSh} {I I' : gI} {J J' : gJ} {R R' : gR} {ca : Nat → Nat} {L : List Nat} (h : ExL T T' I I' J J' R R' ca L) : FrC T T' I I' J J' R R' ca :=
  ⟨h.1, fun x hx hn => h.2.2 x hx (fun i hi e => hn (Or.inl ⟨i, h.2.1 i hi, e⟩))⟩
theorem ExL.at {T T' : gSh} {I I' : gI} {J J' : gJ} {R R' : gR} {ca : Nat → Nat} {L : List Nat} (h : ExL T T' I I' J J' R R' ca L) (hC : CO T R ca) {i : Nat} (hi : i < 30) (hL : ∀ j ∈ L, j ≠ i) : I' (ca i) = I (ca i) ∧ J' (ca i) = J (ca i) ∧ R' (ca i) = R (ca i) :=
  h.2.2 _ (hC.1 i hi).1 (fun j hj e => hL j hj (hC.2.2 i j hi (h.2.1 j hj) e).symm)
theorem ExL.dy {T T' : gSh} {I I' : gI} {J J' : gJ} {R R' : gR} {ca : Nat → Nat} {L : List Nat} (h : ExL T T' I I' J J' R R' ca L) (hC : CO T R ca) {x k : Nat} (hx : OB T x k) (hk : dyn k) : I' x = I x ∧ J' x = J x ∧ R' x = R x :=
  h.2.2 _ hx.1 (fun j hj => hC.nd hx hk (h.2.1 j hj))
/-! ===== trays ===== -/
def KT (I : gI) (J : gJ) (ca : Nat → Nat) (a : gI) (n : gJ) : Prop := ∀ t, t < 4 → (I (ca (5 + t)) 0 = 1 ∧ a 5 t = -1) ∨ (I (ca (5 + t)) 0 = 0 ∧ ∃ c s : Nat, c ≤ 40 ∧ s < 4 ∧ a 5 t = nI c ∧ I (ca (5 + t)) 2 = nI c ∧ a 4 t = nI s ∧ I (ca (5 + t)) 1 = nI s ∧ ∀ j, j < c → J (ca (9 + t)) j = n 6 (40 * t + j))
/-! ===== meetings ===== -/
def KN (I : gI) (ca : Nat → Nat) (a : gI) : Prop := ∃ (A B h : Nat) (w : Nat → Nat), KM I ca A B h w ∧ a 0 7 = nI A ∧ a 0 8 = nI B ∧ a 0 9 = nI h ∧ (∀ p, p < 80 → a 10 p = nI (w p)) ∧ (∀ p, p < 80 → ¬ (p / 10 < A ∧ p % 10 < B) → w p = 0)
/-! ===== books, grants, options ===== -/
def KB (I : gI) (ca : Nat → Nat) (a : gI) : Prop := ∃ b : Nat, b ≤ 12 ∧ I (ca 3) 0 = nI b ∧ a 0 21 = nI b ∧ (∀ j, j < 12 → I (ca 25) j = a 26 j ∧ (a 26 j = 0 ∨ a 26 j = 1)) ∧ (∀ j, j < 120 → I (ca 26) j = a 27 j ∧ (a 27 j = 0 ∨ a 27 j = 1))
/-- rights that can be: lands, tongues, forms, from, to -/
def vR (v : Nat → Int32) : Prop := (1 ≤ (v 0).toInt ∧ (v 0).toInt ≤ 255) ∧ (1 ≤ (v 1).toInt ∧ (v 1).toInt ≤ 15) ∧ (1 ≤ (v 2).toInt ∧ (v 2).toInt ≤ 15) ∧ (0 ≤ (v 3).toInt ∧ (v 3).toInt ≤ 9999) ∧ (0 ≤ (v 4).toInt ∧ (v 4).toInt ≤ 9999) ∧ (v 3).toInt ≤ (v 4).toInt
/-- rights in the class's heap -/
def RI (T : gSh) (I : gI) (r : Nat) (v : Nat → Int32) : Prop := OB T r 8 ∧ ∀ k, k < 5 → I r k = v k
/-- the rights of the grant i, of the offer i -/
def gv (a : gI) (i : Nat) : Nat → Int32 := fun k => a (30 + k) i
def ov (a : gI) (i : Nat) : Nat → Int32 := fun k => a (42 + k) i
/-- the last day of the grant i -/
def lastI (a : gI) (i : Nat) : Int := if (a 35 i).toInt < 0 then (a 34 i).toInt else if (a 35 i).toInt - 1 < (a 34 i).toInt then (a 35 i).toInt - 1 else (a 34 i).toInt
/-- the grant i is of the book b, and has a cell and a day of the rights v -/
def hit (a : gI) (b : Int32) (v : Nat → Int32) (i : Nat) : Prop := a 28 i = b ∧ (a 30 i &&& v 0 ≠ 0) ∧ (a 31 i &&& v 1 ≠ 0) ∧ (a 32 i &&& v 2 ≠ 0) ∧ (v 3).toInt ≤ (v 4).toInt ∧ (v 3).toInt ≤ lastI a i ∧ (a 33 i).toInt ≤ (v 4).toInt ∧ (a 33 i).toInt ≤ lastI a i
/-- 0 for such a grant -/
def hitN (a : gI) (b : Int32) (v : Nat → Int32) (i : Nat) : Nat := if a 28 i = b ∧ (a 30 i &&& v 0 ≠ 0) ∧ (a 31 i &&& v 1 ≠ 0) ∧ (a 32 i &&& v 2 ≠ 0) ∧ (v 3).toInt ≤ (v 4).toInt ∧ (v 3).toInt ≤ lastI a i ∧ (a 33 i).toInt ≤ (v 4).toInt ∧ (a 33 i).toInt ≤ lastI a i then 0 else 1
theorem hitN_0 {a : gI} {b : Int32} {v : Nat → Int32} {i : Nat} : hitN a b v i = 0 ↔ hit a b v i := by
  unfold hitN hit
  by_cases h : a 28 i = b ∧ (a 30 i &&& v 0 ≠ 0) ∧ (a 31 i &&& v 1 ≠ 0) ∧ (a 32 i &&& v 2 ≠ 0) ∧ (v 3).toInt ≤ (v 4).toInt ∧ (v 3).toInt ≤ lastI a i ∧ (a 33 i).toInt ≤ (v 4).toInt ∧ (a 33 i).toInt ≤ lastI a i
  · rw [if_pos h]; exact ⟨fun _ => h, fun _ => rfl⟩
  · rw [if_neg h]; exact ⟨fun e => absurd e (by decide), fun e => absurd e h⟩
/-- the first grant that clashes; the number of grants if none does -/
def own (a : gI) (g : Nat) (b : Int32) (v : Nat → Int32) : Nat := ff (hitN a b v) g
def KG (T : gSh) (I : gI) (R : gR) (ca : Nat → Nat) (a : gI) : Prop := ∃ g : Nat, g ≤ 60 ∧ I (ca 3) 3 = nI g ∧ a 0 22 = nI g ∧ ∃ ga ra : Nat → Nat,
  (∀ i, i < g → R (ca 27) i = some (ga i) ∧ OB T (ga i) 3 ∧ R (ga i) 2 = some (ra i) ∧ RI T I (ra i) (gv a i) ∧ vR (gv a i) ∧ I (ga i) 0 = a 28 i ∧ I (ga i) 1 = a 29 i ∧ 0 ≤ (a 29 i).toInt ∧ (((a 35 i).toInt = -1 ∧ I (ga i) 3 = 0) ∨ ((0 ≤ (a 35 i).toInt ∧ (a 35 i).toInt ≤ 9999) ∧ I (ga i) 3 = 1)) ∧ (I (ga i) 4).toInt = lastI a i) ∧ (∀ i j, i < g → j < g → ga i = ga j → i = j) ∧
  (∀ i j, i < j → j < g → ¬ (a 28 i = a 28 j ∧ (a 30 i &&& a 30 j ≠ 0) ∧ (a 31 i &&& a 31 j ≠ 0) ∧ (a 32 i &&& a 32 j ≠ 0) ∧ (a 33 j).toInt ≤ lastI a i ∧ (a 33 i).toInt ≤ lastI a j ∧ (a 33 i).toInt ≤ lastI a i ∧ (a 33 j).toInt ≤ lastI a j))
/-- 0 for an option that bars -/
def barN (a : gI) (b e mi : Int32) (i : Nat) : Nat := if a 36 i = b ∧ a 37 i ≠ e ∧ (a 38 i).toInt ≤ mi.toInt ∧ mi.toInt ≤ (a 39 i).toInt then 0 else 1
def KO (T : gSh) (I : gI) (R : gR) (ca : Nat → Nat) (a : gI) : Prop := ∃ o : Nat, o ≤ 30 ∧ I (ca 3) 5 = nI o ∧ a 0 23 = nI o ∧ ∃ oa : Nat → Nat, ∀ i, i < o → R (ca 28) i = some (oa i) ∧ OB T (oa i) 7 ∧ ∀ k, k < 4 → I (oa i) k = a (36 + k) i
/-! ===== offers ===== -/
def KF (T : gSh) (I : gI) (R : gR) (ca : Nat → Nat) (a : gI) : Prop := ∃ c : Nat, c ≤ 60 ∧ I (ca 4) 1 = nI c ∧ a 0 24 = nI c ∧ I (ca 4) 0 = a 0 25 ∧ ∃ fa rb : Nat → Nat,
  (∀ i, i < c → R (ca 29) i = some (fa i) ∧ OB T (fa i) 5 ∧ R (fa i) 2 = some (rb i) ∧ RI T I (rb i) (ov a i) ∧ vR (ov a i) ∧ I (fa i) 0 = a 40 i ∧ I (fa i) 1 = a 41 i ∧ (∃ x : Nat, x < 12 ∧ a 40 i = nI x) ∧ (∃ y : Nat, y < 10 ∧ a 41 i = nI y) ∧ I (fa i) 3 = a 47 i ∧ I (fa i) 4 = a 48 i) ∧ (∀ i j, i < c → j < c → fa i = fa j → i = j)
/-! ===== the latest auction ===== -/
def KS (T : gSh) (I : gI) (R : gR) (ca : Nat → Nat) (a : gI) : Prop := (R (ca 0) 4 = none ∧ a 0 49 = 0) ∨ (a 0 49 = 1 ∧ ∃ u : Nat, R (ca 0) 4 = some u ∧ OB T u 0 ∧ I u 4 = a 0 51 ∧ I u 6 = a 0 52 ∧ I u 7 = a 0 50 ∧ (a 0 50 = 0 ∨ a 0 50 = 1))
/-- all of it -/
def KA (T : gSh) (I : gI) (J : gJ) (R : gR) (ca : Nat → Nat) (a : gI) (n : gJ) : Prop := CO T R ca ∧ I (ca 0) 5 = a 0 0 ∧ (J (ca 0) 6 = n 0 2 ∧ J (ca 0) 7 = n 0 3) ∧ KT I J ca a n ∧ KN I ca a ∧ KB I ca a ∧ KG T I R ca a ∧ KO T I R ca a ∧ KF T I R ca a ∧ KS T I R ca a
/-- the reference's side -/
def mR (k : Nat) : Prop := k = 4 ∨ k = 5 ∨ k = 10 ∨ (26 ≤ k ∧ k ≤ 48)
def MA (I : gI) (J : gJ) (m : Nat) (ad : Nat → Nat) (a : gI) (n : gJ) : Prop := (∀ k, k ≠ 1 → I m k = a 0 k) ∧ (∀ k, mR k → I (ad k) = a k) ∧ J m = n 0 ∧ J (ad 6) = n 6
/-- a cell of the reference -/
def MF (m : Nat) (ad : Nat → Nat) (x : Nat) : Prop := x = m ∨ ∃ k, mA k = true ∧ x = ad k
def FrM (I I' : gI) (J J' : gJ) (m : Nat) (ad : Nat → Nat) : Prop := ∀ x, ¬ MF m ad x → I' x = I x ∧ J' x = J x
/-! ===== what doesn't touch a module leaves it ===== -/
section Exs
variable {T T' : gSh} {I I' : gI} {J J' : gJ} {R R' : gR} {ca : Nat → Nat} {L : List Nat} {a a' : gI} {n n' : gJ}
theorem CO.ex (hC : CO T R ca) (h : ExL T T' I I' J J' R R' ca L) (hL : ∀ j ∈ L, R' (ca j) = R (ca j)) : CO T' R' ca := by
  refine ⟨fun i hi => ⟨(h.1 _ (hC.1 i hi).1).1, (h.1 _ (hC.1 i hi).1).2.1.trans (hC.1 i hi).2.1, (h.1 _ (hC.1 i hi).1).2.2.trans (hC.1 i hi).2.2⟩, fun x hx => ?_, hC.2.2⟩
  have h30 : x.1 < 30 := by
    have : ∀ x ∈ cRf, x.1 < 30 := by decide
    exact this x hx
  have hr : R' (ca x.1) = R (ca x.1) := by
    by_cases z : x.1 ∈ L
    · exact hL _ z
    · exact (h.at hC h30 (fun j hj e => z (e ▸ hj))).2.2
  rw [hr]; exact hC.2.1 x hx
theorem KT.ex (k : KT I J ca a n) (hC : CO T R ca) (h : ExL T T' I I' J J' R R' ca L) (hL : ∀ j ∈ L, j < 5 ∨ 13 ≤ j) (h4 : a' 4 = a 4) (h5 : a' 5 = a 5) (h6 : n' 6 = n 6) : KT I' J' ca a' n' := by
  intro t ht
  rw [h4, h5, h6, (h.at hC (i := 5 + t) (by omega) (fun j hj e => by have := hL j hj; omega)).1, (h.at hC (i := 9 + t) (by omega) (fun j hj e => by have := hL j hj; omega)).2.1]
  exact k t ht
theorem KN.ex (k : KN I ca a) (hC : CO T R ca) (h : ExL T T' I I' J J' R R' ca L) (hL : ∀ j ∈ L, j ≠ 2 ∧ (j < 13 ∨ 24 < j)) (h0 : ∀ i, 7 ≤ i → i ≤ 9 → a' 0 i = a 0 i) (h10 : a' 10 = a 10) : KN I' ca a' := by
  have q : ∀ i, i = 2 ∨ (13 ≤ i ∧ i ≤ 24) → I' (ca i) = I (ca i) := fun i hi => (h.at hC (i := i) (by omega) (fun j hj e => by have := hL j hj; omega)).1
  obtain ⟨A, B, hh, w, k1, k2, k3, k4, k5, k6⟩ := k
  refine ⟨A, B, hh, w, ?_, by rw [h0 7 (by omega) (by omega)]; exact k2, by rw [h0 8 (by omega) (by omega)]; exact k3, by rw [h0 9 (by omega) (by omega)]; exact k4, by rw [h10]; exact k5, k6⟩
  unfold KM BS TT at k1 ⊢
  rw [q 2 (by omega), q 13 (by omega), q 22 (by omega), q 14 (by omega), q 17 (by omega), q 16 (by omega), q 18 (by omega), q 15 (by omega), q 23 (by omega), q 24 (by omega)]
  exact k1
theorem KB.ex (k : KB I ca a) (hC : CO T R ca) (h : ExL T T' I I' J J' R R' ca L) (hL : ∀ j ∈ L, j ≠ 25 ∧ j ≠ 26) (h3 : I' (ca 3) 0 = I (ca 3) 0) (h0 : a' 0 21 = a 0 21) (h26 : a' 26 = a 26) (h27 : a' 27 = a 27) : KB I' ca a' := by
  obtain ⟨b, k1, k2, k3, k4, k5⟩ := k
  refine ⟨b, k1, by rw [h3]; exact k2, by rw [h0]; exact k3, ?_, ?_⟩
  · rw [h26, (h.at hC (i := 25) (by omega) (fun j hj => (hL j hj).1)).1]; exact k4
  · rw [h27, (h.at hC (i := 26) (by omega) (fun j hj => (hL j hj).2)).1]; exact k5
theorem KG.ex (k : KG T I R ca a) (hC : CO T R ca) (h : ExL T T' I I' J J' R R' ca L) (hL : ∀ j ∈ L, j ≠ 27) (h3 : I' (ca 3) 3 = I (ca 3) 3) (h0 : a' 0 22 = a 0 22) (hr : ∀ r, 28 ≤ r → r ≤ 35 → a' r = a r) : KG T' I' R' ca a' := by
  obtain ⟨g, k1, k2, k3, ga, ra, k4, k5, k6⟩ := k
  have hv : ∀ i, gv a' i = gv a i ∨ True := fun _ => Or.inr trivial
  have e28 := hr 28 (by omega) (by omega)
  have e29 := hr 29 (by omega) (by omega)
  have e30 := hr 30 (by omega) (by omega)
  have e31 := hr 31 (by omega) (by omega)
  have e32 := hr 32 (by omega) (by omega)
  have e33 := hr 33 (by omega) (by omega)
  have e34 := hr 34 (by omega) (by omega)
  have e35 := hr 35 (by omega) (by omega)
  have el : ∀ i, lastI a' i = lastI a i := fun i => by unfold lastI; rw [e34, e35]
  refine ⟨g, k1, by rw [h3]; exact k2, by rw [h0]; exact k3, ga, ra, fun i hi => ?_, k5, fun i j hij hj => ?_⟩
  · obtain ⟨p1, p2, p3, p4, p5, p6, p7, p8, p9, p10⟩ := k4 i hi
    have d1 := h.dy hC p2 (by unfold dyn; omega)
    have d2 := h.dy hC p4.1 (by unfold dyn; omega)
    have ev : ∀ k, k < 5 → gv a' i k = gv a i k := fun k hk => by unfold gv; rw [hr (30 + k) (by omega) (by omega)]
    refine ⟨by rw [(h.at hC (i := 27) (by omega) hL).2.2]; exact p1, p2.gr h.1, by rw [d1.2.2]; exact p3, ⟨p4.1.gr h.1, fun k hk => by rw [d2.1, ev k hk]; exact p4.2 k hk⟩, ?_, by rw [d1.1, e28]; exact p6, by rw [d1.1, e29]; exact p7, by rw [e29]; exact p8, by rw [d1.1, e35]; exact p9, by rw [d1.1, el]; exact p10⟩
    unfold vR at p5 ⊢
    rw [ev 0 (by omega), ev 1 (by omega), ev 2 (by omega), ev 3 (by omega), ev 4 (by omega)]
    exact p5
  · rw [e28, e30, e31, e32, e33, el, el]; exact k6 i j hij hj
theorem KO.ex (k : KO T I R ca a) (hC : CO T R ca) (h : ExL T T' I I' J J' R R' ca L) (hL : ∀ j ∈ L, j ≠ 28) (h3 : I' (ca 3) 5 = I (ca 3) 5) (h0 : a' 0 23 = a 0 23) (hr : ∀ r, 36 ≤ r → r ≤ 39 → a' r = a r) : KO T' I' R' ca a' := by
  obtain ⟨o, k1, k2, k3, oa, k4⟩ := k
  refine ⟨o, k1, by rw [h3]; exact k2, by rw [h0]; exact k3, oa, fun i hi => ?_⟩
  obtain ⟨p1, p2, p3⟩ := k4 i hi
  have d1 := h.dy hC p2 (by unfold dyn; omega)
  exact ⟨by rw [(h.at hC (i := 28) (by omega) hL).2.2]; exact p1, p2.gr h.1, fun k hk => by rw [d1.1, hr (36 + k) (by omega) (by omega)]; exact p3 k hk⟩
theorem KF.ex (k : KF T I R ca a) (hC : CO T R ca) (h : ExL T T' I I' J J' R R' ca L) (hL : ∀ j ∈ L, j ≠ 29 ∧ j ≠ 4) (h0 : a' 0 24 = a 0 24) (h1 : a' 0 25 = a 0 25) (hr : ∀ r, 40 ≤ r → r ≤ 48 → a' r = a r) : KF T' I' R' ca a' := by
  obtain ⟨c, k1, k2, k3, k4, fa, rb, k5, k6⟩ := k
  have f4 := (h.at hC (i := 4) (by omega) (fun j hj => (hL j hj).2)).1
  refine ⟨c, k1, by rw [f4]; exact k2, by rw [h0]; exact k3, by rw [f4, h1]; exact k4, fa, rb, fun i hi => ?_, k6⟩
  obtain ⟨p1, p2, p3, p4, p5, p6, p7, p8, p9, p10, p11⟩ := k5 i hi
  have d1 := h.dy hC p2 (by unfold dyn; omega)
  have d2 := h.dy hC p4.1 (by unfold dyn; omega)
  have ev : ∀ k, k < 5 → ov a' i k = ov a i k := fun k hk => by unfold ov; rw [hr (42 + k) (by omega) (by omega)]
  refine ⟨by rw [(h.at hC (i := 29) (by omega) (fun j hj => (hL j hj).1)).2.2]; exact p1, p2.gr h.1, by rw [d1.2.2]; exact p3, ⟨p4.1.gr h.1, fun k hk => by rw [d2.1, ev k hk]; exact p4.2 k hk⟩, ?_, by rw [d1.1, hr 40 (by omega) (by omega)]; exact p6, by rw [d1.1, hr 41 (by omega) (by omega)]; exact p7, by rw [hr 40 (by omega) (by omega)]; exact p8, by rw [hr 41 (by omega) (by omega)]; exact p9, by rw [d1.1, hr 47 (by omega) (by omega)]; exact p10, by rw [d1.1, hr 48 (by omega) (by omega)]; exact p11⟩
  unfold vR at p5 ⊢
  rw [ev 0 (by omega), ev 1 (by omega), ev 2 (by omega), ev 3 (by omega), ev 4 (by omega)]
  exact p5
theorem KS.ex (k : KS T I R ca a) (hC : CO T R ca) (h : ExL T T' I I' J J' R R' ca L) (hr : R' (ca 0) 4 = R (ca 0) 4) (h0 : ∀ i, 49 ≤ i → i ≤ 52 → a' 0 i = a 0 i) : KS T' I' R' ca a' := by
  unfold KS at k ⊢
  rw [hr, h0 49 (by omega) (by omega), h0 50 (by omega) (by omega), h0 51 (by omega) (by omega), h0 52 (by omega) (by omega)]
  rcases k with k | ⟨k1, u, k2, k3, k4, k5, k6, k7⟩
  · exact Or.inl k
  · have d := h.dy hC k3 (by unfold dyn; omega)
    exact Or.inr ⟨k1, u, k2, k3.gr h.1, by rw [d.1]; exact k4, by rw [d.1]; exact k5, by rw [d.1]; exact k6, k7⟩
end Exs
/-- only the status -/
theorem ExL.st {T : gSh} {I : gI} {J : gJ} {R : gR} {ca : Nat → Nat} (v : Int32) : ExL T T I (u2 I (ca 0) 5 v) J J R R ca [0] :=
  ⟨GrT.rf T, by decide, fun x _ hn => ⟨u2_rown _ _ _ _ (hn 0 (by decide)), rfl, rfl⟩⟩
theorem KA.st {T : gSh} {I : gI} {J : gJ} {R : gR} {ca : Nat → Nat} {a : gI} {n : gJ} (k : KA T I J R ca a n) (v : Int32) : KA T (u2 I (ca 0) 5 v) J R ca (u2 a 0 0 v) n := by
  obtain ⟨hC, k0, k1, k2, k3, k4, k5, k6, k7, k8⟩ := k
  have h := ExL.st (T := T) (I := I) (J := J) (R := R) (ca := ca) v
  have e3 : (u2 I (ca 0) 5 v) (ca 3) = I (ca 3) := u2_rown _ _ _ _ (hC.ne 3 0 (by decide) (by decide) (by decide))
  have ra : ∀ r, r ≠ 0 → u2 a 0 0 v r = a r := fun r hr => u2_rown _ _ _ _ hr
  have r0 : ∀ i, i ≠ 0 → u2 a 0 0 v 0 i = a 0 i := fun i hi => u2_k _ _ _ _ hi _
  refine ⟨hC, by rw [u2_s, u2_s], k1, k2.ex hC h (by decide) (ra 4 (by decide)) (ra 5 (by decide)) rfl, k3.ex hC h (by decide) (fun i h1 h2 => r0 i (by omega)) (ra 10 (by decide)), k4.ex hC h (by decide) (by rw [e3]) (r0 21 (by decide)) (ra 26 (by decide)) (ra 27 (by decide)), k5.ex hC h (by decide) (by rw [e3]) (r0 22 (by decide)) (fun r h1 h2 => ra r (by omega)), k6.ex hC h (by decide) (by rw [e3]) (r0 23 (by decide)) (fun r h1 h2 => ra r (by omega)), k7.ex hC h (by decide) (r0 24 (by decide)) (r0 25 (by decide)) (fun r h1 h2 => ra r (by omega)), k8.ex hC h rfl (fun i h1 h2 => r0 i (by omega))⟩
/-! ===== ends of the calls ===== -/
/-- of a call of the class -/
def PQ (T : gSh) (I : gI) (J : gJ) (R : gR) (ca : Nat → Nat) (v : Value) (a : gI) (n : gJ) : gPost := fun r T' I' J' R' => r = some v ∧ FrC T T' I I' J J' R R' ca ∧ KA T' I' J' R' ca a n
/-- of a call of the reference -/
def MX (I I' : gI) (J J' : gJ) (m : Nat) (ad : Nat → Nat) (a : gI) (n : gJ) : Prop := FrM I I' J J' m ad ∧ MA I' J' m ad a n
def PZ (T : gSh) (I : gI) (J : gJ) (R : gR) (m : Nat) (ad : Nat → Nat) (v : Value) (a : gI) (n : gJ) : gPost := fun r T' I' J' R' => r = some v ∧ T = T' ∧ R = R' ∧ MX I I' J J' m ad a n
theorem mR_A {k : Nat} (h : mR k) : mA k = true := by
  have : ∀ k, k < 54 → (k = 4 ∨ k = 5 ∨ k = 10 ∨ (26 ≤ k ∧ k ≤ 48)) → mA k = true := by decide
  exact this k (by unfold mR at h; omega) h
theorem u2_u2 {α : Type} (f : Nat → Nat → α) (a k : Nat) (v w : α) : u2 (u2 f a k v) a k w = u2 f a k w := by
  funext b j
  unfold u2
  by_cases h : b = a
  · by_cases h2 : j = k
    · simp [h, h2]
    · simp [h, h2]
  · simp [h]
section MXs
variable {T : gSh} {I I' : gI} {J J' : gJ} {R : gR} {m : Nat} {ad : Nat → Nat} {a : gI} {n : gJ}
theorem MX.i (h : MA I J m ad a n) : MX I I J J m ad a n := ⟨fun _ _ => ⟨rfl, rfl⟩, h⟩
theorem MX.t (h : MX I I' J J' m ad a n) (hM : MO T R m ad) (v : Int32) : MX I (u2 I' m 1 v) J J' m ad a n := by
  refine ⟨fun x hx => ⟨by rw [u2_rown _ _ _ _ (fun e => hx (Or.inl e))]; exact (h.1 x hx).1, (h.1 x hx).2⟩, fun k hk => by rw [u2_k _ _ _ _ hk]; exact h.2.1 k hk, fun k hk => by rw [u2_rown _ _ _ _ (hM.nm k (mR_A hk))]; exact h.2.2.1 k hk, h.2.2.2⟩
theorem MX.f (h : MX I I' J J' m ad a n) (hM : MO T R m ad) (k : Nat) (v : Int32) : MX I (u2 I' m k v) J J' m ad (u2 a 0 k v) n := by
  refine ⟨fun x hx => ⟨by rw [u2_rown _ _ _ _ (fun e => hx (Or.inl e))]; exact (h.1 x hx).1, (h.1 x hx).2⟩, fun j hj => ?_, fun j hj => ?_, h.2.2.2⟩
  · by_cases e : j = k
    · subst e; rw [u2_s, u2_s]
    · rw [u2_k _ _ _ _ e, u2_k _ _ _ _ e]; exact h.2.1 j hj
  · rw [u2_rown _ _ _ _ (hM.nm j (mR_A hj)), u2_rown _ _ _ _ (by unfold mR at hj; omega)]; exact h.2.2.1 j hj
theorem MX.r (h : MX I I' J J' m ad a n) (hM : MO T R m ad) (k : Nat) (hk : mR k) (i : Nat) (v : Int32) : MX I (u2 I' (ad k) i v) J J' m ad (u2 a k i v) n := by
  refine ⟨fun x hx => ⟨by rw [u2_rown _ _ _ _ (fun e => hx (Or.inr ⟨k, mR_A hk, e⟩))]; exact (h.1 x hx).1, (h.1 x hx).2⟩, fun j hj => ?_, fun j hj => ?_, h.2.2.2⟩
  · rw [u2_rown _ _ _ _ (Ne.symm (hM.nm k (mR_A hk))), u2_rown _ _ _ _ (by unfold mR at hk; omega)]; exact h.2.1 j hj
  · by_cases e : j = k
    · subst e; rw [u2_row, u2_row, h.2.2.1 j hj]
    · rw [u2_rown _ _ _ _ (hM.ne j k (mR_A hj) (mR_A hk) e), u2_rown _ _ _ _ e]; exact h.2.2.1 j hj
theorem MX.x (h : MX I I' J J' m ad a n) (hM : MO T R m ad) (k : Nat) (hk : mA k = true) (hn : ¬ mR k) (i : Nat) (v : Int32) : MX I (u2 I' (ad k) i v) J J' m ad a n := by
  refine ⟨fun x hx => ⟨by rw [u2_rown _ _ _ _ (fun e => hx (Or.inr ⟨k, hk, e⟩))]; exact (h.1 x hx).1, (h.1 x hx).2⟩, fun j hj => ?_, fun j hj => ?_, h.2.2.2⟩
  · rw [u2_rown _ _ _ _ (Ne.symm (hM.nm k hk))]; exact h.2.1 j hj
  · rw [u2_rown _ _ _ _ (hM.ne j k (mR_A hj) hk (fun e => hn (e ▸ hj)))]; exact h.2.2.1 j hj
theorem MX.q (h : MX I I' J J' m ad a n) (hM : MO T R m ad) (k : Nat) (v : Int64) : MX I I' J (u2 J' m k v) m ad a (u2 n 0 k v) := by
  refine ⟨fun x hx => ⟨(h.1 x hx).1, by rw [u2_rown _ _ _ _ (fun e => hx (Or.inl e))]; exact (h.1 x hx).2⟩, h.2.1, h.2.2.1, by rw [u2_row, u2_row, h.2.2.2.1], ?_⟩
  rw [u2_rown _ _ _ _ (hM.nm 6 rfl), u2_rown _ _ _ _ (by decide)]; exact h.2.2.2.2
theorem MX.nu (h : MX I I' J J' m ad a n) (hM : MO T R m ad) (k : Nat) (v : Int64) : MX I I' J (u2 J' (ad 6) k v) m ad a (u2 n 6 k v) := by
  refine ⟨fun x hx => ⟨(h.1 x hx).1, by rw [u2_rown _ _ _ _ (fun e => hx (Or.inr ⟨6, rfl, e⟩))]; exact (h.1 x hx).2⟩, h.2.1, h.2.2.1, ?_, by rw [u2_row, u2_row, h.2.2.2.2]⟩
  rw [u2_rown _ _ _ _ (Ne.symm (hM.nm 6 rfl)), u2_rown _ _ _ _ (by decide)]; exact h.2.2.2.1
theorem MX.nv (h : MX I I' J J' m ad a n) (hM : MO T R m ad) {f : Nat → Int64} : MX I I' J (va_up J' (ad 6) f) m ad a (va_up n 6 f) := by
  refine ⟨fun x hx => ⟨(h.1 x hx).1, by rw [vu_n _ _ (fun e => hx (Or.inr ⟨6, rfl, e⟩))]; exact (h.1 x hx).2⟩, h.2.1, h.2.2.1, ?_, by rw [vu_s, vu_s]⟩
  rw [vu_n _ _ (Ne.symm (hM.nm 6 rfl)), vu_n _ _ (by decide)]; exact h.2.2.2.1
/-- the reference refuses: its status alone is told -/
theorem MX.no (h : MA I J m ad a n) (hM : MO T R m ad) (v : Int32) : MX I (u2 (u2 (u2 I m 1 0) m 0 0) m 0 v) J J m ad (u2 a 0 0 v) n := by
  have := (((MX.i h).t hM 0).f hM 0 0).f hM 0 v
  rw [u2_u2 a] at this
  exact this
end MXs
theorem i64_le (x y : Int64) : x ≤ y ↔ x.toInt ≤ y.toInt := Int64.le_iff_toInt_le
theorem lc_s (x y : Int64) : ((lg_cmp x y).toInt = 1 ∧ y.toInt < x.toInt) ∨ ((lg_cmp x y).toInt = 0 ∧ x.toInt = y.toInt) ∨ ((lg_cmp x y).toInt = -1 ∧ x.toInt < y.toInt) := by
  unfold lg_cmp
  simp only [gt_iff_lt, Int64.lt_iff_toInt_lt, ← Int64.toInt_inj]
  by_cases h1 : y.toInt < x.toInt
  · rw [if_pos h1]; exact Or.inl ⟨rfl, h1⟩
  · rw [if_neg h1]
    by_cases h2 : x.toInt = y.toInt
    · rw [if_pos h2]; exact Or.inr (Or.inl ⟨rfl, h2⟩)
    · rw [if_neg h2]; exact Or.inr (Or.inr ⟨rfl, by omega⟩)
theorem i2l_T (x : Int32) : x.toInt64.toInt = x.toInt := Int32.toInt_toInt64 x
theorem l_add {x y : Int64} (h1 : -(2 ^ 40) ≤ x.toInt ∧ x.toInt ≤ 2 ^ 40) (h2 : -(2 ^ 40) ≤ y.toInt ∧ y.toInt ≤ 2 ^ 40) : (x + y).toInt = x.toInt + y.toInt := by
  rw [Int64.toInt_add, Int.bmod_eq_of_le (by omega) (by omega)]
theorem i_bd (x : Int32) : -(2 ^ 31) ≤ x.toInt ∧ x.toInt < 2 ^ 31 := ⟨Int32.le_toInt x, Int32.toInt_lt x⟩
section WPA
variable {E : gEnv} {cc : ByteArray} {own : String} {Ts : List Cond} {nL : Nat} {rm : Room} {cells slots : Nat} {T : gSh} {I : gI} {J : gJ} {R : gR} {pc : Nat} {lv : List (Nat × Value)} {st : List Value}
set_option maxHeartbeats 1000000 in
theorem wp_copyJ (C : Cx E cc own Ts nL rm) {idx x y n0 n1 i j k : Nat} {sp dp n : Int32} (hd : decode cc pc = .ok (.invokestatic idx, 3)) (h1 : Cond.methodLink own idx arraycopyName ∈ Ts) (h2 : Cond.native arraycopyName ∈ Ts) (h3 : Cond.static arraycopyName ∈ Ts) (h4 : Cond.initialized "java/lang/System" ∈ Ts) (hx : AR T x 14 n0) (hy : AR T y 14 n1) (hsp : sp = nI i) (hdp : dp = nI j) (hn : n = nI k) (hi : i + k ≤ n0) (hj : j + k ≤ n1) (h40 : n0 ≤ 1000 ∧ n1 ≤ 1000) (hrs : (st.map fun v => v.category).sum ≤ 8) (hR : 1 ≤ rm.frames ∧ 8 + (nativeFrameWords "java/lang/System" "arraycopy" 5 + 11) ≤ rm.locals)
    (kk : WP E nL cells slots T I (va_up J y (va_cpy (J x) (J y) i j k)) R (pc + 3) lv st) : WP E nL cells slots T I J R pc lv (.int n :: .int dp :: .ref y :: .int sp :: .ref x :: st) := by
  intro H locs ls hP hD hS hl
  have hrm := C.2.2.2.2.2.2.2.2.2
  subst hsp hdp hn
  obtain ⟨q0, hq0⟩ := gW_at (cy := E.2.2.2.1) (I := I) (J := J) (R := R) hx.1
  obtain ⟨q1, hq1⟩ := gW_at (cy := E.2.2.2.1) (I := I) (J := J) (R := R) hy.1
  have ha0 := hq0
  have ha1 := hq1
  rw [gE_J hx.2.1, hx.2.2] at ha0
  rw [gE_J hy.2.1, hy.2.2] at ha1
  have ci := nI_clamp (show i < 2 ^ 31 by omega)
  have cj := nI_clamp (show j < 2 ^ 31 by omega)
  have ck := nI_clamp (show k < 2 ^ 31 by omega)
  have hset : (gW E.2.2.2.1 T I J R).set q1 (y, .inl (E.2.2.2.1 14, n1, .inr (.inl (va_cpy (J x) (J y) (nI i).toNatClampNeg (nI j).toNatClampNeg (nI k).toNatClampNeg)))) = gW E.2.2.2.1 T I (va_up J y (va_cpy (J x) (J y) i j k)) R := by
    refine gW_set hD hy.1 hq1 ?_ (fun b hba => gE_ext rfl (vu_n _ _ hba).symm rfl)
    rw [gE_J hy.2.1, hy.2.2, ci, cj, ck, vu_s]
  refine va_copyl C.1 C.2.1 (C.2.2.1.trans hl.1.symm) C.2.2.2.1 (C.2.2.2.2.1 _ h1) (C.2.2.2.2.1 _ h2) (C.2.2.2.2.1 _ h3) (C.2.2.2.2.1 _ h4) C.2.2.2.2.2.1 hP hD hS q0 q1 1 1 ha0 ha1 rfl rfl rfl (nI_pos (by omega)) (nI_pos (by omega)) (nI_pos (by omega)) (by rw [ci, ck]; exact hi) (by rw [cj, ck]; exact hj) (fun _ _ => rfl) (by rw [hrm]; exact hR.1) (by rw [hrm]; omega) hd (fun H1 locs1 hP1 hD1 hS1 => ?_)
  exact kk H1 locs1 ls (hset ▸ hP1) (hset ▸ hD1) hS1 hl
end WPA
/-! ===== a module changes, the others stay ===== -/
section ExB
variable {T T1 : gSh} {I I1 : gI} {J J1 : gJ} {R R1 : gR} {ca : Nat → Nat} {L : List Nat}
theorem ExL.rf (hL : ∀ i ∈ L, i < 30) : ExL T T I I J J R R ca L := ⟨GrT.rf T, hL, fun _ _ _ => ⟨rfl, rfl, rfl⟩⟩
theorem ExL.pI (h : ExL T T1 I I1 J J1 R R1 ca L) {i : Nat} (hi : i ∈ L) (k : Nat) (v : Int32) : ExL T T1 I (u2 I1 (ca i) k v) J J1 R R1 ca L :=
  ⟨h.1, h.2.1, fun x hx hn => ⟨by rw [u2_rown _ _ _ _ (hn i hi)]; exact (h.2.2 x hx hn).1, (h.2.2 x hx hn).2⟩⟩
theorem ExL.pJ (h : ExL T T1 I I1 J J1 R R1 ca L) {i : Nat} (hi : i ∈ L) (k : Nat) (v : Int64) : ExL T T1 I I1 J (u2 J1 (ca i) k v) R R1 ca L :=
  ⟨h.1, h.2.1, fun x hx hn => ⟨(h.2.2 x hx hn).1, by rw [u2_rown _ _ _ _ (hn i hi)]; exact (h.2.2 x hx hn).2.1, (h.2.2 x hx hn).2.2⟩⟩
theorem ExL.pR (h : ExL T T1 I I1 J J1 R R1 ca L) {i : Nat} (hi : i ∈ L) (k : Nat) (v : Option Nat) : ExL T T1 I I1 J J1 R (u2 R1 (ca i) k v) ca L :=
  ⟨h.1, h.2.1, fun x hx hn => ⟨(h.2.2 x hx hn).1, (h.2.2 x hx hn).2.1, by rw [u2_rown _ _ _ _ (hn i hi)]; exact (h.2.2 x hx hn).2.2⟩⟩
theorem ExL.vJ (h : ExL T T1 I I1 J J1 R R1 ca L) {i : Nat} (hi : i ∈ L) (f : Nat → Int64) : ExL T T1 I I1 J (va_up J1 (ca i) f) R R1 ca L :=
  ⟨h.1, h.2.1, fun x hx hn => ⟨(h.2.2 x hx hn).1, by rw [vu_n _ _ (hn i hi)]; exact (h.2.2 x hx hn).2.1, (h.2.2 x hx hn).2.2⟩⟩
/-- a cell that is not of the old shape -/
theorem ExL.nI (h : ExL T T1 I I1 J J1 R R1 ca L) {q : Nat} (hq : q ∉ T.1) (k : Nat) (v : Int32) : ExL T T1 I (u2 I1 q k v) J J1 R R1 ca L :=
  ⟨h.1, h.2.1, fun x hx hn => ⟨by rw [u2_rown _ _ _ _ (show x ≠ q from fun e => hq (e ▸ hx))]; exact (h.2.2 x hx hn).1, (h.2.2 x hx hn).2⟩⟩
theorem ExL.nR (h : ExL T T1 I I1 J J1 R R1 ca L) {q : Nat} (hq : q ∉ T.1) (k : Nat) (v : Option Nat) : ExL T T1 I I1 J J1 R (u2 R1 q k v) ca L :=
  ⟨h.1, h.2.1, fun x hx hn => ⟨(h.2.2 x hx hn).1, (h.2.2 x hx hn).2.1, by rw [u2_rown _ _ _ _ (show x ≠ q from fun e => hq (e ▸ hx))]; exact (h.2.2 x hx hn).2.2⟩⟩
theorem ExL.push (h : ExL T T1 I I1 J J1 R R1 ca L) {q kd m : Nat} (hq : q ∉ T1.1) {f : Nat → Int32} {g : Nat → Int64} {r : Nat → Option Nat} : ExL T (T1.1 ++ [q], va_up T1.2.1 q kd, va_up T1.2.2 q m) I (va_up I1 q f) J (va_up J1 q g) R (va_up R1 q r) ca L := by
  refine ⟨h.1.tr (GrT.push hq), h.2.1, fun x hx hn => ?_⟩
  have hne : x ≠ q := fun e => hq (e ▸ (h.1 x hx).1)
  rw [vu_n _ _ hne, vu_n _ _ hne, vu_n _ _ hne]
  exact h.2.2 x hx hn
theorem ExL.tr {T2 : gSh} {I2 : gI} {J2 : gJ} {R2 : gR} (h : ExL T T1 I I1 J J1 R R1 ca L) (g : ExL T1 T2 I1 I2 J1 J2 R1 R2 ca L) : ExL T T2 I I2 J J2 R R2 ca L :=
  ⟨h.1.tr g.1, h.2.1, fun x hx hn => ⟨((g.2.2 x (h.1 x hx).1 hn).1).trans (h.2.2 x hx hn).1, ((g.2.2 x (h.1 x hx).1 hn).2.1).trans (h.2.2 x hx hn).2.1, ((g.2.2 x (h.1 x hx).1 hn).2.2).trans (h.2.2 x hx hn).2.2⟩⟩
end ExB
section KAo
variable {T T' : gSh} {I I' : gI} {J J' : gJ} {R R' : gR} {ca : Nat → Nat} {L : List Nat} {a a' : gI} {n n' : gJ}
/-- trays -/
theorem KA.onT (k : KA T I J R ca a n) (h : ExL T T I I' J J' R R ca L) (hL : ∀ j ∈ L, 5 ≤ j ∧ j < 13) (hk : KT I' J' ca a' n') (h0 : a' 0 = a 0) (hr : ∀ r, 10 ≤ r → a' r = a r) (hn : n' 0 = n 0) : KA T I' J' R ca a' n' := by
  obtain ⟨hC, k0, k1, k2, k3, k4, k5, k6, k7, k8⟩ := k
  have e0 := h.at hC (i := 0) (by omega) (fun j hj e => by have := hL j hj; omega)
  have e3 := h.at hC (i := 3) (by omega) (fun j hj e => by have := hL j hj; omega)
  exact ⟨hC, by rw [e0.1, h0]; exact k0, by rw [e0.2.1, hn]; exact k1, hk, k3.ex hC h (fun j hj => by have := hL j hj; omega) (fun i _ _ => by rw [h0]) (hr 10 (by omega)), k4.ex hC h (fun j hj => by have := hL j hj; omega) (by rw [e3.1]) (by rw [h0]) (hr 26 (by omega)) (hr 27 (by omega)), k5.ex hC h (fun j hj => by have := hL j hj; omega) (by rw [e3.1]) (by rw [h0]) (fun r h1 h2 => hr r (by omega)), k6.ex hC h (fun j hj => by have := hL j hj; omega) (by rw [e3.1]) (by rw [h0]) (fun r h1 h2 => hr r (by omega)), k7.ex hC h (fun j hj => by have := hL j hj; omega) (by rw [h0]) (by rw [h0]) (fun r h1 h2 => hr r (by omega)), k8.ex hC h rfl (fun i _ _ => by rw [h0])⟩
/-- meetings -/
theorem KA.onN (k : KA T I J R ca a n) (h : ExL T T I I' J J' R R ca L) (hL : ∀ j ∈ L, j = 2 ∨ (13 ≤ j ∧ j ≤ 24)) (hk : KN I' ca a') (h0 : ∀ i, i < 7 ∨ 9 < i → a' 0 i = a 0 i) (hr : ∀ r, r ≠ 0 → r ≠ 10 → a' r = a r) : KA T I' J' R ca a' n := by
  obtain ⟨hC, k0, k1, k2, k3, k4, k5, k6, k7, k8⟩ := k
  have e0 := h.at hC (i := 0) (by omega) (fun j hj e => by have := hL j hj; omega)
  have e3 := h.at hC (i := 3) (by omega) (fun j hj e => by have := hL j hj; omega)
  exact ⟨hC, by rw [e0.1, h0 0 (by omega)]; exact k0, by rw [e0.2.1]; exact k1, k2.ex hC h (fun j hj => by have := hL j hj; omega) (hr 4 (by omega) (by omega)) (hr 5 (by omega) (by omega)) rfl, hk, k4.ex hC h (fun j hj => by have := hL j hj; omega) (by rw [e3.1]) (h0 21 (by omega)) (hr 26 (by omega) (by omega)) (hr 27 (by omega) (by omega)), k5.ex hC h (fun j hj => by have := hL j hj; omega) (by rw [e3.1]) (h0 22 (by omega)) (fun r h1 h2 => hr r (by omega) (by omega)), k6.ex hC h (fun j hj => by have := hL j hj; omega) (by rw [e3.1]) (h0 23 (by omega)) (fun r h1 h2 => hr r (by omega) (by omega)), k7.ex hC h (fun j hj => by have := hL j hj; omega) (h0 24 (by omega)) (h0 25 (by omega)) (fun r h1 h2 => hr r (by omega) (by omega)), k8.ex hC h rfl (fun i h1 h2 => h0 i (by omega))⟩
/-- books -/
theorem KA.onB (k : KA T I J R ca a n) (h : ExL T T' I I' J J' R R' ca L) (hL : ∀ j ∈ L, j = 3 ∨ (25 ≤ j ∧ j ≤ 28)) (h3 : R' (ca 3) = R (ca 3)) (hb : KB I' ca a') (hg : KG T' I' R' ca a') (ho : KO T' I' R' ca a') (h0 : ∀ i, i < 21 ∨ 23 < i → a' 0 i = a 0 i) (hr : ∀ r, r ≠ 0 → r < 26 ∨ 39 < r → a' r = a r) : KA T' I' J' R' ca a' n := by
  obtain ⟨hC, k0, k1, k2, k3, k4, k5, k6, k7, k8⟩ := k
  have e0 := h.at hC (i := 0) (by omega) (fun j hj e => by have := hL j hj; omega)
  have hC' : CO T' R' ca := by
    refine ⟨fun i hi => ⟨(h.1 _ (hC.1 i hi).1).1, (h.1 _ (hC.1 i hi).1).2.1.trans (hC.1 i hi).2.1, (h.1 _ (hC.1 i hi).1).2.2.trans (hC.1 i hi).2.2⟩, fun x hx => ?_, hC.2.2⟩
    have h30 : x.1 = 3 ∨ (x.1 < 25 ∧ x.1 ≠ 3) := by
      have : ∀ x ∈ cRf, x.1 < 25 := by decide
      have := this x hx
      omega
    have hr : R' (ca x.1) = R (ca x.1) := by
      rcases h30 with z | z
      · rw [z]; exact h3
      · exact (h.at hC (by omega) (fun j hj e => by have := hL j hj; omega)).2.2
    rw [hr]; exact hC.2.1 x hx
  exact ⟨hC', by rw [e0.1, h0 0 (by omega)]; exact k0, by rw [e0.2.1]; exact k1, k2.ex hC h (fun j hj => by have := hL j hj; omega) (hr 4 (by omega) (by omega)) (hr 5 (by omega) (by omega)) rfl, k3.ex hC h (fun j hj => by have := hL j hj; omega) (fun i h1 h2 => h0 i (by omega)) (hr 10 (by omega) (by omega)), hb, hg, ho, k7.ex hC h (fun j hj => by have := hL j hj; omega) (h0 24 (by omega)) (h0 25 (by omega)) (fun r h1 h2 => hr r (by omega) (by omega)), k8.ex hC h (by rw [e0.2.2]) (fun i h1 h2 => h0 i (by omega))⟩
/-- offers -/
theorem KA.onF (k : KA T I J R ca a n) (h : ExL T T' I I' J J' R R' ca L) (hL : ∀ j ∈ L, j = 4 ∨ j = 29) (h4 : R' (ca 4) = R (ca 4)) (hf : KF T' I' R' ca a') (h0 : ∀ i, i < 24 ∨ 25 < i → a' 0 i = a 0 i) (hr : ∀ r, r ≠ 0 → r < 40 ∨ 48 < r → a' r = a r) : KA T' I' J' R' ca a' n := by
  obtain ⟨hC, k0, k1, k2, k3, k4, k5, k6, k7, k8⟩ := k
  have e0 := h.at hC (i := 0) (by omega) (fun j hj e => by have := hL j hj; omega)
  have e3 := h.at hC (i := 3) (by omega) (fun j hj e => by have := hL j hj; omega)
  have hC' : CO T' R' ca := by
    refine ⟨fun i hi => ⟨(h.1 _ (hC.1 i hi).1).1, (h.1 _ (hC.1 i hi).1).2.1.trans (hC.1 i hi).2.1, (h.1 _ (hC.1 i hi).1).2.2.trans (hC.1 i hi).2.2⟩, fun x hx => ?_, hC.2.2⟩
    have h30 : x.1 = 4 ∨ (x.1 < 25 ∧ x.1 ≠ 4) := by
      have : ∀ x ∈ cRf, x.1 < 25 := by decide
      have := this x hx
      omega
    have hr : R' (ca x.1) = R (ca x.1) := by
      rcases h30 with z | z
      · rw [z]; exact h4
      · exact (h.at hC (by omega) (fun j hj e => by have := hL j hj; omega)).2.2
    rw [hr]; exact hC.2.1 x hx
  exact ⟨hC', by rw [e0.1, h0 0 (by omega)]; exact k0, by rw [e0.2.1]; exact k1, k2.ex hC h (fun j hj => by have := hL j hj; omega) (hr 4 (by omega) (by omega)) (hr 5 (by omega) (by omega)) rfl, k3.ex hC h (fun j hj => by have := hL j hj; omega) (fun i h1 h2 => h0 i (by omega)) (hr 10 (by omega) (by omega)), k4.ex hC h (fun j hj => by have := hL j hj; omega) (by rw [e3.1]) (h0 21 (by omega)) (hr 26 (by omega) (by omega)) (hr 27 (by omega) (by omega)), k5.ex hC h (fun j hj => by have := hL j hj; omega) (by rw [e3.1]) (h0 22 (by omega)) (fun r h1 h2 => hr r (by omega) (by omega)), k6.ex hC h (fun j hj => by have := hL j hj; omega) (by rw [e3.1]) (h0 23 (by omega)) (fun r h1 h2 => hr r (by omega) (by omega)), hf, k8.ex hC h (by rw [e0.2.2]) (fun i h1 h2 => h0 i (by omega))⟩
/-- new cells alone -/
theorem KA.grow (k : KA T I J R ca a n) (h : ExL T T' I I' J J' R R' ca []) : KA T' I' J' R' ca a n := by
  obtain ⟨hC, k0, k1, k2, k3, k4, k5, k6, k7, k8⟩ := k
  have e0 := h.at hC (i := 0) (by omega) (fun j hj e => by cases hj)
  have e3 := h.at hC (i := 3) (by omega) (fun j hj e => by cases hj)
  exact ⟨hC.ex h (fun j hj => by cases hj), by rw [e0.1]; exact k0, by rw [e0.2.1]; exact k1, k2.ex hC h (fun j hj => by cases hj) rfl rfl rfl, k3.ex hC h (fun j hj => by cases hj) (fun _ _ _ => rfl) rfl, k4.ex hC h (fun j hj => by cases hj) (by rw [e3.1]) rfl rfl rfl, k5.ex hC h (fun j hj => by cases hj) (by rw [e3.1]) rfl (fun _ _ _ => rfl), k6.ex hC h (fun j hj => by cases hj) (by rw [e3.1]) rfl (fun _ _ _ => rfl), k7.ex hC h (fun j hj => by cases hj) rfl rfl (fun _ _ _ => rfl), k8.ex hC h (by rw [e0.2.2]) (fun _ _ _ => rfl)⟩
/-- the object itself: status, fraction, the latest auction -/
theorem KA.on0 (k : KA T I J R ca a n) (h : ExL T T' I I' J J' R R' ca [0]) (hs : I' (ca 0) 5 = a' 0 0) (hq : J' (ca 0) 6 = n' 0 2 ∧ J' (ca 0) 7 = n' 0 3) (hR : ∀ i, i ≠ 4 → R' (ca 0) i = R (ca 0) i) (hk : KS T' I' R' ca a') (h0 : ∀ i, i ≠ 0 → i < 49 → a' 0 i = a 0 i) (hr : ∀ r, r ≠ 0 → a' r = a r) (hn : n' 6 = n 6) : KA T' I' J' R' ca a' n' := by
  obtain ⟨hC, k0, k1, k2, k3, k4, k5, k6, k7, k8⟩ := k
  have e3 := h.at hC (i := 3) (by omega) (by decide)
  have hC' : CO T' R' ca := by
    refine ⟨fun i hi => ⟨(h.1 _ (hC.1 i hi).1).1, (h.1 _ (hC.1 i hi).1).2.1.trans (hC.1 i hi).2.1, (h.1 _ (hC.1 i hi).1).2.2.trans (hC.1 i hi).2.2⟩, fun x hx => ?_, hC.2.2⟩
    have h30 : x.1 < 25 ∧ (x.1 = 0 → x.2.1 ≠ 4) := by
      have : ∀ x ∈ cRf, x.1 < 25 ∧ (x.1 = 0 → x.2.1 ≠ 4) := by decide
      exact this x hx
    have hr : R' (ca x.1) x.2.1 = R (ca x.1) x.2.1 := by
      by_cases z : x.1 = 0
      · rw [z]; exact hR _ (h30.2 z)
      · rw [(h.at hC (by omega) (fun j hj e => by simp at hj; omega)).2.2]
    rw [hr]; exact hC.2.1 x hx
  exact ⟨hC', hs, hq, k2.ex hC h (by decide) (hr 4 (by omega)) (hr 5 (by omega)) hn, k3.ex hC h (by decide) (fun i h1 h2 => h0 i (by omega) (by omega)) (hr 10 (by omega)), k4.ex hC h (by decide) (by rw [e3.1]) (h0 21 (by omega) (by omega)) (hr 26 (by omega)) (hr 27 (by omega)), k5.ex hC h (by decide) (by rw [e3.1]) (h0 22 (by omega) (by omega)) (fun r h1 h2 => hr r (by omega)), k6.ex hC h (by decide) (by rw [e3.1]) (h0 23 (by omega) (by omega)) (fun r h1 h2 => hr r (by omega)), k7.ex hC h (by decide) (h0 24 (by omega) (by omega)) (h0 25 (by omega) (by omega)) (fun r h1 h2 => hr r (by omega)), hk⟩
end KAo
theorem lj_sum {x y : Int64} {u v : Int} (hx : x.toInt = u) (hy : y.toInt = v) (h1 : -(2 ^ 40) ≤ u ∧ u ≤ 2 ^ 40) (h2 : -(2 ^ 40) ≤ v ∧ v ≤ 2 ^ 40) : (x + y).toInt = u + v := by
  rw [l_add (by rw [hx]; exact h1) (by rw [hy]; exact h2), hx, hy]
theorem natOf {x : Int32} (h : 0 ≤ x.toInt) : ∃ k : Nat, (k : Int) = x.toInt ∧ x = nI k := ⟨x.toInt.toNat, by omega, nI_nat h⟩
theorem ix40 {t k : Int32} (h1 : 0 ≤ t.toInt ∧ t.toInt < 4) (h2 : 0 ≤ k.toInt ∧ k.toInt < 40) : 40 * t + k = nI (40 * t.toInt.toNat + k.toInt.toNat) := by
  rw [← nI_add, ← pk_mul, ← nI_nat h1.1, ← nI_nat h2.1]; rfl
