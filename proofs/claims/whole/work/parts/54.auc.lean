/-! ===== auctions: the rounds ===== -/
/-- editor e in a round: state = (best bid, holder) -/
def bdS (L : Nat → Nat) (bx : Int32) (S : Nat) (s : Nat × Int32) (e : Nat) : Nat × Int32 := if (e : Int) = s.2.toInt ∨ (e : Int) = bx.toInt ∨ L e < s.1 + S then s else (s.1 + S, nI e)
def rdK (L : Nat → Nat) (bx : Int32) (S : Nat) (s : Nat × Int32) : Nat → Nat × Int32
  | 0 => s
  | e + 1 => bdS L bx S (rdK L bx S s e) e
def rdI (L : Nat → Nat) (bx : Int32) (S B : Nat) (s : Nat × Int32) : Nat → Nat × Int32
  | 0 => s
  | k + 1 => rdK L bx S (rdI L bx S B s k) B
section AuP
variable {L : Nat → Nat} {bx : Int32} {S B M : Nat} {s : Nat × Int32}
theorem bdS_or (L : Nat → Nat) (bx : Int32) (S : Nat) (s : Nat × Int32) (e : Nat) : bdS L bx S s e = s ∨ (bdS L bx S s e = (s.1 + S, nI e) ∧ ¬ (e : Int) = s.2.toInt ∧ ¬ (e : Int) = bx.toInt ∧ s.1 + S ≤ L e) := by
  unfold bdS
  by_cases h : (e : Int) = s.2.toInt ∨ (e : Int) = bx.toInt ∨ L e < s.1 + S
  · rw [if_pos h]; exact Or.inl rfl
  · rw [if_neg h]; exact Or.inr ⟨rfl, fun z => h (Or.inl z), fun z => h (Or.inr (Or.inl z)), by omega⟩
theorem rdK_or (L : Nat → Nat) (bx : Int32) (S : Nat) (s : Nat × Int32) (e : Nat) : rdK L bx S s e = s ∨ s.1 + S ≤ (rdK L bx S s e).1 := by
  induction e with
  | zero => exact Or.inl rfl
  | succ e ih =>
    show bdS L bx S (rdK L bx S s e) e = s ∨ s.1 + S ≤ (bdS L bx S (rdK L bx S s e) e).1
    rcases bdS_or L bx S (rdK L bx S s e) e with h | ⟨h, -⟩
    · rw [h]; exact ih
    · rw [h]
      right
      show s.1 + S ≤ (rdK L bx S s e).1 + S
      rcases ih with z | z
      · have : (rdK L bx S s e).1 = s.1 := congrArg Prod.fst z
        omega
      · omega
theorem rdK_le (hL : ∀ e, e < B → L e ≤ M) (hs : s.1 ≤ M) : ∀ e, e ≤ B → (rdK L bx S s e).1 ≤ M := by
  intro e
  induction e with
  | zero => intro _; exact hs
  | succ e ih =>
    intro he
    show (bdS L bx S (rdK L bx S s e) e).1 ≤ M
    rcases bdS_or L bx S (rdK L bx S s e) e with h | ⟨h, h1, h2, h3⟩
    · rw [h]; exact ih (by omega)
    · rw [h]
      show (rdK L bx S s e).1 + S ≤ M
      have := hL e (by omega)
      omega
theorem rdI_add (L : Nat → Nat) (bx : Int32) (S B : Nat) (s : Nat × Int32) (k j : Nat) : rdI L bx S B s (k + j) = rdI L bx S B (rdI L bx S B s k) j := by
  induction j with
  | zero => rfl
  | succ j ih =>
    show rdK L bx S (rdI L bx S B s (k + j)) B = rdK L bx S (rdI L bx S B (rdI L bx S B s k) j) B
    rw [ih]
theorem rdI_le (hL : ∀ e, e < B → L e ≤ M) (hs : s.1 ≤ M) (k : Nat) : (rdI L bx S B s k).1 ≤ M := by
  induction k with
  | zero => exact hs
  | succ k ih => exact rdK_le hL ih B (Nat.le_refl B)
theorem rdI_up (hS : 1 ≤ S) {k : Nat} (h : rdI L bx S B s (k + 1) ≠ rdI L bx S B s k) : (rdI L bx S B s k).1 + S ≤ (rdI L bx S B s (k + 1)).1 := by
  rcases rdK_or L bx S (rdI L bx S B s k) B with z | z
  · exact absurd z h
  · exact z
theorem rdI_gr (hS : 1 ≤ S) {k : Nat} (hno : ∀ j, j < k → rdI L bx S B s (j + 1) ≠ rdI L bx S B s j) : s.1 + k ≤ (rdI L bx S B s k).1 := by
  induction k with
  | zero => exact Nat.le_refl _
  | succ k ih =>
    have h1 := ih (fun j hj => hno j (by omega))
    have h2 := rdI_up hS (hno k (by omega))
    omega
theorem au_stab {b y : Nat} (hy : y < 100) (h : ∀ x, x < B → x ≠ y → L x < b + S) : ∀ e, e ≤ B → rdK L bx S (b, nI y) e = (b, nI y) := by
  intro e
  induction e with
  | zero => intro _; rfl
  | succ e ih =>
    intro he
    show bdS L bx S (rdK L bx S (b, nI y) e) e = (b, nI y)
    rw [ih (by omega)]
    unfold bdS
    rw [if_pos]
    by_cases z : e = y
    · left
      show (e : Int) = (nI y).toInt
      rw [nI_toInt (by omega), z]
    · exact Or.inr (Or.inr (h e (by omega) z))
theorem au_one (L : Nat → Nat) (S : Nat) (e : Nat) (he : e ≤ 10) : (rdK L (-1) S (0, -1) e = (0, -1) ∧ ∀ x, x < e → L x < S) ∨ (∃ y, y < e ∧ rdK L (-1) S (0, -1) e = (S, nI y) ∧ ∀ x, x < e → x ≠ y → L x < S + S) ∨ S + S ≤ (rdK L (-1) S (0, -1) e).1 := by
  have hm : (-1 : Int32).toInt = -1 := rfl
  induction e with
  | zero => exact Or.inl ⟨rfl, fun x hx => absurd hx (Nat.not_lt_zero x)⟩
  | succ e ih =>
    show (bdS L (-1) S (rdK L (-1) S (0, -1) e) e = (0, -1) ∧ _) ∨ (∃ y, y < e + 1 ∧ bdS L (-1) S (rdK L (-1) S (0, -1) e) e = (S, nI y) ∧ _) ∨ S + S ≤ (bdS L (-1) S (rdK L (-1) S (0, -1) e) e).1
    rcases ih (by omega) with ⟨h1, h2⟩ | ⟨y, hy, h1, h2⟩ | h
    · rw [h1]
      unfold bdS
      by_cases z : L e < S
      · left
        refine ⟨if_pos (Or.inr (Or.inr (by show L e < 0 + S; omega))), fun x hx => ?_⟩
        by_cases q : x = e
        · rw [q]; exact z
        · exact h2 x (by omega)
      · right; left
        refine ⟨e, by omega, ?_, fun x hx hn => ?_⟩
        · rw [if_neg]
          · show (0 + S, nI e) = (S, nI e)
            rw [Nat.zero_add]
          · show ¬ ((e : Int) = (-1 : Int32).toInt ∨ (e : Int) = (-1 : Int32).toInt ∨ L e < 0 + S)
            rw [hm]; omega
        · have := h2 x (by omega); omega
    · rw [h1]
      unfold bdS
      by_cases z : L e < S + S
      · right; left
        refine ⟨y, by omega, if_pos (Or.inr (Or.inr z)), fun x hx hn => ?_⟩
        by_cases q : x = e
        · rw [q]; exact z
        · exact h2 x (by omega) hn
      · right; right
        rw [if_neg]
        · exact Nat.le_refl (S + S)
        · show ¬ ((e : Int) = (nI y).toInt ∨ (e : Int) = (-1 : Int32).toInt ∨ L e < S + S)
          rw [hm, nI_toInt (by omega)]; omega
    · right; right
      rcases bdS_or L (-1) S (rdK L (-1) S (0, -1) e) e with q | ⟨q, -⟩
      · rw [q]; exact h
      · rw [q]
        show S + S ≤ (rdK L (-1) S (0, -1) e).1 + S
        omega
theorem au_Q (hB : B ≤ 10) (hS : 1 ≤ S) (hs : 1 ≤ s.1 ∨ (s = (0, -1) ∧ bx = -1)) {r : Nat} (hno : ∀ j, j < r → rdI L bx S B s (j + 1) ≠ rdI L bx S B s j) : r = 0 ∨ r + 1 ≤ (rdI L bx S B s r).1 ∨ (r = 1 ∧ rdI L bx S B s 2 = rdI L bx S B s 1) := by
  induction r with
  | zero => exact Or.inl rfl
  | succ r ih =>
    have hu := rdI_up hS (hno r (by omega))
    rcases ih (fun j hj => hno j (by omega)) with h | h | ⟨h1, h2⟩
    · subst h
      rcases hs with q | ⟨q1, q2⟩
      · right; left
        have : (rdI L bx S B s 0).1 = s.1 := rfl
        omega
      · subst q1
        subst q2
        have e1 : rdI L (-1) S B (0, -1) 1 = rdK L (-1) S (0, -1) B := rfl
        rcases au_one L S B hB with ⟨z, -⟩ | ⟨y, hy, z1, z2⟩ | z
        · exact absurd (e1.trans z) (hno 0 (by omega))
        · right; right
          refine ⟨rfl, ?_⟩
          show rdK L (-1) S (rdK L (-1) S (0, -1) B) B = rdK L (-1) S (0, -1) B
          rw [z1]
          exact au_stab (by omega) z2 B (Nat.le_refl B)
        · right; left
          rw [e1]; omega
    · right; left; omega
    · subst h1
      exact absurd h2 (hno 1 (by omega))
end AuP
/-- goes higher at the best bid b -/
def ghN (L : Nat → Nat) (bx : Int32) (S b e : Nat) : Nat := if (e : Int) = bx.toInt ∨ L e < b + S then 0 else 1
def ctN (L : Nat → Nat) (bx : Int32) (S b : Nat) : Nat → Nat
  | 0 => 0
  | e + 1 => ctN L bx S b e + ghN L bx S b e
def lsV (L : Nat → Nat) (bx : Int32) (S b : Nat) : Nat → Int32
  | 0 => -1
  | e + 1 => if ghN L bx S b e = 1 then nI e else lsV L bx S b e
def lmN (L : Nat → Nat) (bx : Int32) (S b : Nat) : Nat → Nat
  | 0 => 1000000
  | e + 1 => if ghN L bx S b e = 1 then (if L e < lmN L bx S b e then L e else lmN L bx S b e) else lmN L bx S b e
section AuS
variable {L : Nat → Nat} {bx : Int32} {S b B : Nat}
theorem gh_le (L : Nat → Nat) (bx : Int32) (S b e : Nat) : ghN L bx S b e ≤ 1 := by unfold ghN; split <;> omega
theorem gh_1 {e : Nat} : ghN L bx S b e = 1 ↔ ¬ ((e : Int) = bx.toInt ∨ L e < b + S) := by
  unfold ghN
  by_cases h : (e : Int) = bx.toInt ∨ L e < b + S
  · rw [if_pos h]; exact ⟨fun z => absurd z (by decide), fun z => absurd h z⟩
  · rw [if_neg h]; exact ⟨fun _ => h, fun _ => rfl⟩
theorem ct_le (L : Nat → Nat) (bx : Int32) (S b e : Nat) : ctN L bx S b e ≤ e := by
  induction e with
  | zero => exact Nat.le_refl _
  | succ e ih =>
    have := gh_le L bx S b e
    show ctN L bx S b e + ghN L bx S b e ≤ e + 1
    omega
theorem ct_mono {i j : Nat} (h : i ≤ j) : ctN L bx S b i ≤ ctN L bx S b j := by
  induction j with
  | zero => rw [show i = 0 by omega]; exact Nat.le_refl _
  | succ j ih =>
    by_cases z : i = j + 1
    · rw [z]; exact Nat.le_refl _
    · have := ih (by omega)
      show _ ≤ ctN L bx S b j + ghN L bx S b j
      omega
theorem ls_s (e : Nat) : (ctN L bx S b e = 0 ∧ lsV L bx S b e = -1) ∨ ∃ x, x < e ∧ ghN L bx S b x = 1 ∧ lsV L bx S b e = nI x ∧ ctN L bx S b (x + 1) = ctN L bx S b e := by
  induction e with
  | zero => exact Or.inl ⟨rfl, rfl⟩
  | succ e ih =>
    have h1 : ctN L bx S b (e + 1) = ctN L bx S b e + ghN L bx S b e := rfl
    by_cases g : ghN L bx S b e = 1
    · right
      exact ⟨e, by omega, g, if_pos g, rfl⟩
    · have g0 : ghN L bx S b e = 0 := by have := gh_le L bx S b e; omega
      have e1 : lsV L bx S b (e + 1) = lsV L bx S b e := if_neg g
      rw [e1, h1, g0, Nat.add_zero]
      rcases ih with z | ⟨x, hx, z⟩
      · exact Or.inl z
      · exact Or.inr ⟨x, by omega, z⟩
theorem lm_s (e : Nat) : (∀ x, x < e → ghN L bx S b x = 1 → lmN L bx S b e ≤ L x) ∧ lmN L bx S b e ≤ 1000000 ∧ (b + S ≤ 1000000 → b + S ≤ lmN L bx S b e) := by
  induction e with
  | zero => exact ⟨fun x hx => absurd hx (Nat.not_lt_zero x), Nat.le_refl _, fun h => h⟩
  | succ e ih =>
    obtain ⟨i1, i2, i3⟩ := ih
    by_cases g : ghN L bx S b e = 1
    · have e1 : lmN L bx S b (e + 1) = if L e < lmN L bx S b e then L e else lmN L bx S b e := if_pos g
      have gg := gh_1.mp g
      have e2 : lmN L bx S b (e + 1) ≤ L e ∧ lmN L bx S b (e + 1) ≤ lmN L bx S b e ∧ (lmN L bx S b (e + 1) = L e ∨ lmN L bx S b (e + 1) = lmN L bx S b e) := by
        rw [e1]; split <;> omega
      refine ⟨fun x hx hg => ?_, by omega, fun h => ?_⟩
      · by_cases z : x = e
        · rw [z]; exact e2.1
        · have := i1 x (by omega) hg; omega
      · have := i3 h; omega
    · have e1 : lmN L bx S b (e + 1) = lmN L bx S b e := if_neg g
      rw [e1]
      refine ⟨fun x hx hg => ?_, i2, i3⟩
      by_cases z : x = e
      · rw [z] at hg; exact absurd hg g
      · exact i1 x (by omega) hg
theorem au_full (hB : B ≤ 10) {h : Int32} (k2 : 2 ≤ ctN L bx S b B) (hl : lsV L bx S b B = h) {c : Nat} (hc : b ≤ c) (hm : c + ctN L bx S b B * S ≤ lmN L bx S b B) : ∀ e, e ≤ B → rdK L bx S (c, h) e = (c + ctN L bx S b e * S, if ctN L bx S b e = 0 then h else lsV L bx S b e) := by
  intro e
  induction e with
  | zero =>
    intro _
    show (c, h) = (c + 0 * S, if (0 : Nat) = 0 then h else _)
    rw [if_pos rfl, Nat.zero_mul, Nat.add_zero]
  | succ e ih =>
    intro he
    show bdS L bx S (rdK L bx S (c, h) e) e = _
    rw [ih (by omega)]
    have h1 : ctN L bx S b (e + 1) = ctN L bx S b e + ghN L bx S b e := rfl
    by_cases g : ghN L bx S b e = 1
    · have gg := gh_1.mp g
      rw [g] at h1
      have ls1 : lsV L bx S b (e + 1) = nI e := if_pos g
      have hmo := ct_mono (L := L) (bx := bx) (S := S) (b := b) he
      have gL := (lm_s (L := L) (bx := bx) (S := S) (b := b) B).1 e (by omega) g
      rw [h1] at hmo
      have hmu := Nat.mul_le_mul_right S hmo
      rw [Nat.add_mul, Nat.one_mul] at hmu
      rw [h1, if_neg (show ¬ ctN L bx S b e + 1 = 0 by omega), ls1]
      unfold bdS
      rw [if_neg]
      · show (c + ctN L bx S b e * S + S, nI e) = (c + (ctN L bx S b e + 1) * S, nI e)
        rw [Nat.add_mul, Nat.one_mul, Nat.add_assoc]
      · show ¬ ((e : Int) = (if ctN L bx S b e = 0 then h else lsV L bx S b e).toInt ∨ (e : Int) = bx.toInt ∨ L e < c + ctN L bx S b e * S + S)
        rintro (z | z | z)
        · by_cases q : ctN L bx S b e = 0
          · rw [if_pos q] at z
            rcases ls_s (L := L) (bx := bx) (S := S) (b := b) B with ⟨w, -⟩ | ⟨x, hx, w1, w2, w3⟩
            · omega
            · rw [← hl, w2, nI_toInt (by omega)] at z
              have ex : x = e := by omega
              subst ex
              omega
          · rw [if_neg q] at z
            rcases ls_s (L := L) (bx := bx) (S := S) (b := b) e with ⟨w, -⟩ | ⟨x, hx, w1, w2, w3⟩
            · exact q w
            · rw [w2, nI_toInt (by omega)] at z; omega
        · exact gg (Or.inl z)
        · omega
    · have g0 : ghN L bx S b e = 0 := by have := gh_le L bx S b e; omega
      have gg : (e : Int) = bx.toInt ∨ L e < b + S := Classical.byContradiction (fun w => g (gh_1.mpr w))
      have ls1 : lsV L bx S b (e + 1) = lsV L bx S b e := if_neg g
      rw [h1, g0, Nat.add_zero, ls1]
      unfold bdS
      rw [if_pos]
      right
      rcases gg with z | z
      · exact Or.inl z
      · right
        show L e < c + ctN L bx S b e * S + S
        omega
theorem au_skip (hB : B ≤ 10) {h : Int32} (k2 : 2 ≤ ctN L bx S b B) (hl : lsV L bx S b B = h) {f : Nat} (hf : b + f * (ctN L bx S b B * S) ≤ lmN L bx S b B) : ∀ j, j ≤ f → rdI L bx S B (b, h) j = (b + j * (ctN L bx S b B * S), h) := by
  intro j
  induction j with
  | zero =>
    intro _
    show (b, h) = (b + 0 * _, h)
    rw [Nat.zero_mul, Nat.add_zero]
  | succ j ih =>
    intro hj
    show rdK L bx S (rdI L bx S B (b, h) j) B = _
    rw [ih (by omega)]
    have hmu := Nat.mul_le_mul_right (ctN L bx S b B * S) hj
    rw [Nat.add_mul, Nat.one_mul] at hmu
    rw [au_full hB k2 hl (c := b + j * (ctN L bx S b B * S)) (by omega) (by omega) B (Nat.le_refl B), if_neg (by omega), hl, Nat.add_mul, Nat.one_mul, Nat.add_assoc]
end AuS
/-- rounds that may be -/
def auX : Nat := 1000001
theorem auX_e : auX = 1000001 := rfl
/-- the rounds in which somebody bids; the end -/
def auN (L : Nat → Nat) (bx : Int32) (S B : Nat) (s : Nat × Int32) : Nat := ff (fun k => if rdI L bx S B s (k + 1) = rdI L bx S B s k then 0 else 1) auX
def auT (L : Nat → Nat) (bx : Int32) (S B : Nat) (s : Nat × Int32) : Nat × Int32 := rdI L bx S B s (auN L bx S B s)
theorem auN_eq {L : Nat → Nat} {bx : Int32} {S B : Nat} {s : Nat × Int32} {k : Nat} (hk : k < 1000001) (h1 : rdI L bx S B s (k + 1) = rdI L bx S B s k) (h2 : ∀ j, j < k → rdI L bx S B s (j + 1) ≠ rdI L bx S B s j) : auN L bx S B s = k :=
  ff_eq (by rw [auX_e]; exact hk) (if_pos h1) (fun j hj => by rw [if_neg (h2 j hj)]; decide)
/-- whoever holds at the end is nobody, the floor's editor, or an editor -/
theorem rdK_h {L : Nat → Nat} {bx : Int32} {S B : Nat} {s : Nat × Int32} {lo : Int} (hlo : lo ≤ 0) (hs : lo ≤ s.2.toInt ∧ s.2.toInt < B) (hB : B ≤ 10) : ∀ e, e ≤ B → lo ≤ (rdK L bx S s e).2.toInt ∧ (rdK L bx S s e).2.toInt < B := by
  intro e
  induction e with
  | zero => intro _; exact hs
  | succ e ih =>
    intro he
    show lo ≤ (bdS L bx S (rdK L bx S s e) e).2.toInt ∧ (bdS L bx S (rdK L bx S s e) e).2.toInt < B
    rcases bdS_or L bx S (rdK L bx S s e) e with h | ⟨h, -⟩
    · rw [h]; exact ih (by omega)
    · rw [h]
      show lo ≤ (nI e).toInt ∧ (nI e).toInt < B
      rw [nI_toInt (by omega)]; omega
theorem rdI_h {L : Nat → Nat} {bx : Int32} {S B : Nat} {s : Nat × Int32} {lo : Int} (hlo : lo ≤ 0) (hs : lo ≤ s.2.toInt ∧ s.2.toInt < B) (hB : B ≤ 10) (k : Nat) : lo ≤ (rdI L bx S B s k).2.toInt ∧ (rdI L bx S B s k).2.toInt < B := by
  induction k with
  | zero => exact hs
  | succ k ih => exact rdK_h hlo ih hB B (Nat.le_refl B)
