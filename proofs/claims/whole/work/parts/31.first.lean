/-! ===== how the reference finds the first of the best sets: pure ===== -/
def fz (A B : Nat) (w : Nat → Nat) : Nat → Nat := fun p => if p / 10 < A ∧ p % 10 < B ∧ w p = 0 then 2 else 0
/-- pairs are decided up to the k-th; M is the most -/
def Q4 (A B h : Nat) (w : Nat → Nat) (M : Int) (k : Nat) (fx : Nat → Nat) : Prop := (∀ p, p < 80 → fx p ≤ 2) ∧ (∃ t, FS A B h fx t ∧ totN w t = M) ∧ (∀ t, FS A B h (fz A B w) t → totN w t ≤ M) ∧ (∀ p, p < 80 → p / 10 < A → p % 10 < B → (p < k → fx p ≠ 0) ∧ (k ≤ p → fx p = fz A B w p) ∧ (fz A B w p = 2 → fx p = 2))
  ∧ (∀ t, FS A B h (fz A B w) t → totN w t = M → ∀ q, q < k → q / 10 < A → q % 10 < B → (∀ p, p < q → p / 10 < A → p % 10 < B → (fx p = 1 ↔ t p = 1)) → t q = 1 → fx q = 1)
section Q4s
variable {A B h : Nat} {w : Nat → Nat} {M : Int} {k : Nat} {fx : Nat → Nat}
theorem Q4.init (hw : ∀ p, p < 80 → w p ≤ 100) {v : Int32} (hr : (v = -1 ∧ ∀ t, ¬ FS A B h (fz A B w) t) ∨ (∃ t, FS A B h (fz A B w) t ∧ v.toInt = totN w t ∧ ∀ t2, FS A B h (fz A B w) t2 → totN w t2 ≤ totN w t)) : Q4 A B h w v.toInt 0 (fz A B w) ∧ 0 ≤ v.toInt := by
  have e0 : FS A B h (fz A B w) (fun _ => 0) := ⟨fun p hp => ⟨Nat.zero_le 1, fun q => absurd (show (0 : Nat) = 1 from q) (by decide)⟩, fun a e ha he => ⟨fun q => by unfold fz at q; split at q <;> omega, fun _ => rfl⟩, fun y hy => by rw [cnt_z]; exact Nat.zero_le _⟩
  rcases hr with ⟨-, q⟩ | ⟨t, t1, t2, t3⟩
  · exact absurd e0 (q _)
  · have bd := totN_bd hw (fun p hp => (t1.1 p hp).1)
    exact ⟨⟨fun p hp => by unfold fz; split <;> omega, ⟨t, t1, t2.symm⟩, fun t4 h4 => by rw [t2]; exact t3 t4 h4, fun p hp h1 h2 => ⟨fun q => by omega, fun _ => rfl, fun q => q⟩, fun t4 h4 h5 q hq => by omega⟩, by omega⟩
/-- sets that keep to what is decided keep to the start -/
theorem Q4.down (Q : Q4 A B h w M k fx) {fy t : Nat → Nat} (hy : ∀ p, p < 80 → p / 10 < A → p % 10 < B → fz A B w p = 2 → fy p = 2) (hA : A ≤ 8) (hB : B ≤ 10) (H : FS A B h fy t) : FS A B h (fz A B w) t := by
  refine ⟨H.1, fun a e ha he => ⟨fun q => ?_, fun q => ?_⟩, H.2.2⟩
  · unfold fz at q; split at q <;> omega
  · exact (H.2.1 a e ha he).2 (hy (10 * a + e) (by omega) (by omega) (by omega) q)
theorem Q4.skip (Q : Q4 A B h w M k fx) (hk : k < 80) (hA : k / 10 < A) (hB : k % 10 < B) (hf : fx k ≠ 0) : Q4 A B h w M (k + 1) fx := by
  obtain ⟨q1, q2, q3, q4, q5⟩ := Q
  have z := (q4 k hk hA hB).2.1 (Nat.le_refl _)
  have f2 : fz A B w k = 2 := by
    unfold fz at z ⊢
    by_cases q : k / 10 < A ∧ k % 10 < B ∧ w k = 0
    · rw [if_pos q]
    · rw [if_neg q] at z; exact absurd z hf
  refine ⟨q1, q2, q3, fun p hp h1 h2 => ⟨fun q => ?_, fun q => (q4 p hp h1 h2).2.1 (by omega), (q4 p hp h1 h2).2.2⟩, fun t h4 h5 q hq h1 h2 h3 h6 => ?_⟩
  · by_cases e : p = k
    · rw [e]; exact hf
    · exact (q4 p hp h1 h2).1 (by omega)
  · by_cases e : q = k
    · subst e
      have := (h4.2.1 (q / 10) (q % 10) h1 h2).2 (by rw [show 10 * (q / 10) + q % 10 = q by omega]; exact f2)
      rw [show 10 * (q / 10) + q % 10 = q by omega] at this
      omega
    · exact q5 t h4 h5 q (by omega) h1 h2 h3 h6
theorem Q4.off (Q : Q4 A B h w M k fx) (hk : ¬ (k / 10 < A ∧ k % 10 < B)) : Q4 A B h w M (k + 1) fx := by
  obtain ⟨q1, q2, q3, q4, q5⟩ := Q
  have ne : ∀ p, p / 10 < A → p % 10 < B → p ≠ k := fun p h1 h2 e => hk (by rw [← e]; exact ⟨h1, h2⟩)
  refine ⟨q1, q2, q3, fun p hp h1 h2 => ⟨fun q => (q4 p hp h1 h2).1 (by have := ne p h1 h2; omega), fun q => (q4 p hp h1 h2).2.1 (by omega), (q4 p hp h1 h2).2.2⟩, fun t h4 h5 q hq h1 h2 h3 h6 => ?_⟩
  by_cases e : q = k
  · subst e; exact absurd ⟨h1, h2⟩ hk
  · exact q5 t h4 h5 q (by omega) h1 h2 h3 h6
theorem Q4.try1 (hA8 : A ≤ 8) (hB10 : B ≤ 10) (hw : ∀ p, p < 80 → w p ≤ 100) (hM : 0 ≤ M) (Q : Q4 A B h w M k fx) (hk : k < 80) (hA : k / 10 < A) (hB : k % 10 < B) (hf : fx k = 0) {v : Int32} (hr : (v = -1 ∧ ∀ t, ¬ FS A B h (va_up fx k 1) t) ∨ (∃ t, FS A B h (va_up fx k 1) t ∧ v.toInt = totN w t ∧ ∀ t2, FS A B h (va_up fx k 1) t2 → totN w t2 ≤ totN w t)) :
    (v.toInt = M → Q4 A B h w M (k + 1) (va_up fx k 1)) ∧ (v.toInt ≠ M → Q4 A B h w M (k + 1) (va_up fx k 2)) := by
  have Q0 := Q
  obtain ⟨q1, q2, q3, q4, q5⟩ := Q
  have zf := (q4 k hk hA hB).2.1 (Nat.le_refl _)
  have f0 : fz A B w k ≠ 2 := by omega
  have ek : 10 * (k / 10) + k % 10 = k := by omega
  have down1 : ∀ t, FS A B h (va_up fx k 1) t → FS A B h (fz A B w) t := fun t ht => Q0.down (fun p hp h1 h2 h3 => by
    by_cases e : p = k
    · subst e; exact absurd h3 f0
    · rw [vu_n _ _ e]; exact (q4 p hp h1 h2).2.2 h3) hA8 hB10 ht
  -- an answer below M: no best set has it
  have nob : v.toInt ≠ M → ∀ t, FS A B h (va_up fx k 1) t → totN w t ≠ M := by
    intro hne t ht e
    rcases hr with ⟨-, z⟩ | ⟨t0, z1, z2, z3⟩
    · exact z t ht
    · have a1 := z3 t ht
      have a2 := q3 t0 (down1 t0 z1)
      omega
  constructor
  · intro hv
    rcases hr with ⟨z, -⟩ | ⟨t0, z1, z2, z3⟩
    · rw [z] at hv; have : (-1 : Int32).toInt = -1 := rfl; omega
    refine ⟨fun p hp => ?_, ⟨t0, z1, by omega⟩, q3, fun p hp h1 h2 => ?_, fun t h4 h5 q hq h1 h2 h3 h6 => ?_⟩
    · by_cases e : p = k
      · subst e; rw [vu_s]; omega
      · rw [vu_n _ _ e]; exact q1 p hp
    · by_cases e : p = k
      · subst e; rw [vu_s]; exact ⟨fun _ => by omega, fun q => by omega, fun q => absurd q f0⟩
      · rw [vu_n _ _ e]; have z := q4 p hp h1 h2; exact ⟨fun q => z.1 (by omega), fun q => z.2.1 (by omega), z.2.2⟩
    · by_cases e : q = k
      · subst e; exact vu_s _ _ _
      · rw [vu_n _ _ e]
        exact q5 t h4 h5 q (by omega) h1 h2 (fun p hp h7 h8 => by have := h3 p hp h7 h8; rwa [vu_n _ _ (by omega)] at this) h6
  · intro hv
    have no := nob hv
    obtain ⟨t0, z1, z2⟩ := q2
    have tk0 : t0 k = 0 := by
      have b := (z1.1 k hk).1
      rcases (show t0 k = 0 ∨ t0 k = 1 by omega) with q | q
      · exact q
      · exfalso
        refine no t0 ⟨z1.1, fun a e ha he => ?_, z1.2.2⟩ z2
        by_cases e2 : 10 * a + e = k
        · rw [e2, vu_s]; exact ⟨fun _ => q, fun z => by omega⟩
        · rw [vu_n _ _ e2]; exact z1.2.1 a e ha he
    refine ⟨fun p hp => ?_, ⟨t0, ⟨z1.1, fun a e ha he => ?_, z1.2.2⟩, z2⟩, q3, fun p hp h1 h2 => ?_, fun t h4 h5 q hq h1 h2 h3 h6 => ?_⟩
    · by_cases e : p = k
      · subst e; rw [vu_s]; omega
      · rw [vu_n _ _ e]; exact q1 p hp
    · by_cases e2 : 10 * a + e = k
      · rw [e2, vu_s]; exact ⟨fun z => by omega, fun _ => tk0⟩
      · rw [vu_n _ _ e2]; exact z1.2.1 a e ha he
    · by_cases e : p = k
      · subst e; rw [vu_s]; exact ⟨fun _ => by omega, fun q => by omega, fun _ => rfl⟩
      · rw [vu_n _ _ e]; have z := q4 p hp h1 h2; exact ⟨fun q => z.1 (by omega), fun q => z.2.1 (by omega), z.2.2⟩
    · by_cases e : q = k
      · exfalso
        subst e
        refine no t ⟨h4.1, fun a e ha he => ?_, h4.2.2⟩ h5
        by_cases e2 : 10 * a + e = q
        · rw [e2, vu_s]; exact ⟨fun _ => h6, fun z => by omega⟩
        · rw [vu_n _ _ e2]
          rcases Nat.lt_or_ge (10 * a + e) q with lt | ge
          · have hh := h3 (10 * a + e) lt (by omega) (by omega)
            rw [vu_n _ _ e2] at hh
            have b := (h4.1 (10 * a + e) (by omega)).1
            refine ⟨fun z => hh.mp z, fun z => ?_⟩
            rcases (show t (10 * a + e) = 0 ∨ t (10 * a + e) = 1 by omega) with y | y
            · exact y
            · have := hh.mpr y; omega
          · have z := (q4 (10 * a + e) (by omega) (by omega) (by omega)).2.1 ge
            rw [z]; exact h4.2.1 a e ha he
      · rw [vu_n _ _ e]
        exact q5 t h4 h5 q (by omega) h1 h2 (fun p hp h7 h8 => by have := h3 p hp h7 h8; rwa [vu_n _ _ (by omega)] at this) h6
/-- all decided: it is the first of the best -/
theorem Q4.fin (hA8 : A ≤ 8) (hB10 : B ≤ 10) (hw0 : ∀ p, p < 80 → ¬ (p / 10 < A ∧ p % 10 < B) → w p = 0) (Q : Q4 A B h w M 80 fx) : ∃ c, Lex h w c ∧ totN w c = M ∧ ∀ p, p < 80 → p / 10 < A → p % 10 < B → fx p = if c p = 1 then 1 else 2 := by
  have Q0 := Q
  obtain ⟨q1, ⟨c, c1, c2⟩, q3, q4, q5⟩ := Q
  have cf : ∀ p, p < 80 → p / 10 < A → p % 10 < B → (fx p = 1 ∧ c p = 1) ∨ (fx p = 2 ∧ c p = 0) := by
    intro p hp h1 h2
    have z := c1.2.1 (p / 10) (p % 10) h1 h2
    rw [show 10 * (p / 10) + p % 10 = p by omega] at z
    have z2 := (q4 p hp h1 h2).1 hp
    have z3 := q1 p hp
    rcases (show fx p = 1 ∨ fx p = 2 by omega) with q | q
    · exact Or.inl ⟨q, z.1 q⟩
    · exact Or.inr ⟨q, z.2 q⟩
  have toF : ∀ t, F0S h w t → FS A B h (fz A B w) t := by
    intro t ht
    have inr : ∀ p, p < 80 → t p = 1 → p / 10 < A ∧ p % 10 < B := fun p hp q => Classical.byContradiction (fun n => by have := hw0 p hp n; have := (ht.1 p hp).2 q; omega)
    refine ⟨fun p hp => ⟨(ht.1 p hp).1, inr p hp⟩, fun a e ha he => ⟨fun q => by unfold fz at q; split at q <;> omega, fun q => ?_⟩, ht.2⟩
    have w0 : w (10 * a + e) = 0 := by unfold fz at q; split at q <;> omega
    have b := ht.1 (10 * a + e) (by omega)
    rcases (show t (10 * a + e) = 0 ∨ t (10 * a + e) = 1 by omega) with y | y
    · exact y
    · have := b.2 y; omega
  refine ⟨c, ⟨⟨fun p hp => ⟨(c1.1 p hp).1, fun q => ?_⟩, c1.2.2⟩, fun t ht => ⟨by rw [c2]; exact q3 t (toF t ht), fun e k hk he => ?_⟩⟩, c2, fun p hp h1 h2 => ?_⟩
  · have r := (c1.1 p hp).2 q
    rcases Nat.eq_zero_or_pos (w p) with z | z
    · exfalso
      have f2 := (q4 p hp r.1 r.2).2.2 (by unfold fz; rw [if_pos ⟨r.1, r.2, z⟩])
      rcases cf p hp r.1 r.2 with y | y <;> omega
    · exact z
  · have b := (ht.1 k hk).1
    rcases (show t k = 0 ∨ t k = 1 by omega) with y | y
    · omega
    · have F := toF t ht
      have r := (F.1 k hk).2 y
      have z := q5 t F (by rw [e, c2]) k hk r.1 r.2 (fun p hp h1 h2 => by
        rw [he p hp]
        rcases cf p (by omega) h1 h2 with u | u <;> constructor <;> intro _ <;> omega) y
      rcases cf k hk r.1 r.2 with u | u <;> omega
  · rcases cf p hp h1 h2 with u | u
    · rw [if_pos u.2]; exact u.1
    · rw [if_neg (by omega)]; exact u.1
end Q4s
