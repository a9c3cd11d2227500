/-! ===== more rows of the walk ===== -/
section WPM
variable {E : gEnv} {cc : ByteArray} {own : String} {Ts : List Cond} {nL : Nat} {rm : Room} {cells slots : Nat} {T : gSh} {I I2 : gI} {J J2 : gJ} {R R2 : gR} {pc : Nat} {lv lv2 : List (Nat × Value)} {st : List Value}
theorem wp_lv (ks : List Nat) (h : lv_pick lv ks = lv2) (k : WP E nL cells slots T I J R pc lv2 st) : WP E nL cells slots T I J R pc lv st := by
  intro H locs ls hP hD hS hl
  exact k H locs ls hP hD hS (by subst h; exact lv_sub hl ks rfl)
theorem wp_eI (h : I = I2) (k : WP E nL cells slots T I2 J R pc lv st) : WP E nL cells slots T I J R pc lv st := h ▸ k
theorem wp_eJ (h : J = J2) (k : WP E nL cells slots T I J2 R pc lv st) : WP E nL cells slots T I J R pc lv st := h ▸ k
theorem wp_eR (h : R = R2) (k : WP E nL cells slots T I J R2 pc lv st) : WP E nL cells slots T I J R pc lv st := h ▸ k
end WPM
theorem loopN {P : Nat → Prop} (n : Nat) (h : ∀ i, i ≤ n → (∀ j, i < j → j ≤ n → P j) → P i) : ∀ i, i ≤ n → P i := by
  have : ∀ k i, i ≤ n → n - i ≤ k → P i := by
    intro k
    induction k with
    | zero => intro i hi hk; exact h i hi (fun j h1 h2 => by omega)
    | succ k ih => intro i hi hk; exact h i hi (fun j h1 h2 => ih j h2 (by omega))
  intro i hi
  exact this (n - i) i hi (Nat.le_refl _)
/-- a row of a cell put whole -/
theorem vu_s {α : Type} (f : Nat → α) (a : Nat) (r : α) : va_up f a r a = r := va_up_self f a r
theorem vu_n {α : Type} (f : Nat → α) {a b : Nat} (r : α) (h : b ≠ a) : va_up f a r b = f b := va_up_ne f r h
theorem vu_id {α : Type} (f : Nat → α) (a : Nat) : va_up f a (f a) = f := by
  funext b
  by_cases h : b = a
  · subst h; rw [vu_s]
  · rw [vu_n _ _ h]
theorem vu_vu {α : Type} (f : Nat → α) (a : Nat) (r s : α) : va_up (va_up f a r) a s = va_up f a s := by
  funext b
  by_cases h : b = a
  · subst h; rw [vu_s, vu_s]
  · rw [vu_n _ _ h, vu_n _ _ h, vu_n _ _ h]
theorem vu_comm {α : Type} (f : Nat → α) {a b : Nat} (r s : α) (h : a ≠ b) : va_up (va_up f a r) b s = va_up (va_up f b s) a r := by
  funext c
  by_cases h1 : c = a
  · subst h1; rw [vu_s, vu_n _ _ h, vu_s]
  · by_cases h2 : c = b
    · subst h2; rw [vu_s, vu_n _ _ h1, vu_s]
    · rw [vu_n _ _ h1, vu_n _ _ h2, vu_n _ _ h2, vu_n _ _ h1]
/-- a place put is a row put -/
theorem u2_vu {α : Type} (f : Nat → Nat → α) (a k : Nat) (v : α) : u2 f a k v = va_up f a (fun j => if j = k then v else f a j) := by
  funext b
  by_cases h : b = a
  · subst h; rw [u2_row, vu_s]
  · rw [u2_rown _ _ _ _ h, vu_n _ _ h]
theorem u2_in {α : Type} (f : Nat → Nat → α) (a k : Nat) (r : Nat → α) (v : α) : u2 (va_up f a r) a k v = va_up f a (fun j => if j = k then v else r j) := by
  rw [u2_vu, vu_vu]
  congr 1
  funext j
  rw [vu_s]
theorem u2_out {α : Type} (f : Nat → Nat → α) {a b : Nat} (k : Nat) (r : Nat → α) (v : α) (h : b ≠ a) : u2 (va_up f a r) b k v = va_up (u2 f b k v) a r := by
  rw [u2_vu, u2_vu, vu_n _ _ h, vu_comm _ _ _ (Ne.symm h)]
/-- a row filled up to i -/
def fl {α : Type} (r : Nat → α) (x : α) (i : Nat) : Nat → α := fun j => if j < i then x else r j
theorem fl_0 {α : Type} (r : Nat → α) (x : α) : fl r x 0 = r := by funext j; simp [fl]
theorem fl_s {α : Type} (r : Nat → α) (x : α) (i : Nat) : (fun j => if j = i then x else fl r x i j) = fl r x (i + 1) := by
  funext j
  simp only [fl]
  by_cases h : j = i
  · subst h; simp
  · by_cases h2 : j < i
    · simp [h, h2, Nat.lt_succ_of_lt h2]
    · have : ¬ j < i + 1 := by omega
      simp [h, h2, this]
