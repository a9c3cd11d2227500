/-! ===== the pool: cells by kinds; kinds 0 to 12 are those of vwCl, 13 int[], 14 long[], 15 boolean[], 16 Grant[], 17 Offer[], 18 Option[], 19 Tray[] ===== -/
/-- of fields: 0 an int or boolean, 1 a long, 2 a reference -/
def gTs : List (List Nat) := [[0, 2, 0, 0, 0, 0, 0, 0], [0, 2, 2, 2, 2, 2, 2, 2], [0, 2, 2, 0, 2, 0, 2], [0, 0, 2, 0, 0], [0, 0, 0, 2, 2, 2, 0], [0, 0, 2, 0, 0], [0, 0, 2], [0, 0, 0, 0], [0, 0, 0, 0, 0], [0, 2, 2], [0, 0, 0, 2], [2, 2, 2, 2, 2, 0, 1, 1], [0, 0, 1, 1, 2, 2, 2, 0, 0, 0, 2, 2, 2, 2, 2, 2, 2, 2, 2, 2, 2, 0, 0, 0, 0, 0, 2, 2, 2, 2, 2, 2, 2, 2, 2, 2, 2, 2, 2, 2, 2, 2, 2, 2, 2, 2, 2, 2, 2, 0, 0, 0, 0, 2]]
def gN (ci : Nat) : Nat := (gTs.getD ci []).length
def gT (ci k : Nat) : Nat := (gTs.getD ci []).getD k 0
def gV (t : Nat) (i : Int32) (j : Int64) (r : Option Nat) : Value := match t with
  | 0 => .int i
  | 1 => .long j
  | _ => va_rf r
/-- the shape: addresses, the kind of each, the length of an array -/
abbrev gSh : Type := List Nat × (Nat → Nat) × (Nat → Nat)
abbrev gI : Type := Nat → Nat → Int32
abbrev gJ : Type := Nat → Nat → Int64
abbrev gR : Type := Nat → Nat → Option Nat
def gF (I : gI) (J : gJ) (R : gR) (ci a : Nat) : List Value := (List.range (gN ci)).map (fun k => gV (gT ci k) (I a k) (J a k) (R a k))
def gE (cy : Nat → ClassId) (T : gSh) (I : gI) (J : gJ) (R : gR) (a : Nat) : va_E :=
  if T.2.1 a < 13 then .inr (T.2.1 a, gF I J R (T.2.1 a) a)
  else if T.2.1 a = 14 then .inl (cy 14, T.2.2 a, .inr (.inl (J a)))
  else if T.2.1 a < 16 then .inl (cy (T.2.1 a), T.2.2 a, .inl (I a))
  else .inl (cy (T.2.1 a), T.2.2 a, .inr (.inr (.inr (.inr (R a)))))
def gW (cy : Nat → ClassId) (T : gSh) (I : gI) (J : gJ) (R : gR) : va_W := va_pl T.1 (gE cy T I J R)
def gY (cy : Nat → ClassId) : List (ClassId × FieldType) := [(cy 13, .int), (cy 14, .long), (cy 15, .boolean), (cy 16, .object RX3), (cy 17, .object RX5), (cy 18, .object RX7), (cy 19, .object RX10)]
/-- one place of one cell -/
def u2 {α : Type} (f : Nat → Nat → α) (a k : Nat) (v : α) : Nat → Nat → α := fun b j => if b = a then (if j = k then v else f b j) else f b j
theorem u2_s {α : Type} (f : Nat → Nat → α) (a k : Nat) (v : α) : u2 f a k v a k = v := by simp [u2]
theorem u2_k {α : Type} (f : Nat → Nat → α) (a k : Nat) (v : α) {j : Nat} (h : j ≠ k) (b : Nat) : u2 f a k v b j = f b j := by simp [u2, h]
theorem u2_a {α : Type} (f : Nat → Nat → α) (a k : Nat) (v : α) {b : Nat} (h : b ≠ a) (j : Nat) : u2 f a k v b j = f b j := by simp [u2, h]
theorem u2_row {α : Type} (f : Nat → Nat → α) (a k : Nat) (v : α) : u2 f a k v a = fun j => if j = k then v else f a j := by funext j; simp [u2]
theorem u2_rown {α : Type} (f : Nat → Nat → α) (a k : Nat) (v : α) {b : Nat} (h : b ≠ a) : u2 f a k v b = f b := by funext j; simp [u2, h]
/-- an object of the sort ci; an array of the kind, of n places -/
def OB (T : gSh) (a ci : Nat) : Prop := a ∈ T.1 ∧ T.2.1 a = ci
def AR (T : gSh) (a kd n : Nat) : Prop := a ∈ T.1 ∧ T.2.1 a = kd ∧ T.2.2 a = n
theorem gE_ob {cy : Nat → ClassId} {T : gSh} {I : gI} {J : gJ} {R : gR} {a ci : Nat} (h : T.2.1 a = ci) (hc : ci < 13) : gE cy T I J R a = .inr (ci, gF I J R ci a) := by
  subst h; simp [gE, hc]
theorem gE_J {cy : Nat → ClassId} {T : gSh} {I : gI} {J : gJ} {R : gR} {a : Nat} (h : T.2.1 a = 14) : gE cy T I J R a = .inl (cy 14, T.2.2 a, .inr (.inl (J a))) := by
  simp [gE, h]
theorem gE_I {cy : Nat → ClassId} {T : gSh} {I : gI} {J : gJ} {R : gR} {a : Nat} (h : T.2.1 a = 13) : gE cy T I J R a = .inl (cy 13, T.2.2 a, .inl (I a)) := by
  simp [gE, h]
theorem gE_Z {cy : Nat → ClassId} {T : gSh} {I : gI} {J : gJ} {R : gR} {a : Nat} (h : T.2.1 a = 15) : gE cy T I J R a = .inl (cy 15, T.2.2 a, .inl (I a)) := by
  simp [gE, h]
theorem gE_R {cy : Nat → ClassId} {T : gSh} {I : gI} {J : gJ} {R : gR} {a kd : Nat} (h : T.2.1 a = kd) (hk : 16 ≤ kd) : gE cy T I J R a = .inl (cy kd, T.2.2 a, .inr (.inr (.inr (.inr (R a))))) := by
  subst h
  have h1 : ¬ T.2.1 a < 13 := by omega
  have h2 : ¬ T.2.1 a = 14 := by omega
  have h3 : ¬ T.2.1 a < 16 := by omega
  simp [gE, h1, h2, h3]
theorem gW_at {cy : Nat → ClassId} {T : gSh} {I : gI} {J : gJ} {R : gR} {a : Nat} (h : a ∈ T.1) : ∃ k : Nat, (gW cy T I J R)[k]? = some (a, gE cy T I J R a) := by
  have := va_pl_get (X := []) (f := gE cy T I J R) h
  simpa [gW] using this
theorem gW_set {A : Nat → Prop} {cy : Nat → ClassId} {T : gSh} {I I' : gI} {J J' : gJ} {R R' : gR} {a k : Nat} {e : va_E} (hD : va_D A (gW cy T I J R)) (h : a ∈ T.1) (hk : (gW cy T I J R)[k]? = some (a, gE cy T I J R a)) (he : e = gE cy T I' J' R' a) (ho : ∀ b, b ≠ a → gE cy T I J R b = gE cy T I' J' R' b) : (gW cy T I J R).set k (a, e) = gW cy T I' J' R' := by
  have h1 := va_pl_set (X := []) (e := e) (by simpa [gW] using hD) h (by simpa [gW] using hk)
  simp only [List.nil_append] at h1
  show (va_pl T.1 (gE cy T I J R)).set k (a, e) = va_pl T.1 (gE cy T I' J' R')
  rw [h1]
  refine va_pl_congr (fun b => ?_)
  by_cases hb : b = a
  · subst hb; rw [va_up_self, he]
  · rw [va_up_ne _ _ hb, ho b hb]
theorem gF_get {I : gI} {J : gJ} {R : gR} {ci a k : Nat} (h : k < gN ci) : (gF I J R ci a)[k]? = some (gV (gT ci k) (I a k) (J a k) (R a k)) := by
  simp [gF, List.getElem?_map, List.getElem?_range h]
theorem gF_len {I : gI} {J : gJ} {R : gR} {ci a : Nat} : (gF I J R ci a).length = gN ci := by simp [gF]
theorem gF_set {I I' : gI} {J J' : gJ} {R R' : gR} {ci a k : Nat} {v : Value} (hv : v = gV (gT ci k) (I' a k) (J' a k) (R' a k)) (ho : ∀ j, j ≠ k → gV (gT ci j) (I a j) (J a j) (R a j) = gV (gT ci j) (I' a j) (J' a j) (R' a j)) : (gF I J R ci a).set k v = gF I' J' R' ci a := by
  apply List.ext_getElem?
  intro j
  rw [List.getElem?_set]
  by_cases hj : k = j
  · subst hj
    simp only [if_pos]
    by_cases hl : k < gN ci
    · rw [gF_get hl, if_pos (by rw [gF_len]; exact hl), hv]
    · rw [if_neg (by rw [gF_len]; exact hl), List.getElem?_eq_none (by rw [gF_len]; omega)]
  · rw [if_neg hj]
    by_cases hl : j < gN ci
    · rw [gF_get hl, gF_get hl, ho j (fun h => hj h.symm)]
    · rw [List.getElem?_eq_none (by rw [gF_len]; omega), List.getElem?_eq_none (by rw [gF_len]; omega)]
theorem gE_ext {cy : Nat → ClassId} {T : gSh} {I I' : gI} {J J' : gJ} {R R' : gR} {b : Nat} (h1 : I b = I' b) (h2 : J b = J' b) (h3 : R b = R' b) : gE cy T I J R b = gE cy T I' J' R' b := by
  simp only [gE, gF, h1, h2, h3]
/-! ===== the walk: an environment, what is fixed in it, and the walk's judgement over the pool ===== -/
abbrev gEnv : Type := (Program × Launch × Env × Room × State) × (MethodId × Array Value × List Frame × Method × Code) × (va_G × (Nat → ClassId) × (Nat → Prop) × Heap × (State → Prop))
/-- what the tables say beside the words: members of nest mates, the arrays of references -/
def gNs (U : State) : Prop := va_Nw (.methodLinkNest RX8 27 yX11_isDay RX11) U ∧ va_Nw (.methodLinkNest RX11 15 yX10_init RX11) U ∧ va_Nw (.methodLinkNest RX11 18 yX4_init RX11) U ∧ va_Nw (.methodLinkNest RX11 25 yX2_init RX11) U ∧ va_Nw (.methodLinkNest RX11 32 yX6_init RX11) U ∧ va_Nw (.methodLinkNest RX4 27 yX1_init RX11) U ∧ va_AO RX3 U ∧ va_AO RX5 U ∧ va_AO RX7 U ∧ va_AO RX10 U
def Cx (E : gEnv) (cc : ByteArray) (own : String) (Ts : List Cond) (nL : Nat) (rm : Room) : Prop :=
  E.1.1.tables.exec = Jvm.exec ∧ E.2.1.2.2.2.2.code = cc ∧ E.2.1.2.2.2.2.maxLocals = nL ∧ E.1.2.2.2.2.vm.findClass own = some E.2.1.1.cls ∧ (∀ w ∈ Ts, w.before E.2.1.2.1 E.1.2.2.2.2 = true) ∧ va_K E.2.2.1 vwCl (gY E.2.2.2.1) E.1.2.2.2.2 ∧ gNs E.1.2.2.2.2 ∧ (∀ q, E.2.2.2.2.2.1.size ≤ q → E.2.2.2.2.1 q) ∧ E.2.1.2.2.2.1.locks = false ∧ E.1.2.2.2.1 = rm
def WP (E : gEnv) (nL cells slots : Nat) (T : gSh) (I : gI) (J : gJ) (R : gR) (pc : Nat) (lv : List (Nat × Value)) (st : List Value) : Prop :=
  ∀ (H : Heap) (locs : List Loc) (ls : Array Slot), va_P E.2.2.1 vwCl (gW E.2.2.2.1 T I J R) H → va_D E.2.2.2.2.1 (gW E.2.2.2.1 T I J R) → va_S E.2.2.2.2.1 E.2.2.2.2.2.1 H locs → lv_has ls nL lv →
    W E.1.1 E.1.2.1 E.1.2.2.1 E.1.2.2.2.1 E.1.2.2.2.2 E.2.1.1 E.2.1.2.1 E.2.1.2.2.1 E.2.1.2.2.2.1 E.2.1.2.2.2.2 H locs cells slots E.2.2.2.2.2.2 (F0 E.2.1.1 pc ls st)
section WPR
variable {E : gEnv} {cc : ByteArray} {own : String} {Ts : List Cond} {nL : Nat} {rm : Room} {cells slots : Nat} {T : gSh} {I : gI} {J : gJ} {R : gR} {pc : Nat} {lv : List (Nat × Value)} {st : List Value}
theorem wp_iload_n (C : Cx E cc own Ts nL rm) (q : Nat) {k : Fin 4} {i : Nat} {x : Int32} (hd : decode cc pc = .ok (.iload_n k, 1)) (hq : lv[q]? = some (i, .int x)) (hi : (k : Nat) = i) (kk : WP E nL cells slots T I J R (pc + 1) lv (.int x :: st)) : WP E nL cells slots T I J R pc lv st := by
  intro H locs ls hP hD hS hl
  exact lv_iload_n C.1 C.2.1 hd hi (lv_at hl q hq) (kk H locs ls hP hD hS hl)
theorem wp_iload (C : Cx E cc own Ts nL rm) (q : Nat) {i : Nat} {x : Int32} (hd : decode cc pc = .ok (.iload i, 2)) (hq : lv[q]? = some (i, .int x)) (kk : WP E nL cells slots T I J R (pc + 2) lv (.int x :: st)) : WP E nL cells slots T I J R pc lv st := by
  intro H locs ls hP hD hS hl
  exact lv_iload C.1 C.2.1 hd (lv_at hl q hq) (kk H locs ls hP hD hS hl)
theorem wp_lload_n (C : Cx E cc own Ts nL rm) (q : Nat) {k : Fin 4} {i : Nat} {x : Int64} (hd : decode cc pc = .ok (.lload_n k, 1)) (hq : lv[q]? = some (i, .long x)) (hi : (k : Nat) = i) (kk : WP E nL cells slots T I J R (pc + 1) lv (.long x :: st)) : WP E nL cells slots T I J R pc lv st := by
  intro H locs ls hP hD hS hl
  exact lv_lload_n C.1 C.2.1 hd hi (lv_at hl q hq) (kk H locs ls hP hD hS hl)
theorem wp_lload (C : Cx E cc own Ts nL rm) (q : Nat) {i : Nat} {x : Int64} (hd : decode cc pc = .ok (.lload i, 2)) (hq : lv[q]? = some (i, .long x)) (kk : WP E nL cells slots T I J R (pc + 2) lv (.long x :: st)) : WP E nL cells slots T I J R pc lv st := by
  intro H locs ls hP hD hS hl
  exact lv_lload C.1 C.2.1 hd (lv_at hl q hq) (kk H locs ls hP hD hS hl)
theorem wp_aload_n (C : Cx E cc own Ts nL rm) (q : Nat) {k : Fin 4} {i : Nat} {x : Nat} (hd : decode cc pc = .ok (.aload_n k, 1)) (hq : lv[q]? = some (i, .ref x)) (hi : (k : Nat) = i) (kk : WP E nL cells slots T I J R (pc + 1) lv (.ref x :: st)) : WP E nL cells slots T I J R pc lv st := by
  intro H locs ls hP hD hS hl
  exact lv_aload_n C.1 C.2.1 hd hi (lv_at hl q hq) (kk H locs ls hP hD hS hl)
theorem wp_aload (C : Cx E cc own Ts nL rm) (q : Nat) {i : Nat} {x : Nat} (hd : decode cc pc = .ok (.aload i, 2)) (hq : lv[q]? = some (i, .ref x)) (kk : WP E nL cells slots T I J R (pc + 2) lv (.ref x :: st)) : WP E nL cells slots T I J R pc lv st := by
  intro H locs ls hP hD hS hl
  exact lv_aload C.1 C.2.1 hd (lv_at hl q hq) (kk H locs ls hP hD hS hl)
theorem wp_aload_nN (C : Cx E cc own Ts nL rm) (q : Nat) {k : Fin 4} {i : Nat} (hd : decode cc pc = .ok (.aload_n k, 1)) (hq : lv[q]? = some (i, .null)) (hi : (k : Nat) = i) (kk : WP E nL cells slots T I J R (pc + 1) lv (.null :: st)) : WP E nL cells slots T I J R pc lv st := by
  intro H locs ls hP hD hS hl
  exact lv_aload_nN C.1 C.2.1 hd hi (lv_at hl q hq) (kk H locs ls hP hD hS hl)
theorem wp_istore_n (C : Cx E cc own Ts nL rm) (lv2 : List (Nat × Value)) {k : Fin 4} {i : Nat} {x : Int32} (hd : decode cc pc = .ok (.istore_n k, 1)) (hi : (k : Nat) = i) (hn : i < nL) (hl2 : (i, Value.int x) :: lv.filter (fun q => !(q.1 == i) && !(q.1 + 1 == i && q.2.category == 2)) = lv2) (kk : WP E nL cells slots T I J R (pc + 1) lv2 st) : WP E nL cells slots T I J R pc lv (.int x :: st) := by
  intro H locs ls hP hD hS hl
  exact lv_istore_n C.1 C.2.1 hd hi hl hn hl2 (fun ls2 hl3 => kk H locs ls2 hP hD hS hl3)
theorem wp_istore (C : Cx E cc own Ts nL rm) (lv2 : List (Nat × Value)) {i : Nat} {x : Int32} (hd : decode cc pc = .ok (.istore i, 2)) (hn : i < nL) (hl2 : (i, Value.int x) :: lv.filter (fun q => !(q.1 == i) && !(q.1 + 1 == i && q.2.category == 2)) = lv2) (kk : WP E nL cells slots T I J R (pc + 2) lv2 st) : WP E nL cells slots T I J R pc lv (.int x :: st) := by
  intro H locs ls hP hD hS hl
  exact lv_istore C.1 C.2.1 hd hl hn hl2 (fun ls2 hl3 => kk H locs ls2 hP hD hS hl3)
theorem wp_lstore_n (C : Cx E cc own Ts nL rm) (lv2 : List (Nat × Value)) {k : Fin 4} {i : Nat} {x : Int64} (hd : decode cc pc = .ok (.lstore_n k, 1)) (hi : (k : Nat) = i) (hn : i + 1 < nL) (hl2 : (i, Value.long x) :: lv.filter (fun q => !(q.1 == i) && (!(q.1 == i + 1) && !(q.1 + 1 == i && q.2.category == 2))) = lv2) (kk : WP E nL cells slots T I J R (pc + 1) lv2 st) : WP E nL cells slots T I J R pc lv (.long x :: st) := by
  intro H locs ls hP hD hS hl
  exact lv_lstore_n C.1 C.2.1 hd hi hl hn hl2 (fun ls2 hl3 => kk H locs ls2 hP hD hS hl3)
theorem wp_lstore (C : Cx E cc own Ts nL rm) (lv2 : List (Nat × Value)) {i : Nat} {x : Int64} (hd : decode cc pc = .ok (.lstore i, 2)) (hn : i + 1 < nL) (hl2 : (i, Value.long x) :: lv.filter (fun q => !(q.1 == i) && (!(q.1 == i + 1) && !(q.1 + 1 == i && q.2.category == 2))) = lv2) (kk : WP E nL cells slots T I J R (pc + 2) lv2 st) : WP E nL cells slots T I J R pc lv (.long x :: st) := by
  intro H locs ls hP hD hS hl
  exact lv_lstore C.1 C.2.1 hd hl hn hl2 (fun ls2 hl3 => kk H locs ls2 hP hD hS hl3)
theorem wp_astore_n (C : Cx E cc own Ts nL rm) (lv2 : List (Nat × Value)) {k : Fin 4} {i : Nat} {x : Nat} (hd : decode cc pc = .ok (.astore_n k, 1)) (hi : (k : Nat) = i) (hn : i < nL) (hl2 : (i, Value.ref x) :: lv.filter (fun q => !(q.1 == i) && !(q.1 + 1 == i && q.2.category == 2)) = lv2) (kk : WP E nL cells slots T I J R (pc + 1) lv2 st) : WP E nL cells slots T I J R pc lv (.ref x :: st) := by
  intro H locs ls hP hD hS hl
  exact lv_astore_n C.1 C.2.1 hd hi hl hn hl2 (fun ls2 hl3 => kk H locs ls2 hP hD hS hl3)
theorem wp_astore (C : Cx E cc own Ts nL rm) (lv2 : List (Nat × Value)) {i : Nat} {x : Nat} (hd : decode cc pc = .ok (.astore i, 2)) (hn : i < nL) (hl2 : (i, Value.ref x) :: lv.filter (fun q => !(q.1 == i) && !(q.1 + 1 == i && q.2.category == 2)) = lv2) (kk : WP E nL cells slots T I J R (pc + 2) lv2 st) : WP E nL cells slots T I J R pc lv (.ref x :: st) := by
  intro H locs ls hP hD hS hl
  exact lv_astore C.1 C.2.1 hd hl hn hl2 (fun ls2 hl3 => kk H locs ls2 hP hD hS hl3)
theorem wp_iinc (C : Cx E cc own Ts nL rm) (q : Nat) (v : Int32) (lv2 : List (Nat × Value)) {i : Nat} {n : Int} {x : Int32} (hd : decode cc pc = .ok (.iinc i n, 3)) (hq : lv[q]? = some (i, .int x)) (hv : x + Int32.ofInt n = v) (hn : i < nL) (hl2 : (i, Value.int v) :: lv.filter (fun q => !(q.1 == i) && !(q.1 + 1 == i && q.2.category == 2)) = lv2) (kk : WP E nL cells slots T I J R (pc + 3) lv2 st) : WP E nL cells slots T I J R pc lv st := by
  intro H locs ls hP hD hS hl
  exact lv_iinc C.1 C.2.1 hd hl hq hv hn hl2 (fun ls2 hl3 => kk H locs ls2 hP hD hS hl3)
theorem wp_iconst (C : Cx E cc own Ts nL rm) (v : Int32) {n : Int} (hd : decode cc pc = .ok (.iconst n, 1)) (hv : Int32.ofInt n = v) (k : WP E nL cells slots T I J R (pc + 1) lv (.int v :: st)) : WP E nL cells slots T I J R pc lv (st) := by
  intro H locs ls hP hD hS hl
  exact lv_iconst C.1 C.2.1 hd hv (k H locs ls hP hD hS hl)
theorem wp_bipush (C : Cx E cc own Ts nL rm) (v : Int32) {n : Int} (hd : decode cc pc = .ok (.bipush n, 2)) (hv : (Int8.ofInt n).toInt32 = v) (k : WP E nL cells slots T I J R (pc + 2) lv (.int v :: st)) : WP E nL cells slots T I J R pc lv (st) := by
  intro H locs ls hP hD hS hl
  exact lv_bipush C.1 C.2.1 hd hv (k H locs ls hP hD hS hl)
theorem wp_sipush (C : Cx E cc own Ts nL rm) (v : Int32) {n : Int} (hd : decode cc pc = .ok (.sipush n, 3)) (hv : (Int16.ofInt n).toInt32 = v) (k : WP E nL cells slots T I J R (pc + 3) lv (.int v :: st)) : WP E nL cells slots T I J R pc lv (st) := by
  intro H locs ls hP hD hS hl
  exact lv_sipush C.1 C.2.1 hd hv (k H locs ls hP hD hS hl)
theorem wp_lconst (C : Cx E cc own Ts nL rm) (v : Int64) {n : Fin 2} (hd : decode cc pc = .ok (.lconst n, 1)) (hv : Int64.ofNat (n : Nat) = v) (k : WP E nL cells slots T I J R (pc + 1) lv (.long v :: st)) : WP E nL cells slots T I J R pc lv (st) := by
  intro H locs ls hP hD hS hl
  exact lv_lconst C.1 C.2.1 hd hv (k H locs ls hP hD hS hl)
theorem wp_null (C : Cx E cc own Ts nL rm)  (hd : decode cc pc = .ok (.aconst_null, 1))  (k : WP E nL cells slots T I J R (pc + 1) lv (.null :: st)) : WP E nL cells slots T I J R pc lv (st) := by
  intro H locs ls hP hD hS hl
  exact lv_null C.1 C.2.1 hd  (k H locs ls hP hD hS hl)
theorem wp_ldc (C : Cx E cc own Ts nL rm) (v : Int32) {index : Nat} (hd : decode cc pc = .ok (.ldc index, 2)) (hw : Cond.constant own index v ∈ Ts) (k : WP E nL cells slots T I J R (pc + 2) lv (.int v :: st)) : WP E nL cells slots T I J R pc lv st := by
  intro H locs ls hP hD hS hl
  exact lv_ldc C.1 C.2.1 C.2.2.2.1 (C.2.2.2.2.1 _ hw) hd (k H locs ls hP hD hS hl)
theorem wp_ldcw (C : Cx E cc own Ts nL rm) (v : Int32) {index : Nat} (hd : decode cc pc = .ok (.ldc_w index, 3)) (hw : Cond.constant own index v ∈ Ts) (k : WP E nL cells slots T I J R (pc + 3) lv (.int v :: st)) : WP E nL cells slots T I J R pc lv st := by
  intro H locs ls hP hD hS hl
  exact lv_ldcw C.1 C.2.1 C.2.2.2.1 (C.2.2.2.2.1 _ hw) hd (k H locs ls hP hD hS hl)
theorem wp_ldc2 (C : Cx E cc own Ts nL rm) (v : Int64) {index : Nat} (hd : decode cc pc = .ok (.ldc2_w index, 3)) (hw : Cond.constantLong own index v ∈ Ts) (k : WP E nL cells slots T I J R (pc + 3) lv (.long v :: st)) : WP E nL cells slots T I J R pc lv st := by
  intro H locs ls hP hD hS hl
  exact lv_ldc2 C.1 C.2.1 C.2.2.2.1 (C.2.2.2.2.1 _ hw) hd (k H locs ls hP hD hS hl)
theorem wp_iadd (C : Cx E cc own Ts nL rm) {x y : Int32} (hd : decode cc pc = .ok (.iadd, 1))  (k : WP E nL cells slots T I J R (pc + 1) lv (.int (x + y) :: st)) : WP E nL cells slots T I J R pc lv (.int y :: .int x :: st) := by
  intro H locs ls hP hD hS hl
  exact lv_iadd C.1 C.2.1 hd  (k H locs ls hP hD hS hl)
theorem wp_isub (C : Cx E cc own Ts nL rm) {x y : Int32} (hd : decode cc pc = .ok (.isub, 1))  (k : WP E nL cells slots T I J R (pc + 1) lv (.int (x - y) :: st)) : WP E nL cells slots T I J R pc lv (.int y :: .int x :: st) := by
  intro H locs ls hP hD hS hl
  exact lv_isub C.1 C.2.1 hd  (k H locs ls hP hD hS hl)
theorem wp_imul (C : Cx E cc own Ts nL rm) {x y : Int32} (hd : decode cc pc = .ok (.imul, 1))  (k : WP E nL cells slots T I J R (pc + 1) lv (.int (x * y) :: st)) : WP E nL cells slots T I J R pc lv (.int y :: .int x :: st) := by
  intro H locs ls hP hD hS hl
  exact lv_imul C.1 C.2.1 hd  (k H locs ls hP hD hS hl)
theorem wp_iand (C : Cx E cc own Ts nL rm) {x y : Int32} (hd : decode cc pc = .ok (.iand, 1))  (k : WP E nL cells slots T I J R (pc + 1) lv (.int (x &&& y) :: st)) : WP E nL cells slots T I J R pc lv (.int y :: .int x :: st) := by
  intro H locs ls hP hD hS hl
  exact lv_iand C.1 C.2.1 hd  (k H locs ls hP hD hS hl)
theorem wp_ior (C : Cx E cc own Ts nL rm) {x y : Int32} (hd : decode cc pc = .ok (.ior, 1))  (k : WP E nL cells slots T I J R (pc + 1) lv (.int (x ||| y) :: st)) : WP E nL cells slots T I J R pc lv (.int y :: .int x :: st) := by
  intro H locs ls hP hD hS hl
  exact lv_ior C.1 C.2.1 hd  (k H locs ls hP hD hS hl)
theorem wp_ixor (C : Cx E cc own Ts nL rm) {x y : Int32} (hd : decode cc pc = .ok (.ixor, 1))  (k : WP E nL cells slots T I J R (pc + 1) lv (.int (x ^^^ y) :: st)) : WP E nL cells slots T I J R pc lv (.int y :: .int x :: st) := by
  intro H locs ls hP hD hS hl
  exact lv_ixor C.1 C.2.1 hd  (k H locs ls hP hD hS hl)
theorem wp_ishl (C : Cx E cc own Ts nL rm) {x y : Int32} (hd : decode cc pc = .ok (.ishl, 1))  (k : WP E nL cells slots T I J R (pc + 1) lv (.int (x <<< (y &&& 31)) :: st)) : WP E nL cells slots T I J R pc lv (.int y :: .int x :: st) := by
  intro H locs ls hP hD hS hl
  exact lv_ishl C.1 C.2.1 hd  (k H locs ls hP hD hS hl)
theorem wp_ishr (C : Cx E cc own Ts nL rm) {x y : Int32} (hd : decode cc pc = .ok (.ishr, 1))  (k : WP E nL cells slots T I J R (pc + 1) lv (.int (x >>> (y &&& 31)) :: st)) : WP E nL cells slots T I J R pc lv (.int y :: .int x :: st) := by
  intro H locs ls hP hD hS hl
  exact lv_ishr C.1 C.2.1 hd  (k H locs ls hP hD hS hl)
theorem wp_idiv (C : Cx E cc own Ts nL rm) {x y : Int32} (hd : decode cc pc = .ok (.idiv, 1)) (hne : ¬ y = 0) (k : WP E nL cells slots T I J R (pc + 1) lv (.int (x / y) :: st)) : WP E nL cells slots T I J R pc lv (.int y :: .int x :: st) := by
  intro H locs ls hP hD hS hl
  exact lv_idiv C.1 C.2.1 hd hne (k H locs ls hP hD hS hl)
theorem wp_irem (C : Cx E cc own Ts nL rm) {x y : Int32} (hd : decode cc pc = .ok (.irem, 1)) (hne : ¬ y = 0) (k : WP E nL cells slots T I J R (pc + 1) lv (.int (x - x / y * y) :: st)) : WP E nL cells slots T I J R pc lv (.int y :: .int x :: st) := by
  intro H locs ls hP hD hS hl
  exact lv_irem C.1 C.2.1 hd hne (k H locs ls hP hD hS hl)
theorem wp_ladd (C : Cx E cc own Ts nL rm) {x y : Int64} (hd : decode cc pc = .ok (.ladd, 1))  (k : WP E nL cells slots T I J R (pc + 1) lv (.long (x + y) :: st)) : WP E nL cells slots T I J R pc lv (.long y :: .long x :: st) := by
  intro H locs ls hP hD hS hl
  exact lv_ladd C.1 C.2.1 hd  (k H locs ls hP hD hS hl)
theorem wp_lsub (C : Cx E cc own Ts nL rm) {x y : Int64} (hd : decode cc pc = .ok (.lsub, 1))  (k : WP E nL cells slots T I J R (pc + 1) lv (.long (x - y) :: st)) : WP E nL cells slots T I J R pc lv (.long y :: .long x :: st) := by
  intro H locs ls hP hD hS hl
  exact lv_lsub C.1 C.2.1 hd  (k H locs ls hP hD hS hl)
theorem wp_lmul (C : Cx E cc own Ts nL rm) {x y : Int64} (hd : decode cc pc = .ok (.lmul, 1))  (k : WP E nL cells slots T I J R (pc + 1) lv (.long (x * y) :: st)) : WP E nL cells slots T I J R pc lv (.long y :: .long x :: st) := by
  intro H locs ls hP hD hS hl
  exact lv_lmul C.1 C.2.1 hd  (k H locs ls hP hD hS hl)
theorem wp_land (C : Cx E cc own Ts nL rm) {x y : Int64} (hd : decode cc pc = .ok (.land, 1))  (k : WP E nL cells slots T I J R (pc + 1) lv (.long (x &&& y) :: st)) : WP E nL cells slots T I J R pc lv (.long y :: .long x :: st) := by
  intro H locs ls hP hD hS hl
  exact lv_land C.1 C.2.1 hd  (k H locs ls hP hD hS hl)
theorem wp_lor (C : Cx E cc own Ts nL rm) {x y : Int64} (hd : decode cc pc = .ok (.lor, 1))  (k : WP E nL cells slots T I J R (pc + 1) lv (.long (x ||| y) :: st)) : WP E nL cells slots T I J R pc lv (.long y :: .long x :: st) := by
  intro H locs ls hP hD hS hl
  exact lv_lor C.1 C.2.1 hd  (k H locs ls hP hD hS hl)
theorem wp_ldiv (C : Cx E cc own Ts nL rm) {x y : Int64} (hd : decode cc pc = .ok (.ldiv, 1)) (hne : ¬ y = 0) (k : WP E nL cells slots T I J R (pc + 1) lv (.long (x / y) :: st)) : WP E nL cells slots T I J R pc lv (.long y :: .long x :: st) := by
  intro H locs ls hP hD hS hl
  exact lv_ldiv C.1 C.2.1 hd hne (k H locs ls hP hD hS hl)
theorem wp_lneg (C : Cx E cc own Ts nL rm) {x : Int64} (hd : decode cc pc = .ok (.lneg, 1))  (k : WP E nL cells slots T I J R (pc + 1) lv (.long (-x) :: st)) : WP E nL cells slots T I J R pc lv (.long x :: st) := by
  intro H locs ls hP hD hS hl
  exact lv_lneg C.1 C.2.1 hd  (k H locs ls hP hD hS hl)
theorem wp_iushr (C : Cx E cc own Ts nL rm) {x y : Int32} (hd : decode cc pc = .ok (.iushr, 1))  (k : WP E nL cells slots T I J R (pc + 1) lv (.int ((x.toUInt32 >>> (y.toUInt32 &&& Int32.toUInt32 31)).toInt32) :: st)) : WP E nL cells slots T I J R pc lv (.int y :: .int x :: st) := by
  intro H locs ls hP hD hS hl
  exact lv_iushr C.1 C.2.1 hd rfl (k H locs ls hP hD hS hl)
theorem wp_lshl (C : Cx E cc own Ts nL rm) {x : Int64} {y : Int32} (hd : decode cc pc = .ok (.lshl, 1))  (k : WP E nL cells slots T I J R (pc + 1) lv (.long (x <<< (y.toInt64 &&& 63)) :: st)) : WP E nL cells slots T I J R pc lv (.int y :: .long x :: st) := by
  intro H locs ls hP hD hS hl
  exact lv_lshl C.1 C.2.1 hd rfl (k H locs ls hP hD hS hl)
theorem wp_i2l (C : Cx E cc own Ts nL rm) {x : Int32} (hd : decode cc pc = .ok (.i2l, 1))  (k : WP E nL cells slots T I J R (pc + 1) lv (.long (x.toInt64) :: st)) : WP E nL cells slots T I J R pc lv (.int x :: st) := by
  intro H locs ls hP hD hS hl
  exact lv_i2l C.1 C.2.1 hd rfl (k H locs ls hP hD hS hl)
theorem wp_l2i (C : Cx E cc own Ts nL rm) {x : Int64} (hd : decode cc pc = .ok (.l2i, 1))  (k : WP E nL cells slots T I J R (pc + 1) lv (.int (x.toInt32) :: st)) : WP E nL cells slots T I J R pc lv (.long x :: st) := by
  intro H locs ls hP hD hS hl
  exact lv_l2i C.1 C.2.1 hd rfl (k H locs ls hP hD hS hl)
theorem wp_i2b (C : Cx E cc own Ts nL rm) {x : Int32} (hd : decode cc pc = .ok (.i2b, 1))  (k : WP E nL cells slots T I J R (pc + 1) lv (.int (x.toInt8.toInt32) :: st)) : WP E nL cells slots T I J R pc lv (.int x :: st) := by
  intro H locs ls hP hD hS hl
  exact lv_i2b C.1 C.2.1 hd rfl (k H locs ls hP hD hS hl)
theorem wp_i2s (C : Cx E cc own Ts nL rm) {x : Int32} (hd : decode cc pc = .ok (.i2s, 1))  (k : WP E nL cells slots T I J R (pc + 1) lv (.int (x.toInt16.toInt32) :: st)) : WP E nL cells slots T I J R pc lv (.int x :: st) := by
  intro H locs ls hP hD hS hl
  exact lv_i2s C.1 C.2.1 hd rfl (k H locs ls hP hD hS hl)
theorem wp_lcmp (C : Cx E cc own Ts nL rm) {x y : Int64} (hd : decode cc pc = .ok (.lcmp, 1))  (k : WP E nL cells slots T I J R (pc + 1) lv (.int (lg_cmp x y) :: st)) : WP E nL cells slots T I J R pc lv (.long y :: .long x :: st) := by
  intro H locs ls hP hD hS hl
  exact W.lcmp C.1 C.2.1 hd  (k H locs ls hP hD hS hl)
theorem wp_dup (C : Cx E cc own Ts nL rm) {va : Value} (hd : decode cc pc = .ok (.dup, 1)) (hva : va.category = 1) (k : WP E nL cells slots T I J R (pc + 1) lv (va :: va :: st)) : WP E nL cells slots T I J R pc lv (va :: st) := by
  intro H locs ls hP hD hS hl
  exact lv_dup C.1 C.2.1 hd hva (k H locs ls hP hD hS hl)
theorem wp_dup2 (C : Cx E cc own Ts nL rm) {va vb : Value} (hd : decode cc pc = .ok (.dup2, 1)) (hva : va.category = 1) (hvb : vb.category = 1) (k : WP E nL cells slots T I J R (pc + 1) lv (va :: vb :: va :: vb :: st)) : WP E nL cells slots T I J R pc lv (va :: vb :: st) := by
  intro H locs ls hP hD hS hl
  exact lv_dup2_11 C.1 C.2.1 hd hva hvb (k H locs ls hP hD hS hl)
theorem wp_pop (C : Cx E cc own Ts nL rm) {va : Value} (hd : decode cc pc = .ok (.pop, 1)) (hva : va.category = 1) (k : WP E nL cells slots T I J R (pc + 1) lv (st)) : WP E nL cells slots T I J R pc lv (va :: st) := by
  intro H locs ls hP hD hS hl
  exact lv_pop C.1 C.2.1 hd hva (k H locs ls hP hD hS hl)
theorem wp_if_eq (C : Cx E cc own Ts nL rm) (tgt : Nat) {x : Int32} {off : Int} (hd : decode cc pc = .ok (.ifCond .eq off, 3)) (ht : (pc : Int) + off = (tgt : Int)) (kt : x = 0 → WP E nL cells slots T I J R tgt lv st) (kf : ¬ x = 0 → WP E nL cells slots T I J R (pc + 3) lv st) : WP E nL cells slots T I J R pc lv (.int x :: st) := by
  intro H locs ls hP hD hS hl
  exact lv_if_eq C.1 C.2.1 hd ht (fun h => kt h H locs ls hP hD hS hl) (fun h => kf h H locs ls hP hD hS hl)
theorem wp_icmp_eq (C : Cx E cc own Ts nL rm) (tgt : Nat) {x y : Int32} {off : Int} (hd : decode cc pc = .ok (.if_icmp .eq off, 3)) (ht : (pc : Int) + off = (tgt : Int)) (kt : x = y → WP E nL cells slots T I J R tgt lv st) (kf : ¬ x = y → WP E nL cells slots T I J R (pc + 3) lv st) : WP E nL cells slots T I J R pc lv (.int y :: .int x :: st) := by
  intro H locs ls hP hD hS hl
  exact lv_icmp_eq C.1 C.2.1 hd ht (fun h => kt h H locs ls hP hD hS hl) (fun h => kf h H locs ls hP hD hS hl)
theorem wp_if_ne (C : Cx E cc own Ts nL rm) (tgt : Nat) {x : Int32} {off : Int} (hd : decode cc pc = .ok (.ifCond .ne off, 3)) (ht : (pc : Int) + off = (tgt : Int)) (kt : ¬ x = 0 → WP E nL cells slots T I J R tgt lv st) (kf : x = 0 → WP E nL cells slots T I J R (pc + 3) lv st) : WP E nL cells slots T I J R pc lv (.int x :: st) := by
  intro H locs ls hP hD hS hl
  exact lv_if_ne C.1 C.2.1 hd ht (fun h => kt h H locs ls hP hD hS hl) (fun h => kf h H locs ls hP hD hS hl)
theorem wp_icmp_ne (C : Cx E cc own Ts nL rm) (tgt : Nat) {x y : Int32} {off : Int} (hd : decode cc pc = .ok (.if_icmp .ne off, 3)) (ht : (pc : Int) + off = (tgt : Int)) (kt : ¬ x = y → WP E nL cells slots T I J R tgt lv st) (kf : x = y → WP E nL cells slots T I J R (pc + 3) lv st) : WP E nL cells slots T I J R pc lv (.int y :: .int x :: st) := by
  intro H locs ls hP hD hS hl
  exact lv_icmp_ne C.1 C.2.1 hd ht (fun h => kt h H locs ls hP hD hS hl) (fun h => kf h H locs ls hP hD hS hl)
theorem wp_if_lt (C : Cx E cc own Ts nL rm) (tgt : Nat) {x : Int32} {off : Int} (hd : decode cc pc = .ok (.ifCond .lt off, 3)) (ht : (pc : Int) + off = (tgt : Int)) (kt : x < 0 → WP E nL cells slots T I J R tgt lv st) (kf : ¬ x < 0 → WP E nL cells slots T I J R (pc + 3) lv st) : WP E nL cells slots T I J R pc lv (.int x :: st) := by
  intro H locs ls hP hD hS hl
  exact lv_if_lt C.1 C.2.1 hd ht (fun h => kt h H locs ls hP hD hS hl) (fun h => kf h H locs ls hP hD hS hl)
theorem wp_icmp_lt (C : Cx E cc own Ts nL rm) (tgt : Nat) {x y : Int32} {off : Int} (hd : decode cc pc = .ok (.if_icmp .lt off, 3)) (ht : (pc : Int) + off = (tgt : Int)) (kt : x < y → WP E nL cells slots T I J R tgt lv st) (kf : ¬ x < y → WP E nL cells slots T I J R (pc + 3) lv st) : WP E nL cells slots T I J R pc lv (.int y :: .int x :: st) := by
  intro H locs ls hP hD hS hl
  exact lv_icmp_lt C.1 C.2.1 hd ht (fun h => kt h H locs ls hP hD hS hl) (fun h => kf h H locs ls hP hD hS hl)
theorem wp_if_ge (C : Cx E cc own Ts nL rm) (tgt : Nat) {x : Int32} {off : Int} (hd : decode cc pc = .ok (.ifCond .ge off, 3)) (ht : (pc : Int) + off = (tgt : Int)) (kt : 0 ≤ x → WP E nL cells slots T I J R tgt lv st) (kf : ¬ 0 ≤ x → WP E nL cells slots T I J R (pc + 3) lv st) : WP E nL cells slots T I J R pc lv (.int x :: st) := by
  intro H locs ls hP hD hS hl
  exact lv_if_ge C.1 C.2.1 hd ht (fun h => kt h H locs ls hP hD hS hl) (fun h => kf h H locs ls hP hD hS hl)
theorem wp_icmp_ge (C : Cx E cc own Ts nL rm) (tgt : Nat) {x y : Int32} {off : Int} (hd : decode cc pc = .ok (.if_icmp .ge off, 3)) (ht : (pc : Int) + off = (tgt : Int)) (kt : y ≤ x → WP E nL cells slots T I J R tgt lv st) (kf : ¬ y ≤ x → WP E nL cells slots T I J R (pc + 3) lv st) : WP E nL cells slots T I J R pc lv (.int y :: .int x :: st) := by
  intro H locs ls hP hD hS hl
  exact lv_icmp_ge C.1 C.2.1 hd ht (fun h => kt h H locs ls hP hD hS hl) (fun h => kf h H locs ls hP hD hS hl)
theorem wp_if_gt (C : Cx E cc own Ts nL rm) (tgt : Nat) {x : Int32} {off : Int} (hd : decode cc pc = .ok (.ifCond .gt off, 3)) (ht : (pc : Int) + off = (tgt : Int)) (kt : 0 < x → WP E nL cells slots T I J R tgt lv st) (kf : ¬ 0 < x → WP E nL cells slots T I J R (pc + 3) lv st) : WP E nL cells slots T I J R pc lv (.int x :: st) := by
  intro H locs ls hP hD hS hl
  exact lv_if_gt C.1 C.2.1 hd ht (fun h => kt h H locs ls hP hD hS hl) (fun h => kf h H locs ls hP hD hS hl)
theorem wp_icmp_gt (C : Cx E cc own Ts nL rm) (tgt : Nat) {x y : Int32} {off : Int} (hd : decode cc pc = .ok (.if_icmp .gt off, 3)) (ht : (pc : Int) + off = (tgt : Int)) (kt : y < x → WP E nL cells slots T I J R tgt lv st) (kf : ¬ y < x → WP E nL cells slots T I J R (pc + 3) lv st) : WP E nL cells slots T I J R pc lv (.int y :: .int x :: st) := by
  intro H locs ls hP hD hS hl
  exact lv_icmp_gt C.1 C.2.1 hd ht (fun h => kt h H locs ls hP hD hS hl) (fun h => kf h H locs ls hP hD hS hl)
theorem wp_if_le (C : Cx E cc own Ts nL rm) (tgt : Nat) {x : Int32} {off : Int} (hd : decode cc pc = .ok (.ifCond .le off, 3)) (ht : (pc : Int) + off = (tgt : Int)) (kt : x ≤ 0 → WP E nL cells slots T I J R tgt lv st) (kf : ¬ x ≤ 0 → WP E nL cells slots T I J R (pc + 3) lv st) : WP E nL cells slots T I J R pc lv (.int x :: st) := by
  intro H locs ls hP hD hS hl
  exact lv_if_le C.1 C.2.1 hd ht (fun h => kt h H locs ls hP hD hS hl) (fun h => kf h H locs ls hP hD hS hl)
theorem wp_icmp_le (C : Cx E cc own Ts nL rm) (tgt : Nat) {x y : Int32} {off : Int} (hd : decode cc pc = .ok (.if_icmp .le off, 3)) (ht : (pc : Int) + off = (tgt : Int)) (kt : x ≤ y → WP E nL cells slots T I J R tgt lv st) (kf : ¬ x ≤ y → WP E nL cells slots T I J R (pc + 3) lv st) : WP E nL cells slots T I J R pc lv (.int y :: .int x :: st) := by
  intro H locs ls hP hD hS hl
  exact lv_icmp_le C.1 C.2.1 hd ht (fun h => kt h H locs ls hP hD hS hl) (fun h => kf h H locs ls hP hD hS hl)
theorem wp_goto (C : Cx E cc own Ts nL rm) (tgt : Nat) {off : Int} (hd : decode cc pc = .ok (.goto off, 3)) (ht : (pc : Int) + off = (tgt : Int)) (k : WP E nL cells slots T I J R tgt lv st) : WP E nL cells slots T I J R pc lv st := by
  intro H locs ls hP hD hS hl
  exact lv_goto C.1 C.2.1 hd ht (k H locs ls hP hD hS hl)
theorem wp_nn (C : Cx E cc own Ts nL rm) (tgt : Nat) {x : Nat} {off : Int} (hd : decode cc pc = .ok (.ifnonnull off, 3)) (ht : (pc : Int) + off = (tgt : Int)) (k : WP E nL cells slots T I J R tgt lv st) : WP E nL cells slots T I J R pc lv (.ref x :: st) := by
  intro H locs ls hP hD hS hl
  exact lv_ifnonnull C.1 C.2.1 hd ht (k H locs ls hP hD hS hl)
theorem wp_nnN (C : Cx E cc own Ts nL rm) {off : Int} (hd : decode cc pc = .ok (.ifnonnull off, 3)) (k : WP E nL cells slots T I J R (pc + 3) lv st) : WP E nL cells slots T I J R pc lv (.null :: st) := by
  intro H locs ls hP hD hS hl
  exact lv_ifnonnullN C.1 C.2.1 hd (k H locs ls hP hD hS hl)
theorem wp_topi {x : Int32} (k : ∀ y : Int32, y = x → WP E nL cells slots T I J R pc lv (.int y :: st)) : WP E nL cells slots T I J R pc lv (.int x :: st) := k x rfl
theorem wp_topl {x : Int64} (k : ∀ y : Int64, y = x → WP E nL cells slots T I J R pc lv (.long y :: st)) : WP E nL cells slots T I J R pc lv (.long x :: st) := k x rfl
theorem wp_eqi {x y : Int32} (h : x = y) (k : WP E nL cells slots T I J R pc lv (.int y :: st)) : WP E nL cells slots T I J R pc lv (.int x :: st) := h ▸ k
theorem wp_eql {x y : Int64} (h : x = y) (k : WP E nL cells slots T I J R pc lv (.long y :: st)) : WP E nL cells slots T I J R pc lv (.long x :: st) := h ▸ k
theorem wp_eqr {x : Option Nat} {y : Nat} (h : x = some y) (k : WP E nL cells slots T I J R pc lv (.ref y :: st)) : WP E nL cells slots T I J R pc lv (va_rf x :: st) := by subst h; exact k
theorem wp_sub {lv2 : List (Nat × Value)} (h : ∀ q ∈ lv2, q ∈ lv) (k : WP E nL cells slots T I J R pc lv2 st) : WP E nL cells slots T I J R pc lv st := by
  intro H locs ls hP hD hS hl
  exact k H locs ls hP hD hS ⟨hl.1, hl.2.1, fun q hq => hl.2.2 q (h q hq)⟩
theorem wp_widen {k n : Nat} (h1 : cells ≤ k) (h2 : slots ≤ n) (kk : WP E nL k n T I J R pc lv st) : WP E nL cells slots T I J R pc lv st := by
  intro H locs ls hP hD hS hl
  exact W.widen h1 h2 (kk H locs ls hP hD hS hl)
theorem wp_tableIn (C : Cx E cc own Ts nL rm) (tgt : Nat) {dflt lo hi : Int} {offs : Array Int} {len : Nat} {x : Int32} {off : Int} (hd : decode cc pc = .ok (.tableswitch dflt lo hi offs, len)) (h1 : ¬ x.toInt < lo) (h2 : ¬ hi < x.toInt) (ho : offs[(x.toInt - lo).toNat]? = some off) (ht : (pc : Int) + off = (tgt : Int)) (k : WP E nL cells slots T I J R tgt lv st) : WP E nL cells slots T I J R pc lv (.int x :: st) := by
  intro H locs ls hP hD hS hl
  exact lv_tableIn C.1 C.2.1 hd h1 h2 ho ht (k H locs ls hP hD hS hl)
theorem wp_tableOut (C : Cx E cc own Ts nL rm) (tgt : Nat) {dflt lo hi : Int} {offs : Array Int} {len : Nat} {x : Int32} (hd : decode cc pc = .ok (.tableswitch dflt lo hi offs, len)) (h : x.toInt < lo ∨ hi < x.toInt) (ht : (pc : Int) + dflt = (tgt : Int)) (k : WP E nL cells slots T I J R tgt lv st) : WP E nL cells slots T I J R pc lv (.int x :: st) := by
  intro H locs ls hP hD hS hl
  exact lv_tableOut C.1 C.2.1 hd h ht (k H locs ls hP hD hS hl)
end WPR
