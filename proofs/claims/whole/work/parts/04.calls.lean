/-! ===== new cells, calls and returns over the pool ===== -/
theorem gW_push {cy : Nat → ClassId} {T : gSh} {I : gI} {J : gJ} {R : gR} {q kd n : Nat} {e : va_E} {fI : Nat → Int32} {fJ : Nat → Int64} {fR : Nat → Option Nat} (hq : q ∉ T.1) (he : e = gE cy (T.1 ++ [q], va_up T.2.1 q kd, va_up T.2.2 q n) (va_up I q fI) (va_up J q fJ) (va_up R q fR) q) :
    gW cy T I J R ++ [(q, e)] = gW cy (T.1 ++ [q], va_up T.2.1 q kd, va_up T.2.2 q n) (va_up I q fI) (va_up J q fJ) (va_up R q fR) := by
  show va_pl T.1 (gE cy T I J R) ++ [(q, e)] = va_pl (T.1 ++ [q]) _
  rw [va_pl_push hq]
  refine va_pl_congr (fun b => ?_)
  by_cases hb : b = q
  · subst hb; rw [va_up_self, he]
  · rw [va_up_ne _ _ hb]
    simp only [gE, gF, va_up_ne _ _ hb]
theorem gW_fresh {A : Nat → Prop} {cy : Nat → ClassId} {T : gSh} {I : gI} {J : gJ} {R : gR} {q : Nat} {e : va_E} (hD : va_D A (gW cy T I J R ++ [(q, e)])) : q ∉ T.1 := by
  intro hq
  obtain ⟨k, hk⟩ := gW_at (cy := cy) (I := I) (J := J) (R := R) hq
  have hlt : k < (gW cy T I J R).length := (List.getElem?_eq_some_iff.mp hk).1
  have h1 : (gW cy T I J R ++ [(q, e)])[k]? = some (q, gE cy T I J R q) := by rw [List.getElem?_append_left hlt]; exact hk
  have h2 : (gW cy T I J R ++ [(q, e)])[(gW cy T I J R).length]? = some (q, e) := by simp
  have := hD.1 _ _ _ _ h1 h2 rfl
  omega
section WPC
variable {E : gEnv} {cc : ByteArray} {own : String} {Ts : List Cond} {nL : Nat} {rm : Room} {cells slots : Nat} {T : gSh} {I : gI} {J : gJ} {R : gR} {pc : Nat} {lv : List (Nat × Value)} {st : List Value}
set_option maxHeartbeats 1000000 in
theorem wp_new (C : Cx E cc own Ts nL rm) {idx ci : Nat} (hd : decode cc pc = .ok (.new idx, 3)) (f : NL Ts own idx ci) (h1 : cells + 1 ≤ rm.cells) (h2 : slots + gN ci ≤ rm.slots)
    (kk : ∀ q : Nat, q ∉ T.1 → WP E nL (cells + 1) (slots + gN ci) (T.1 ++ [q], va_up T.2.1 q ci, va_up T.2.2 q 0) (va_up I q (fun _ => 0)) (va_up J q (fun _ => 0)) (va_up R q (fun _ => none)) (pc + 3) lv (.ref q :: st)) : WP E nL cells slots T I J R pc lv st := by
  intro H locs ls hP hD hS hl
  obtain ⟨Cn, Tt, N, ty0, hc, hN, h13, hin, hcl, hins, hini, hty, hdf⟩ := f
  subst hN
  have hR := C.2.2.2.2.2.2.2.2.2
  refine va_new (ci := ci) (fs := gD ci) (C := Cn) (T := Tt) (N := gN ci) C.1 C.2.1 C.2.2.2.2.1 hin ty0 hty C.2.2.2.1 (C.2.2.2.2.1 _ hcl) (C.2.2.2.2.1 _ hins) (C.2.2.2.2.1 _ hini) C.2.2.2.2.2.1 hP hD hS C.2.2.2.2.2.2.2.1 hc hdf (by rw [hR]; exact h1) (by rw [hR]; exact h2) hd (fun q H1 hP1 hD1 hS1 => ?_)
  have hq := gW_fresh hD1
  have hpush := gW_push (cy := E.2.2.2.1) (I := I) (J := J) (R := R) (q := q) (kd := ci) (n := 0) (e := .inr (ci, gD ci)) (fI := fun _ => 0) (fJ := fun _ => 0) (fR := fun _ => none) hq (by
    rw [gE_ob (ci := ci) (by simp [va_up]) h13]
    simp only [gD, gF, va_up_self])
  exact kk q hq H1 locs ls (hpush ▸ hP1) (hpush ▸ hD1) hS1 hl
theorem cy_eq {s : State} {D : va_G} {cy : Nat → ClassId} {cA : ClassId} {ty : FieldType} {k : Nat} {t : List (ClassId × FieldType)} (h1 : va_K D vwCl t s) (h2 : va_K D vwCl (t ++ [(cA, ty)]) s) (hk : t[k]? = some (cy (13 + k), ty)) : cA = cy (13 + k) := by
  have a1 := (h1.2 k _ hk).2
  have a2 := (h2.2 t.length (cA, ty) (by simp)).2
  have e : ∀ c1 c2 : ClassId, va_RA s c1 ty → va_RA s c2 ty → c1 = c2 := by
    intro c1 c2 b1 b2
    cases ty with
    | object Cn =>
      obtain ⟨_, _, _, _, _, h4⟩ := b1
      obtain ⟨_, _, _, _, _, h5⟩ := b2
      rw [h4] at h5
      exact Option.some.inj h5
    | _ =>
      have b1' : s.vm.findClass _ = some c1 := b1
      have b2' : s.vm.findClass _ = some c2 := b2
      rw [b1'] at b2'
      exact Option.some.inj b2'
  exact e _ _ a2 a1
set_option maxHeartbeats 1000000 in
theorem wp_newaI (C : Cx E cc own Ts nL rm) {n : Nat} {i : Int32} (hd : decode cc pc = .ok (.newarray .int, 2)) (hw : Cond.arrayClass .int ∈ Ts) (hi : i = nI n) (hn : n ≤ 1000) (h1 : cells + 1 ≤ rm.cells) (h2 : slots + n ≤ rm.slots)
    (kk : ∀ q : Nat, q ∉ T.1 → WP E nL (cells + 1) (slots + n) (T.1 ++ [q], va_up T.2.1 q 13, va_up T.2.2 q n) (va_up I q (fun _ => 0)) (va_up J q (fun _ => 0)) (va_up R q (fun _ => none)) (pc + 2) lv (.ref q :: st)) : WP E nL cells slots T I J R pc lv (.int i :: st) := by
  intro H locs ls hP hD hS hl
  subst hi
  have hR := C.2.2.2.2.2.2.2.2.2
  refine va_newa (atype := .int) (ty := .int) (a0 := (n, .inl (fun _ => 0))) (N' := n) C.1 C.2.1 (C.2.2.2.2.1 _ hw) rfl C.2.2.2.2.2.1 hP hD hS C.2.2.2.2.2.2.2.1 (fun cA => rfl) (nI_pos (by omega)) (nI_clamp (by omega)) (by show n * 4 ≤ _; omega) (by rw [hR]; exact h1) (by rw [hR]; exact h2) hd (fun q cA H1 hK1 hP1 hD1 hS1 => ?_)
  have hcA := cy_eq (cy := E.2.2.2.1) (k := 0) C.2.2.2.2.2.1 hK1 rfl
  subst hcA
  have hq := gW_fresh hD1
  have hpush := gW_push (cy := E.2.2.2.1) (I := I) (J := J) (R := R) (q := q) (kd := 13) (n := n) (e := .inl (E.2.2.2.1 13, n, .inl (fun _ => 0))) (fI := fun _ => 0) (fJ := fun _ => 0) (fR := fun _ => none) hq (by
    rw [gE_I (by simp [va_up])]
    simp only [va_up_self])
  exact kk q hq H1 locs ls (hpush ▸ hP1) (hpush ▸ hD1) hS1 hl
set_option maxHeartbeats 1000000 in
theorem wp_newaJ (C : Cx E cc own Ts nL rm) {n : Nat} {i : Int32} (hd : decode cc pc = .ok (.newarray .long, 2)) (hw : Cond.arrayClass .long ∈ Ts) (hi : i = nI n) (hn : n ≤ 1000) (h1 : cells + 1 ≤ rm.cells) (h2 : slots + n ≤ rm.slots)
    (kk : ∀ q : Nat, q ∉ T.1 → WP E nL (cells + 1) (slots + n) (T.1 ++ [q], va_up T.2.1 q 14, va_up T.2.2 q n) (va_up I q (fun _ => 0)) (va_up J q (fun _ => 0)) (va_up R q (fun _ => none)) (pc + 2) lv (.ref q :: st)) : WP E nL cells slots T I J R pc lv (.int i :: st) := by
  intro H locs ls hP hD hS hl
  subst hi
  have hR := C.2.2.2.2.2.2.2.2.2
  refine va_newa (atype := .long) (ty := .long) (a0 := (n, .inr (.inl (fun _ => 0)))) (N' := n) C.1 C.2.1 (C.2.2.2.2.1 _ hw) rfl C.2.2.2.2.2.1 hP hD hS C.2.2.2.2.2.2.2.1 (fun cA => rfl) (nI_pos (by omega)) (nI_clamp (by omega)) (by show n * 8 ≤ _; omega) (by rw [hR]; exact h1) (by rw [hR]; exact h2) hd (fun q cA H1 hK1 hP1 hD1 hS1 => ?_)
  have hcA := cy_eq (cy := E.2.2.2.1) (k := 1) C.2.2.2.2.2.1 hK1 rfl
  subst hcA
  have hq := gW_fresh hD1
  have hpush := gW_push (cy := E.2.2.2.1) (I := I) (J := J) (R := R) (q := q) (kd := 14) (n := n) (e := .inl (E.2.2.2.1 14, n, .inr (.inl (fun _ => 0)))) (fI := fun _ => 0) (fJ := fun _ => 0) (fR := fun _ => none) hq (by
    rw [gE_J (by simp [va_up])]
    simp only [va_up_self])
  exact kk q hq H1 locs ls (hpush ▸ hP1) (hpush ▸ hD1) hS1 hl
set_option maxHeartbeats 1000000 in
theorem wp_newaZ (C : Cx E cc own Ts nL rm) {n : Nat} {i : Int32} (hd : decode cc pc = .ok (.newarray .boolean, 2)) (hw : Cond.arrayClass .boolean ∈ Ts) (hi : i = nI n) (hn : n ≤ 1000) (h1 : cells + 1 ≤ rm.cells) (h2 : slots + n ≤ rm.slots)
    (kk : ∀ q : Nat, q ∉ T.1 → WP E nL (cells + 1) (slots + n) (T.1 ++ [q], va_up T.2.1 q 15, va_up T.2.2 q n) (va_up I q (fun _ => 0)) (va_up J q (fun _ => 0)) (va_up R q (fun _ => none)) (pc + 2) lv (.ref q :: st)) : WP E nL cells slots T I J R pc lv (.int i :: st) := by
  intro H locs ls hP hD hS hl
  subst hi
  have hR := C.2.2.2.2.2.2.2.2.2
  refine va_newa (atype := .boolean) (ty := .boolean) (a0 := (n, .inl (fun _ => 0))) (N' := n) C.1 C.2.1 (C.2.2.2.2.1 _ hw) rfl C.2.2.2.2.2.1 hP hD hS C.2.2.2.2.2.2.2.1 (fun cA => rfl) (nI_pos (by omega)) (nI_clamp (by omega)) (by show n * 1 ≤ _; omega) (by rw [hR]; exact h1) (by rw [hR]; exact h2) hd (fun q cA H1 hK1 hP1 hD1 hS1 => ?_)
  have hcA := cy_eq (cy := E.2.2.2.1) (k := 2) C.2.2.2.2.2.1 hK1 rfl
  subst hcA
  have hq := gW_fresh hD1
  have hpush := gW_push (cy := E.2.2.2.1) (I := I) (J := J) (R := R) (q := q) (kd := 15) (n := n) (e := .inl (E.2.2.2.1 15, n, .inl (fun _ => 0))) (fI := fun _ => 0) (fJ := fun _ => 0) (fR := fun _ => none) hq (by
    rw [gE_Z (by simp [va_up])]
    simp only [va_up_self])
  exact kk q hq H1 locs ls (hpush ▸ hP1) (hpush ▸ hD1) hS1 hl
set_option maxHeartbeats 1000000 in
theorem wp_newq (C : Cx E cc own Ts nL rm) {n k idx : Nat} {i : Int32} (Cn : String) (hd : decode cc pc = .ok (.anewarray idx, 3)) (hw : Cond.classLink own idx Cn ∈ Ts) (hao : va_AO Cn E.1.2.2.2.2) (hk : 3 ≤ k) (hty : (gY E.2.2.2.1)[k]? = some (E.2.2.2.1 (13 + k), .object Cn)) (hi : i = nI n) (hn : n ≤ 1000) (h1 : cells + 1 ≤ rm.cells) (h2 : slots + n ≤ rm.slots)
    (kk : ∀ q : Nat, q ∉ T.1 → WP E nL (cells + 1) (slots + n) (T.1 ++ [q], va_up T.2.1 q (13 + k), va_up T.2.2 q n) (va_up I q (fun _ => 0)) (va_up J q (fun _ => 0)) (va_up R q (fun _ => none)) (pc + 3) lv (.ref q :: st)) : WP E nL cells slots T I J R pc lv (.int i :: st) := by
  intro H locs ls hP hD hS hl
  subst hi
  have hR := C.2.2.2.2.2.2.2.2.2
  refine va_newq (N' := n) C.1 C.2.1 C.2.2.2.1 (C.2.2.2.2.1 _ hw) hao C.2.2.2.2.2.1 hP hD hS C.2.2.2.2.2.2.2.1 (nI_pos (by omega)) (nI_clamp (by omega)) (by omega) (by rw [hR]; exact h1) (by rw [hR]; exact h2) hd (fun q cA H1 hK1 hP1 hD1 hS1 => ?_)
  have hcA := cy_eq (cy := E.2.2.2.1) (k := k) C.2.2.2.2.2.1 hK1 hty
  subst hcA
  have hq := gW_fresh hD1
  have hpush := gW_push (cy := E.2.2.2.1) (I := I) (J := J) (R := R) (q := q) (kd := 13 + k) (n := n) (e := .inl (E.2.2.2.1 (13 + k), n, .inr (.inr (.inr (.inr (fun _ => none)))))) (fI := fun _ => 0) (fJ := fun _ => 0) (fR := fun _ => none) hq (by
    rw [gE_R (kd := 13 + k) (by simp [va_up]) (by omega)]
    simp only [va_up_self])
  exact kk q hq H1 locs ls (hpush ▸ hP1) (hpush ▸ hD1) hS1 hl
theorem wp_iret (C : Cx E cc own Ts nL rm) {Post : gPost} {v : Int32} (Z : Rt E (some .int) rm Post) (hd : decode cc pc = .ok (.ireturn, 1)) (h1 : cells ≤ rm.cells) (h2 : slots ≤ rm.slots) (hp : Post (some (.int v)) T I J R) : WP E nL cells slots T I J R pc lv [.int v] := by
  intro H locs ls hP hD hS hl
  obtain ⟨hr, hQ, hH⟩ := Z
  have hlocks := C.2.2.2.2.2.2.2.2.1
  refine W.widen h1 h2 ?_
  rw [hQ]
  rw [hH] at hS
  exact W.iret C.1 C.2.1 hr (fun t ht hW => ⟨⟨some (.int v), T, I, J, R, rfl, hp, by rw [ht]; exact hP, hD⟩, hS.F ht⟩) hS.2.2 hd hlocks
theorem wp_zret (C : Cx E cc own Ts nL rm) {Post : gPost} {v : Int32} (Z : Rt E (some .boolean) rm Post) (hd : decode cc pc = .ok (.ireturn, 1)) (h1 : cells ≤ rm.cells) (h2 : slots ≤ rm.slots) (h01 : v = 0 ∨ v = 1) (hp : Post (some (.int v)) T I J R) : WP E nL cells slots T I J R pc lv [.int v] := by
  intro H locs ls hP hD hS hl
  obtain ⟨hr, hQ, hH⟩ := Z
  have hlocks := C.2.2.2.2.2.2.2.2.1
  refine W.widen h1 h2 ?_
  rw [hQ]
  rw [hH] at hS
  exact W.zret C.1 C.2.1 hr (by rcases h01 with rfl | rfl <;> rfl) (fun t ht hW => ⟨⟨some (.int v), T, I, J, R, rfl, hp, by rw [ht]; exact hP, hD⟩, hS.F ht⟩) hS.2.2 hd hlocks
theorem wp_lret (C : Cx E cc own Ts nL rm) {Post : gPost} {v : Int64} (Z : Rt E (some .long) rm Post) (hd : decode cc pc = .ok (.lreturn, 1)) (h1 : cells ≤ rm.cells) (h2 : slots ≤ rm.slots) (hp : Post (some (.long v)) T I J R) : WP E nL cells slots T I J R pc lv [.long v] := by
  intro H locs ls hP hD hS hl
  obtain ⟨hr, hQ, hH⟩ := Z
  have hlocks := C.2.2.2.2.2.2.2.2.1
  refine W.widen h1 h2 ?_
  rw [hQ]
  rw [hH] at hS
  exact W.lret C.1 C.2.1 hr (fun t ht hW => ⟨⟨some (.long v), T, I, J, R, rfl, hp, by rw [ht]; exact hP, hD⟩, hS.F ht⟩) hS.2.2 hd hlocks
theorem wp_vret (C : Cx E cc own Ts nL rm) {Post : gPost} (Z : Rt E none rm Post) (hd : decode cc pc = .ok (.return_, 1)) (h1 : cells ≤ rm.cells) (h2 : slots ≤ rm.slots) (hp : Post none T I J R) : WP E nL cells slots T I J R pc lv [] := by
  intro H locs ls hP hD hS hl
  obtain ⟨hr, hQ, hH⟩ := Z
  have hlocks := C.2.2.2.2.2.2.2.2.1
  refine W.widen h1 h2 ?_
  rw [hQ]
  rw [hH] at hS
  exact W.vret C.1 C.2.1 hr (fun t ht hW => ⟨⟨none, T, I, J, R, rfl, hp, by rw [ht]; exact hP, hD⟩, hS.F ht⟩) hS.2.2 hd hlocks
theorem wp_run (C : Cx E cc own Ts nL rm) {Post : gPost} {rest : List Value} {mc ms : Nat} {av : Array Value}
    (hrun : ∀ (H : Heap) (locs : List Loc) (ls : Array Slot), va_P E.2.2.1 vwCl (gW E.2.2.2.1 T I J R) H → va_D E.2.2.2.2.1 (gW E.2.2.2.1 T I J R) → lv_has ls nL lv → va_Run E.1.1 E.1.2.1 E.1.2.2.1 E.1.2.2.2.1 E.1.2.2.2.2 E.2.1.1 E.2.1.2.1 E.2.1.2.2.1 E.2.1.2.2.2.1 E.2.1.2.2.2.2 H locs cells slots mc ms (F0 E.2.1.1 pc ls st) rest (gQ Post E.2.2.1 E.2.2.2.1 (va_A (gW E.2.2.2.1 T I J R) H.size) av) (va_A (gW E.2.2.2.1 T I J R) H.size))
    (kk : ∀ (v : Option Value) (T' : gSh) (I' : gI) (J' : gJ) (R' : gR), Post v T' I' J' R' → WP E nL (cells + mc) (slots + ms) T' I' J' R' (pc + 3) lv (v.toList ++ rest)) : WP E nL cells slots T I J R pc lv st := by
  intro H locs ls hP hD hS hl
  have hF : ∀ q, va_A (gW E.2.2.2.1 T I J R) H.size q → E.2.2.2.2.1 q := by
    rintro q (⟨k, e, hk⟩ | h)
    · exact hD.2 k (q, e) hk
    · exact C.2.2.2.2.2.2.2.1 q (Nat.le_trans hS.1 h)
  intro U hU X
  obtain ⟨v, st₀, t, U', L, h0, X', hL, e1, e2, ⟨⟨v', T', I', J', R', hv, hp, hP1, hD1⟩, hz, hk⟩, stp⟩ := hrun H locs ls hP hD hl U hU X
  cases hv
  rw [h0] at hz hk
  obtain ⟨t2, a1, b1⟩ := kk v T' I' J' R' hp U'.heap (locs ++ L) ls (by rw [e1]; exact hP1) (hD1.weaken (fun k q _ h => hF q.1 h))
    ⟨Nat.le_trans hS.1 (by rw [e1]; exact hz), fun q h1 h2 => by rw [e1, hk q (Nat.lt_of_lt_of_le h1 hS.1) (fun z => h2 (hF q z))]; exact hS.2.1 q h1 h2, fun q hq => by
      rcases List.mem_append.mp hq with h | h
      · exact hS.2.2 q h
      · exact hF _ (hL q h)⟩ hl U' rfl X'
  exact ⟨t2, stp t2 a1, b1⟩
/-- the words of a call, by the program: virtual, of sort ci -/
def CV (Ts : List Cond) (own : String) (idx ci : Nat) (y : MethodName) (ws : List Cond) (maxL n : Nat) : Prop := ∃ (Cn : String) (Tt : u_T) (N : Nat) (bytes : ByteArray) (ret : Option FieldType) (ws' : List Cond), vwCl[ci]? = some (Cn, Tt, N) ∧ ci < 13 ∧ GoodIn Ts (wsV own idx Cn y ws) ∧ ws = Cond.code y bytes maxL ret :: ws' ∧ (y.cls = Cn ∧ y.cls ≠ "java/lang/invoke/MethodHandle" ∧ y.cls ≠ "java/lang/invoke/VarHandle" ∧ (parseMethodDescriptor y.desc).map (fun d => d.parameters.length) = some n)
def CS (Ts : List Cond) (own : String) (idx : Nat) (y : MethodName) (ws : List Cond) (maxL n : Nat) : Prop := ∃ (bytes : ByteArray) (ret : Option FieldType) (ws' : List Cond), GoodIn Ts (va_wsS own idx y ws) ∧ ws = Cond.code y bytes maxL ret :: ws' ∧ (y.cls ≠ "java/lang/invoke/MethodHandle" ∧ y.cls ≠ "java/lang/invoke/VarHandle" ∧ (parseMethodDescriptor y.desc).map (fun d => d.parameters.length) = some n)
def CI (Ts : List Cond) (own : String) (idx : Nat) (y : MethodName) (ws : List Cond) (maxL n : Nat) : Prop := ∃ (bytes : ByteArray) (ws' : List Cond), GoodIn Ts ws ∧ ws = Cond.code y bytes maxL none :: ws' ∧ Cond.initialized y.cls ∈ Ts ∧ Cond.methodLink own idx y ∈ Ts ∧ Cond.instanceMethod y ∈ Ts ∧ y.name = "<init>" ∧ (y.cls ≠ "java/lang/invoke/MethodHandle" ∧ y.cls ≠ "java/lang/invoke/VarHandle" ∧ (parseMethodDescriptor y.desc).map (fun d => d.parameters.length) = some n)
def CN (Ts : List Cond) (y : MethodName) (ws : List Cond) (ret : Option FieldType) (maxL n : Nat) : Prop := ∃ (bytes : ByteArray) (ws' : List Cond), GoodIn Ts ws ∧ ws = Cond.code y bytes maxL ret :: ws' ∧ Cond.initialized y.cls ∈ Ts ∧ (y.cls ≠ "java/lang/invoke/MethodHandle" ∧ y.cls ≠ "java/lang/invoke/VarHandle" ∧ (parseMethodDescriptor y.desc).map (fun d => d.parameters.length) = some n)
theorem pre_ok (C : Cx E cc own Ts nL rm) {H : Heap} {av : List Value} (hP : va_P E.2.2.1 vwCl (gW E.2.2.2.1 T I J R) H) (hD : va_D E.2.2.2.2.1 (gW E.2.2.2.1 T I J R)) : ∀ U : State, U.heap = H → E.1.2.2.2.2.WarmedH U.vm → gPre av E.2.2.1 E.2.2.2.1 T I J R H.size av.toArray U :=
  fun U hU hW => ⟨rfl, by rw [hU], by rw [hU]; exact hP, va_K.moved hW.alike C.2.2.2.2.2.1, gNs.warm hW C.2.2.2.2.2.2.1, hD.weaken (fun _ _ _ _ => trivial)⟩
set_option maxHeartbeats 1000000 in
theorem wp_callV (C : Cx E cc own Ts nL rm) {idx ci b maxL : Nat} {y : MethodName} {ws : List Cond} {rmc : Room} {As rest : List Value} {Post : gPost} (hd : decode cc pc = .ok (.invokevirtual idx, 3)) (f : CV Ts own idx ci y ws maxL As.length) (ho : OB T b ci) (hc : Con E.1.2.1 y ws rmc (.ref b :: As) T I J R Post) (hst : st = As.reverse ++ .ref b :: rest) (hrs : (rest.map fun v => v.category).sum ≤ 8) (hR : rmc.frames + 1 ≤ rm.frames ∧ 8 + (maxL + 11) + rmc.locals ≤ rm.locals) (hf : cells + rmc.cells ≤ rm.cells ∧ slots + rmc.slots ≤ rm.slots)
    (kk : ∀ (v : Option Value) (T' : gSh) (I' : gI) (J' : gJ) (R' : gR), Post v T' I' J' R' → WP E nL (cells + rmc.cells) (slots + rmc.slots) T' I' J' R' (pc + 3) lv (v.toList ++ rest)) : WP E nL cells slots T I J R pc lv st := by
  obtain ⟨Cn, Tt, N, bytes, ret, ws', hcl, h13, hg, hw, hy⟩ := f
  subst hst
  have hrm := C.2.2.2.2.2.2.2.2.2
  refine wp_run C (av := (Value.ref b :: As).toArray) (fun H locs ls hP hD hl => ?_) kk
  obtain ⟨q, hq⟩ := gW_at (cy := E.2.2.2.1) (I := I) (J := J) (R := R) ho.1
  rw [gE_ob ho.2 h13] at hq
  exact va_runV (As := As) (rest := rest) ⟨C.1, C.2.1, C.2.2.1, C.2.2.2.1, C.2.2.2.2.1⟩ (hc E.2.2.1 E.2.2.2.1 H.size) (cwV As.length C.2.2.2.2.1 hg hw rfl rfl hy (by rw [hrm]; exact hR)) ⟨gPre_blind, va_recv C.2.2.2.2.2.1 hP hcl hq, pre_ok C hP hD⟩ rfl rfl hl.1 rfl (lv_room hrs) hd (by rw [hrm]; exact hf)
set_option maxHeartbeats 1000000 in
theorem wp_callS (C : Cx E cc own Ts nL rm) {idx maxL : Nat} {y : MethodName} {ws : List Cond} {rmc : Room} {As rest : List Value} {Post : gPost} (hd : decode cc pc = .ok (.invokestatic idx, 3)) (f : CS Ts own idx y ws maxL As.length) (hc : Con E.1.2.1 y ws rmc As T I J R Post) (hst : st = As.reverse ++ rest) (hrs : (rest.map fun v => v.category).sum ≤ 8) (hR : rmc.frames + 1 ≤ rm.frames ∧ 8 + (maxL + 11) + rmc.locals ≤ rm.locals) (hf : cells + rmc.cells ≤ rm.cells ∧ slots + rmc.slots ≤ rm.slots)
    (kk : ∀ (v : Option Value) (T' : gSh) (I' : gI) (J' : gJ) (R' : gR), Post v T' I' J' R' → WP E nL (cells + rmc.cells) (slots + rmc.slots) T' I' J' R' (pc + 3) lv (v.toList ++ rest)) : WP E nL cells slots T I J R pc lv st := by
  obtain ⟨bytes, ret, ws', hg, hw, hy⟩ := f
  subst hst
  have hrm := C.2.2.2.2.2.2.2.2.2
  refine wp_run C (av := As.toArray) (fun H locs ls hP hD hl => ?_) kk
  exact va_runS (As := As) (rest := rest) ⟨C.1, C.2.1, C.2.2.1, C.2.2.2.1, C.2.2.2.2.1⟩ (hc E.2.2.1 E.2.2.2.1 H.size) (va_cwS As.length C.2.2.2.2.1 hg hw rfl rfl hy (by rw [hrm]; exact hR)) ⟨gPre_blind, pre_ok C hP hD⟩ rfl rfl hl.1 rfl (lv_room hrs) hd (by rw [hrm]; exact hf)
set_option maxHeartbeats 1000000 in
theorem wp_callI (C : Cx E cc own Ts nL rm) {idx b maxL : Nat} {y : MethodName} {ws : List Cond} {rmc : Room} {As rest : List Value} {Post : gPost} (hd : decode cc pc = .ok (.invokespecial idx, 3)) (f : CI Ts own idx y ws maxL As.length) (hc : Con E.1.2.1 y ws rmc (.ref b :: As) T I J R Post) (hst : st = As.reverse ++ .ref b :: rest) (hrs : (rest.map fun v => v.category).sum ≤ 8) (hR : rmc.frames + 1 ≤ rm.frames ∧ 8 + (maxL + 11) + rmc.locals ≤ rm.locals) (hf : cells + rmc.cells ≤ rm.cells ∧ slots + rmc.slots ≤ rm.slots)
    (kk : ∀ (v : Option Value) (T' : gSh) (I' : gI) (J' : gJ) (R' : gR), Post v T' I' J' R' → WP E nL (cells + rmc.cells) (slots + rmc.slots) T' I' J' R' (pc + 3) lv (v.toList ++ rest)) : WP E nL cells slots T I J R pc lv st := by
  obtain ⟨bytes, ws', hg, hw, hini, hml, him, hnm, hy⟩ := f
  subst hst
  have hrm := C.2.2.2.2.2.2.2.2.2
  refine wp_run C (av := (Value.ref b :: As).toArray) (fun H locs ls hP hD hl => ?_) kk
  exact va_runI (As := As) (rest := rest) ⟨C.1, C.2.1, C.2.2.1, C.2.2.2.1, C.2.2.2.2.1⟩ (hc E.2.2.1 E.2.2.2.1 H.size) (cwI As.length C.2.2.2.2.1 hg hw rfl rfl (C.2.2.2.2.1 _ hini) (C.2.2.2.2.1 _ hml) (C.2.2.2.2.1 _ him) hnm hy (by rw [hrm]; exact hR)) ⟨gPre_blind, pre_ok C hP hD⟩ rfl rfl hl.1 rfl (lv_room hrs) hd (by rw [hrm]; exact hf)
set_option maxHeartbeats 1000000 in
theorem wp_callIN (C : Cx E cc own Ts nL rm) {idx b maxL : Nat} {y : MethodName} {ws : List Cond} {host : String} {rmc : Room} {As rest : List Value} {Post : gPost} (hd : decode cc pc = .ok (.invokespecial idx, 3)) (f : CN Ts y ws none maxL As.length) (hnw : va_Nw (.methodLinkNest own idx y host) E.1.2.2.2.2) (him : Cond.instanceMethod y ∈ Ts) (hnm : y.name = "<init>") (hc : Con E.1.2.1 y ws rmc (.ref b :: As) T I J R Post) (hst : st = As.reverse ++ .ref b :: rest) (hrs : (rest.map fun v => v.category).sum ≤ 8) (hR : rmc.frames + 1 ≤ rm.frames ∧ 8 + (maxL + 11) + rmc.locals ≤ rm.locals) (hf : cells + rmc.cells ≤ rm.cells ∧ slots + rmc.slots ≤ rm.slots)
    (kk : ∀ (v : Option Value) (T' : gSh) (I' : gI) (J' : gJ) (R' : gR), Post v T' I' J' R' → WP E nL (cells + rmc.cells) (slots + rmc.slots) T' I' J' R' (pc + 3) lv (v.toList ++ rest)) : WP E nL cells slots T I J R pc lv st := by
  obtain ⟨bytes, ws', hg, hw, hini, hy⟩ := f
  subst hst
  have hrm := C.2.2.2.2.2.2.2.2.2
  refine wp_run C (av := (Value.ref b :: As).toArray) (fun H locs ls hP hD hl => ?_) kk
  exact va_runIN (As := As) (rest := rest) ⟨C.1, C.2.1, C.2.2.1, C.2.2.2.1, C.2.2.2.2.1⟩ (hc E.2.2.1 E.2.2.2.1 H.size) ⟨va_cnB As.length C.2.2.2.2.1 hg hw rfl rfl hnw (C.2.2.2.2.1 _ hini) hy (by rw [hrm]; exact hR), hnm, C.2.2.2.2.1 _ him⟩ ⟨gPre_blind, pre_ok C hP hD⟩ rfl rfl hl.1 rfl (lv_room hrs) hd (by rw [hrm]; exact hf)
set_option maxHeartbeats 1000000 in
theorem wp_callSN (C : Cx E cc own Ts nL rm) {idx maxL : Nat} {y : MethodName} {ws : List Cond} {ret : Option FieldType} {host : String} {rmc : Room} {As rest : List Value} {Post : gPost} (hd : decode cc pc = .ok (.invokestatic idx, 3)) (f : CN Ts y ws ret maxL As.length) (hnw : va_Nw (.methodLinkNest own idx y host) E.1.2.2.2.2) (hsm : Cond.static y ∈ Ts) (hc : Con E.1.2.1 y ws rmc As T I J R Post) (hst : st = As.reverse ++ rest) (hrs : (rest.map fun v => v.category).sum ≤ 8) (hR : rmc.frames + 1 ≤ rm.frames ∧ 8 + (maxL + 11) + rmc.locals ≤ rm.locals) (hf : cells + rmc.cells ≤ rm.cells ∧ slots + rmc.slots ≤ rm.slots)
    (kk : ∀ (v : Option Value) (T' : gSh) (I' : gI) (J' : gJ) (R' : gR), Post v T' I' J' R' → WP E nL (cells + rmc.cells) (slots + rmc.slots) T' I' J' R' (pc + 3) lv (v.toList ++ rest)) : WP E nL cells slots T I J R pc lv st := by
  obtain ⟨bytes, ws', hg, hw, hini, hy⟩ := f
  subst hst
  have hrm := C.2.2.2.2.2.2.2.2.2
  refine wp_run C (av := As.toArray) (fun H locs ls hP hD hl => ?_) kk
  exact va_runSN (As := As) (rest := rest) ⟨C.1, C.2.1, C.2.2.1, C.2.2.2.1, C.2.2.2.2.1⟩ (hc E.2.2.1 E.2.2.2.1 H.size) ⟨va_cnB As.length C.2.2.2.2.1 hg hw rfl rfl hnw (C.2.2.2.2.1 _ hini) hy (by rw [hrm]; exact hR), C.2.2.2.2.1 _ hsm, trivial⟩ ⟨gPre_blind, pre_ok C hP hD⟩ rfl rfl hl.1 rfl (lv_room hrs) hd (by rw [hrm]; exact hf)
theorem wp_objInit (C : Cx E cc own Ts nL rm) {idx a : Nat} (hd : decode cc pc = .ok (.invokespecial idx, 3)) (h1 : Cond.methodLink own idx objectInit ∈ Ts) (h2 : Cond.instanceMethod objectInit ∈ Ts) (h3 : Cond.code objectInit ⟨#[0xb1]⟩ 1 none ∈ Ts) (hrs : (st.map fun v => v.category).sum ≤ 8) (hR : 1 ≤ rm.frames ∧ 20 ≤ rm.locals) (kk : WP E nL cells slots T I J R (pc + 3) lv st) : WP E nL cells slots T I J R pc lv (.ref a :: st) := by
  intro H locs ls hP hD hS hl
  have hrm := C.2.2.2.2.2.2.2.2.2
  have hroom := lv_room (m := E.2.1.1) (pc := pc) (ls := ls) (rest := .ref a :: st) hrs
  refine W.objInit C.1 C.2.1 C.2.2.2.1 (C.2.2.2.2.1 _ h1) (C.2.2.2.2.1 _ h2) (C.2.2.2.2.1 _ h3) rfl (by rw [C.2.2.1]; exact hl.1) rfl hd (by rw [hrm]; exact hR.1) (by rw [hrm]; omega) ?_
  exact kk H locs ls hP hD hS hl
theorem wp_min (C : Cx E cc own Ts nL rm) {idx : Nat} {x y : Int32} (hd : decode cc pc = .ok (.invokestatic idx, 3)) (h1 : Cond.methodLink own idx Lib.Math.min.name ∈ Ts) (h2 : Cond.static Lib.Math.min.name ∈ Ts) (h3 : Cond.initialized "java/lang/Math" ∈ Ts) (h4 : Cond.code Lib.Math.min.name Lib.Math.min.code 2 (some .int) ∈ Ts) (hrs : (st.map fun v => v.category).sum ≤ 8) (hR : 1 ≤ rm.frames ∧ 21 ≤ rm.locals) (hc : cells ≤ rm.cells ∧ slots ≤ rm.slots) (kk : WP E nL cells slots T I J R (pc + 3) lv (.int (if y < x then y else x) :: st)) : WP E nL cells slots T I J R pc lv (.int y :: .int x :: st) := by
  intro H locs ls hP hD hS hl
  have hrm := C.2.2.2.2.2.2.2.2.2
  exact va_mmin C.1 C.2.1 (C.2.2.1.trans hl.1.symm) C.2.2.2.1 (C.2.2.2.2.1 _ h1) (C.2.2.2.2.1 _ h2) (C.2.2.2.2.1 _ h3) (C.2.2.2.2.1 _ h4) (by rw [hrm]; exact hR.1) (by rw [hrm]; omega) (by rw [hrm]; exact hc.1) (by rw [hrm]; exact hc.2) hd (kk H locs ls hP hD hS hl)
theorem wp_max (C : Cx E cc own Ts nL rm) {idx : Nat} {x y : Int32} (hd : decode cc pc = .ok (.invokestatic idx, 3)) (h1 : Cond.methodLink own idx Lib.Math.max.name ∈ Ts) (h2 : Cond.static Lib.Math.max.name ∈ Ts) (h3 : Cond.initialized "java/lang/Math" ∈ Ts) (h4 : Cond.code Lib.Math.max.name Lib.Math.max.code 2 (some .int) ∈ Ts) (hrs : (st.map fun v => v.category).sum ≤ 8) (hR : 1 ≤ rm.frames ∧ 21 ≤ rm.locals) (hc : cells ≤ rm.cells ∧ slots ≤ rm.slots) (kk : WP E nL cells slots T I J R (pc + 3) lv (.int (if x < y then y else x) :: st)) : WP E nL cells slots T I J R pc lv (.int y :: .int x :: st) := by
  intro H locs ls hP hD hS hl
  have hrm := C.2.2.2.2.2.2.2.2.2
  exact va_mmax C.1 C.2.1 (C.2.2.1.trans hl.1.symm) C.2.2.2.1 (C.2.2.2.2.1 _ h1) (C.2.2.2.2.1 _ h2) (C.2.2.2.2.1 _ h3) (C.2.2.2.2.1 _ h4) (by rw [hrm]; exact hR.1) (by rw [hrm]; omega) (by rw [hrm]; exact hc.1) (by rw [hrm]; exact hc.2) hd (kk H locs ls hP hD hS hl)
end WPC
