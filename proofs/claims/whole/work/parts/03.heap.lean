/-! ===== fields, arrays, new cells, calls, returns: rows over the pool ===== -/
/-- the words of a field's link: sort ci, field k, of the sort t -/
def FL (Ts : List Cond) (own : String) (idx ci k t : Nat) : Prop := ∃ (Cn : String) (Tt : u_T) (N : Nat), vwCl[ci]? = some (Cn, Tt, N) ∧ N = gN ci ∧ ci < 13 ∧ (∀ w ∈ u_ws Cn Tt N, w ∈ Ts) ∧ Cond.fieldLink own idx (Tt k).1 (Tt k).2.1 (Tt k).2.2.1 ∈ Ts ∧ k < N ∧ gT ci k = t
/-- the same for a put: with its type, and whether it is final -/
def FP (Ts : List Cond) (own : String) (idx ci k t : Nat) (ty : FieldType) (fin : Bool) : Prop := ∃ (Cn : String) (Tt : u_T) (N : Nat) (ty0 : Nat → FieldType), vwCl[ci]? = some (Cn, Tt, N) ∧ N = gN ci ∧ ci < 13 ∧ (∀ w ∈ u_ws Cn Tt N, w ∈ Ts) ∧ Cond.fieldLink own idx (Tt k).1 (Tt k).2.1 (Tt k).2.2.1 ∈ Ts ∧ k < N ∧ gT ci k = t ∧ (∀ k, k < N → parseFieldDescriptor (Tt k).2.2.1 = some (ty0 k)) ∧ (∀ a, a < N → ∀ b, b < N → a ≠ b → (Tt a).2.1 ≠ (Tt b).2.1) ∧ ty0 k = ty ∧ (Tt k).2.2.2 = fin ∧ (fin = true → (Tt k).1 = own)
def gD (ci : Nat) : List Value := gF (fun _ _ => 0) (fun _ _ => 0) (fun _ _ => none) ci 0
/-- the words of a 'new' of sort ci -/
def NL (Ts : List Cond) (own : String) (idx ci : Nat) : Prop := ∃ (Cn : String) (Tt : u_T) (N : Nat) (ty0 : Nat → FieldType), vwCl[ci]? = some (Cn, Tt, N) ∧ N = gN ci ∧ ci < 13 ∧ (∀ w ∈ u_ws Cn Tt N, w ∈ Ts) ∧ Cond.classLink own idx Cn ∈ Ts ∧ Cond.instantiable Cn N ∈ Ts ∧ Cond.initialized Cn ∈ Ts ∧ (∀ k, k < N → parseFieldDescriptor (Tt k).2.2.1 = some (ty0 k)) ∧ (∀ j, j < N → defaultValue (ty0 j) = vp_V (gD ci) j)
theorem gNs.same {u U : State} (h : u.vm = U.vm) (g : gNs u) : gNs U := by
  obtain ⟨g1, g2, g3, g4, g5, g6, g7, g8, g9, g10⟩ := g
  have hA : u.vm.Alike U.vm := h ▸ Vm.Alike.refl u.vm
  exact ⟨va_Nw.same rfl h g1, va_Nw.same rfl h g2, va_Nw.same rfl h g3, va_Nw.same rfl h g4, va_Nw.same rfl h g5, va_Nw.same rfl h g6, va_AO.moved hA g7, va_AO.moved hA g8, va_AO.moved hA g9, va_AO.moved hA g10⟩
theorem gNs.warm {s U : State} (h : s.WarmedH U.vm) (g : gNs s) : gNs U := by
  obtain ⟨g1, g2, g3, g4, g5, g6, g7, g8, g9, g10⟩ := g
  exact ⟨va_Nw.warmM h g1, va_Nw.warmM h g2, va_Nw.warmM h g3, va_Nw.warmM h g4, va_Nw.warmM h g5, va_Nw.warmM h g6, va_AO.moved h.alike g7, va_AO.moved h.alike g8, va_AO.moved h.alike g9, va_AO.moved h.alike g10⟩
/-- a contract's start and end over the pool -/
def gPre (av : List Value) (D : va_G) (cy : Nat → ClassId) (T : gSh) (I : gI) (J : gJ) (R : gR) (sz : Nat) : Array Value → State → Prop := va_Pc av (fun U => U.heap.size = sz ∧ va_P D vwCl (gW cy T I J R) U.heap ∧ va_K D vwCl (gY cy) U ∧ gNs U ∧ va_D (fun _ => True) (gW cy T I J R))
abbrev gPost : Type := Option Value → gSh → gI → gJ → gR → Prop
def gQ (Post : gPost) (D : va_G) (cy : Nat → ClassId) (A : Nat → Prop) : Array Value → State → Outcome → State → Prop := fun _ st oc t => (∃ (v : Option Value) (T : gSh) (I : gI) (J : gJ) (R : gR), oc = .returned v ∧ Post v T I J R ∧ va_P D vwCl (gW cy T I J R) t.heap ∧ va_D A (gW cy T I J R)) ∧ va_F A st t
/-- the contract of a method at one start: it returns, with Post -/
def Con (l : Launch) (y : MethodName) (ws : List Cond) (rm : Room) (av : List Value) (T : gSh) (I : gI) (J : gJ) (R : gR) (Post : gPost) : Prop :=
  ∀ (D : va_G) (cy : Nat → ClassId) (sz : Nat), Met l y ws rm (gPre av D cy T I J R sz) (gQ Post D cy (va_A (gW cy T I J R) sz)) rm.cells rm.slots (va_A (gW cy T I J R) sz)
/-- what a walk must come to -/
def Rt (E : gEnv) (ret : Option FieldType) (rm : Room) (Post : gPost) : Prop := E.2.1.2.2.2.1.sig.returnType = ret ∧ E.2.2.2.2.2.2 = MQ E.2.1.2.2.1 (gQ Post E.2.2.1 E.2.2.2.1 E.2.2.2.2.1) E.2.1.2.1 E.1.2.2.2.2 rm.cells rm.slots E.2.2.2.2.1 ∧ E.2.2.2.2.2.1 = E.1.2.2.2.2.heap
def In (E : gEnv) : Prop := E.2.1.2.2.2.1.name = "<init>"
theorem gPre_blind {av : List Value} {D : va_G} {cy : Nat → ClassId} {T : gSh} {I : gI} {J : gJ} {R : gR} {sz : Nat} : FrameBlind (gPre av D cy T I J R sz) := by
  intro a U g mk q
  obtain ⟨q0, q1, qP, qK, qN, qD⟩ := q
  exact ⟨q0, q1, qP, va_K.moved (u := U) (U := U.calling g mk a) (Vm.Alike.refl U.vm) qK, gNs.same (u := U) (U := U.calling g mk a) rfl qN, qD⟩
set_option maxHeartbeats 1000000 in
theorem Con.mk {l : Launch} {y : MethodName} {ws ws' : List Cond} {rm : Room} {av : List Value} {T : gSh} {I : gI} {J : gJ} {R : gR} {Post : gPost} {cc : ByteArray} {maxL : Nat} {ret : Option FieldType} (hy : plainName y.cls = true) (hw : ws = Cond.code y cc maxL ret :: ws') (hn : (lg_sl av).length ≤ maxL)
    (body : ∀ E : gEnv, E.1.2.1 = l → Cx E cc y.cls ws maxL rm → Rt E ret rm Post → E.2.1.2.2.2.1.name = y.name → WP E maxL 0 0 T I J R 0 (lv_args 0 av) []) : Con l y ws rm av T I J R Post := by
  intro D cy sz
  refine Met.ofW (cc := cc) (maxL := maxL) (ret := ret) hy hw ?_
  intro p e s m args below meth c s₁ B hml hv
  obtain ⟨rfl, hsz, hP, hK, hN, hD0⟩ := hv
  subst hsz
  have hts := atoms_spec (ws := ws) B.pre
  have hown : s.vm.findClass y.cls = some m.cls := findClass_of_methodNamed B.named
  have hnm : meth.name = y.name := (name_of_methodNamed B.named B.method).1
  have hD := hD0.self (sz := s.heap.size)
  have hl := lv_entry av (n := maxL) hn
  rw [lg_entry_eq]
  exact body ((p, l, e, (headSpec ws rm).room, s), (m, av.toArray, below, meth, c), (D, cy, va_A (gW cy T I J R) s.heap.size, s.heap, MQ below (gQ Post D cy (va_A (gW cy T I J R) s.heap.size)) av.toArray s rm.cells rm.slots (va_A (gW cy T I J R) s.heap.size))) rfl
    ⟨B.exec, B.bytes, hml, hown, hts, hK, hN, fun q h => Or.inr h, B.notSynchronized, rfl⟩ ⟨B.returns, rfl, rfl⟩ hnm s.heap [] _ hP hD va_S.rf hl
section WPH
variable {E : gEnv} {cc : ByteArray} {own : String} {Ts : List Cond} {nL : Nat} {rm : Room} {cells slots : Nat} {T : gSh} {I : gI} {J : gJ} {R : gR} {pc : Nat} {lv : List (Nat × Value)} {st : List Value}
theorem wp_getI (C : Cx E cc own Ts nL rm) {idx ci k a : Nat} (hd : decode cc pc = .ok (.getfield idx, 3)) (f : FL Ts own idx ci k 0) (ho : OB T a ci) (kk : WP E nL cells slots T I J R (pc + 3) lv (.int (I a k) :: st)) : WP E nL cells slots T I J R pc lv (.ref a :: st) := by
  intro H locs ls hP hD hS hl
  obtain ⟨Cn, Tt, N, hc, hN, h13, hin, hlk, hk, ht⟩ := f
  obtain ⟨q, hq⟩ := gW_at (cy := E.2.2.2.1) (I := I) (J := J) (R := R) ho.1
  rw [gE_ob ho.2 h13] at hq
  exact va_get C.1 C.2.1 C.2.2.2.2.1 hin C.2.2.2.1 C.2.2.2.2.2.1 hP q hq hc k hk (C.2.2.2.2.1 _ hlk) (fun _ h => h) (v := .int (I a k)) (by rw [gF_get (hN ▸ hk), ht]; rfl) hd (kk H locs ls hP hD hS hl)
theorem wp_getJ (C : Cx E cc own Ts nL rm) {idx ci k a : Nat} (hd : decode cc pc = .ok (.getfield idx, 3)) (f : FL Ts own idx ci k 1) (ho : OB T a ci) (kk : WP E nL cells slots T I J R (pc + 3) lv (.long (J a k) :: st)) : WP E nL cells slots T I J R pc lv (.ref a :: st) := by
  intro H locs ls hP hD hS hl
  obtain ⟨Cn, Tt, N, hc, hN, h13, hin, hlk, hk, ht⟩ := f
  obtain ⟨q, hq⟩ := gW_at (cy := E.2.2.2.1) (I := I) (J := J) (R := R) ho.1
  rw [gE_ob ho.2 h13] at hq
  exact va_get C.1 C.2.1 C.2.2.2.2.1 hin C.2.2.2.1 C.2.2.2.2.2.1 hP q hq hc k hk (C.2.2.2.2.1 _ hlk) (fun _ h => h) (v := .long (J a k)) (by rw [gF_get (hN ▸ hk), ht]; rfl) hd (kk H locs ls hP hD hS hl)
theorem wp_getQ (C : Cx E cc own Ts nL rm) {idx ci k a : Nat} (hd : decode cc pc = .ok (.getfield idx, 3)) (f : FL Ts own idx ci k 2) (ho : OB T a ci) (kk : WP E nL cells slots T I J R (pc + 3) lv (va_rf (R a k) :: st)) : WP E nL cells slots T I J R pc lv (.ref a :: st) := by
  intro H locs ls hP hD hS hl
  obtain ⟨Cn, Tt, N, hc, hN, h13, hin, hlk, hk, ht⟩ := f
  obtain ⟨q, hq⟩ := gW_at (cy := E.2.2.2.1) (I := I) (J := J) (R := R) ho.1
  rw [gE_ob ho.2 h13] at hq
  exact va_get C.1 C.2.1 C.2.2.2.2.1 hin C.2.2.2.1 C.2.2.2.2.2.1 hP q hq hc k hk (C.2.2.2.2.1 _ hlk) (fun _ h => h) (v := va_rf (R a k)) (by rw [gF_get (hN ▸ hk), ht]; rfl) hd (kk H locs ls hP hD hS hl)
theorem wp_getR (C : Cx E cc own Ts nL rm) {idx ci k a r : Nat} (hd : decode cc pc = .ok (.getfield idx, 3)) (f : FL Ts own idx ci k 2) (ho : OB T a ci) (hr : R a k = some r) (kk : WP E nL cells slots T I J R (pc + 3) lv (.ref r :: st)) : WP E nL cells slots T I J R pc lv (.ref a :: st) :=
  wp_getQ C hd f ho (by rw [hr]; exact kk)
theorem wp_getN (C : Cx E cc own Ts nL rm) {idx ci k a : Nat} (hd : decode cc pc = .ok (.getfield idx, 3)) (f : FL Ts own idx ci k 2) (ho : OB T a ci) (hr : R a k = none) (kk : WP E nL cells slots T I J R (pc + 3) lv (.null :: st)) : WP E nL cells slots T I J R pc lv (.ref a :: st) :=
  wp_getQ C hd f ho (by rw [hr]; exact kk)
theorem wp_put (C : Cx E cc own Ts nL rm) {idx ci k a t : Nat} {ty : FieldType} {fin : Bool} {v : Value} {I' : gI} {J' : gJ} {R' : gR} (hd : decode cc pc = .ok (.putfield idx, 3)) (f : FP Ts own idx ci k t ty fin) (hfi : fin = true → In E) (ho : OB T a ci) (hn : narrow ty v = v) (hf : fits ty v = true) (hv : v = gV t (I' a k) (J' a k) (R' a k)) (hj : ∀ j, j ≠ k → I a j = I' a j ∧ J a j = J' a j ∧ R a j = R' a j) (hb : ∀ b, b ≠ a → I b = I' b ∧ J b = J' b ∧ R b = R' b) (kk : WP E nL cells slots T I' J' R' (pc + 3) lv st) : WP E nL cells slots T I J R pc lv (v :: .ref a :: st) := by
  intro H locs ls hP hD hS hl
  obtain ⟨Cn, Tt, N, ty0, hc, hN, h13, hin, hlk, hk, ht, hty, hnm, hy, hfn, hdcl⟩ := f
  obtain ⟨q, hq0⟩ := gW_at (cy := E.2.2.2.1) (I := I) (J := J) (R := R) ho.1
  have hq := hq0
  rw [gE_ob ho.2 h13] at hq
  have hset : (gW E.2.2.2.1 T I J R).set q (a, .inr (ci, (gF I J R ci a).set k v)) = gW E.2.2.2.1 T I' J' R' := by
    refine gW_set hD ho.1 hq0 ?_ (fun b hba => gE_ext (hb b hba).1 (hb b hba).2.1 (hb b hba).2.2)
    rw [gE_ob ho.2 h13, gF_set (I' := I') (J' := J') (R' := R') (by rw [ht]; exact hv) (fun j hjk => by rw [(hj j hjk).1, (hj j hjk).2.1, (hj j hjk).2.2])]
  have hlen : k < (gF I J R ci a).length := by rw [gF_len, ← hN]; exact hk
  cases fin with
  | false => exact va_put C.1 C.2.1 C.2.2.2.2.1 hin ty0 hty hnm C.2.2.2.1 C.2.2.2.2.2.1 hP hD hS q hq hc k hk (C.2.2.2.2.1 _ hlk) (fun _ h => h) hfn (ty := ty) (by rw [hty k hk, hy]) hn hf hlen hd (fun H1 locs1 hP1 hD1 hS1 => kk H1 locs1 ls (hset ▸ hP1) (hset ▸ hD1) hS1 hl)
  | true => exact va_putF C.1 C.2.1 C.2.2.2.2.1 hin ty0 hty hnm C.2.2.2.1 C.2.2.2.2.2.1 hP hD hS q hq hc k hk (C.2.2.2.2.1 _ hlk) (fun _ h => h) hfn (hfi rfl) (hdcl rfl) (ty := ty) (by rw [hty k hk, hy]) hn hf hlen hd (fun H1 locs1 hP1 hD1 hS1 => kk H1 locs1 ls (hset ▸ hP1) (hset ▸ hD1) hS1 hl)
theorem wp_putI (C : Cx E cc own Ts nL rm) {idx ci k a : Nat} {x : Int32} {fin : Bool} (hd : decode cc pc = .ok (.putfield idx, 3)) (f : FP Ts own idx ci k 0 .int fin) (hfi : fin = true → In E) (ho : OB T a ci) (kk : WP E nL cells slots T (u2 I a k x) J R (pc + 3) lv st) : WP E nL cells slots T I J R pc lv (.int x :: .ref a :: st) :=
  wp_put C hd f hfi ho rfl rfl (by rw [u2_s]; rfl) (fun j h => ⟨(u2_k I a k x h a).symm, rfl, rfl⟩) (fun b h => ⟨(u2_rown I a k x h).symm, rfl, rfl⟩) kk
theorem wp_putZ (C : Cx E cc own Ts nL rm) {idx ci k a : Nat} {x : Int32} {fin : Bool} (hd : decode cc pc = .ok (.putfield idx, 3)) (f : FP Ts own idx ci k 0 .boolean fin) (hfi : fin = true → In E) (ho : OB T a ci) (h01 : x = 0 ∨ x = 1) (kk : WP E nL cells slots T (u2 I a k x) J R (pc + 3) lv st) : WP E nL cells slots T I J R pc lv (.int x :: .ref a :: st) :=
  wp_put C hd f hfi ho (by rcases h01 with rfl | rfl <;> rfl) (by rcases h01 with rfl | rfl <;> rfl) (by rw [u2_s]; rfl) (fun j h => ⟨(u2_k I a k x h a).symm, rfl, rfl⟩) (fun b h => ⟨(u2_rown I a k x h).symm, rfl, rfl⟩) kk
theorem wp_putJ (C : Cx E cc own Ts nL rm) {idx ci k a : Nat} {x : Int64} {fin : Bool} (hd : decode cc pc = .ok (.putfield idx, 3)) (f : FP Ts own idx ci k 1 .long fin) (hfi : fin = true → In E) (ho : OB T a ci) (kk : WP E nL cells slots T I (u2 J a k x) R (pc + 3) lv st) : WP E nL cells slots T I J R pc lv (.long x :: .ref a :: st) :=
  wp_put C hd f hfi ho rfl rfl (by rw [u2_s]; rfl) (fun j h => ⟨rfl, (u2_k J a k x h a).symm, rfl⟩) (fun b h => ⟨rfl, (u2_rown J a k x h).symm, rfl⟩) kk
theorem wp_putR (C : Cx E cc own Ts nL rm) {idx ci k a x : Nat} {fin : Bool} {ty : FieldType} (hd : decode cc pc = .ok (.putfield idx, 3)) (f : FP Ts own idx ci k 2 ty fin) (hfi : fin = true → In E) (ho : OB T a ci) (hn : narrow ty (.ref x) = .ref x) (hf : fits ty (.ref x) = true) (kk : WP E nL cells slots T I J (u2 R a k (some x)) (pc + 3) lv st) : WP E nL cells slots T I J R pc lv (.ref x :: .ref a :: st) :=
  wp_put C hd f hfi ho hn hf (by rw [u2_s]; rfl) (fun j h => ⟨rfl, rfl, (u2_k R a k (some x) h a).symm⟩) (fun b h => ⟨rfl, rfl, (u2_rown R a k (some x) h).symm⟩) kk
theorem wp_putN (C : Cx E cc own Ts nL rm) {idx ci k a : Nat} {fin : Bool} {ty : FieldType} (hd : decode cc pc = .ok (.putfield idx, 3)) (f : FP Ts own idx ci k 2 ty fin) (hfi : fin = true → In E) (ho : OB T a ci) (hn : narrow ty .null = .null) (hf : fits ty .null = true) (kk : WP E nL cells slots T I J (u2 R a k none) (pc + 3) lv st) : WP E nL cells slots T I J R pc lv (.null :: .ref a :: st) :=
  wp_put C hd f hfi ho hn hf (by rw [u2_s]; rfl) (fun j h => ⟨rfl, rfl, (u2_k R a k none h a).symm⟩) (fun b h => ⟨rfl, rfl, (u2_rown R a k none h).symm⟩) kk
theorem wp_iald (C : Cx E cc own Ts nL rm) {a n j : Nat} {i : Int32} (hd : decode cc pc = .ok (.iaload, 1)) (ha : AR T a 13 n) (hi : i = nI j) (hj : j < n) (hn : n < 2 ^ 31) (kk : WP E nL cells slots T I J R (pc + 1) lv (.int (I a j) :: st)) : WP E nL cells slots T I J R pc lv (.int i :: .ref a :: st) := by
  intro H locs ls hP hD hS hl
  obtain ⟨q, hq⟩ := gW_at (cy := E.2.2.2.1) (I := I) (J := J) (R := R) ha.1
  rw [gE_I ha.2.1, ha.2.2] at hq
  subst hi
  refine va_iald C.1 C.2.1 C.2.2.2.2.2.1 hP q 0 hq rfl (vp_in_nI hj hn) hd ?_
  rw [nI_clamp (by omega)]
  exact kk H locs ls hP hD hS hl
theorem wp_zald (C : Cx E cc own Ts nL rm) {a n j : Nat} {i : Int32} (hd : decode cc pc = .ok (.baload, 1)) (ha : AR T a 15 n) (hi : i = nI j) (hj : j < n) (hn : n < 2 ^ 31) (kk : WP E nL cells slots T I J R (pc + 1) lv (.int (I a j) :: st)) : WP E nL cells slots T I J R pc lv (.int i :: .ref a :: st) := by
  intro H locs ls hP hD hS hl
  obtain ⟨q, hq⟩ := gW_at (cy := E.2.2.2.1) (I := I) (J := J) (R := R) ha.1
  rw [gE_Z ha.2.1, ha.2.2] at hq
  subst hi
  refine va_zald C.1 C.2.1 C.2.2.2.2.2.1 hP q 2 hq rfl (vp_in_nI hj hn) hd ?_
  rw [nI_clamp (by omega)]
  exact kk H locs ls hP hD hS hl
theorem wp_lald (C : Cx E cc own Ts nL rm) {a n j : Nat} {i : Int32} (hd : decode cc pc = .ok (.laload, 1)) (ha : AR T a 14 n) (hi : i = nI j) (hj : j < n) (hn : n < 2 ^ 31) (kk : WP E nL cells slots T I J R (pc + 1) lv (.long (J a j) :: st)) : WP E nL cells slots T I J R pc lv (.int i :: .ref a :: st) := by
  intro H locs ls hP hD hS hl
  obtain ⟨q, hq⟩ := gW_at (cy := E.2.2.2.1) (I := I) (J := J) (R := R) ha.1
  rw [gE_J ha.2.1, ha.2.2] at hq
  subst hi
  refine va_lald C.1 C.2.1 C.2.2.2.2.2.1 hP q 1 hq rfl (vp_in_nI hj hn) hd ?_
  rw [nI_clamp (by omega)]
  exact kk H locs ls hP hD hS hl
theorem wp_aald (C : Cx E cc own Ts nL rm) {a n j kd r : Nat} {i : Int32} (Cn : String) (hd : decode cc pc = .ok (.aaload, 1)) (ha : AR T a kd n) (hkd : 16 ≤ kd) (hty : (gY E.2.2.2.1)[kd - 13]? = some (E.2.2.2.1 kd, .object Cn)) (hi : i = nI j) (hj : j < n) (hn : n < 2 ^ 31) (hr : R a j = some r) (kk : WP E nL cells slots T I J R (pc + 1) lv (.ref r :: st)) : WP E nL cells slots T I J R pc lv (.int i :: .ref a :: st) := by
  intro H locs ls hP hD hS hl
  obtain ⟨q, hq⟩ := gW_at (cy := E.2.2.2.1) (I := I) (J := J) (R := R) ha.1
  rw [gE_R ha.2.1 hkd, ha.2.2] at hq
  subst hi
  refine va_aldq C.1 C.2.1 C.2.2.2.2.2.1 hP q (kd - 13) hq hty (vp_in_nI hj hn) hd ?_
  rw [nI_clamp (by omega), hr]
  exact kk H locs ls hP hD hS hl
theorem wp_iast (C : Cx E cc own Ts nL rm) {a n j : Nat} {i x : Int32} (hd : decode cc pc = .ok (.iastore, 1)) (ha : AR T a 13 n) (hi : i = nI j) (hj : j < n) (hn : n < 2 ^ 31) (kk : WP E nL cells slots T (u2 I a j x) J R (pc + 1) lv st) : WP E nL cells slots T I J R pc lv (.int x :: .int i :: .ref a :: st) := by
  intro H locs ls hP hD hS hl
  obtain ⟨q, hq0⟩ := gW_at (cy := E.2.2.2.1) (I := I) (J := J) (R := R) ha.1
  have hq := hq0
  rw [gE_I ha.2.1, ha.2.2] at hq
  subst hi
  have hset : (gW E.2.2.2.1 T I J R).set q (a, .inl (E.2.2.2.1 13, n, .inl (upd (I a) (nI j).toNatClampNeg x))) = gW E.2.2.2.1 T (u2 I a j x) J R := by
    refine gW_set hD ha.1 hq0 ?_ (fun b hba => gE_ext (u2_rown I a j x hba).symm rfl rfl)
    rw [gE_I ha.2.1, ha.2.2, nI_clamp (by omega), u2_row]
    rfl
  exact va_iast C.1 C.2.1 C.2.2.2.2.2.1 hP hD hS q 0 hq rfl (vp_in_nI hj hn) hd (fun H1 locs1 hP1 hD1 hS1 => kk H1 locs1 ls (hset ▸ hP1) (hset ▸ hD1) hS1 hl)
theorem wp_zast (C : Cx E cc own Ts nL rm) {a n j : Nat} {i x : Int32} (hd : decode cc pc = .ok (.bastore, 1)) (ha : AR T a 15 n) (hi : i = nI j) (hj : j < n) (hn : n < 2 ^ 31) (hx : x = 0 ∨ x = 1) (kk : WP E nL cells slots T (u2 I a j x) J R (pc + 1) lv st) : WP E nL cells slots T I J R pc lv (.int x :: .int i :: .ref a :: st) := by
  intro H locs ls hP hD hS hl
  obtain ⟨q, hq0⟩ := gW_at (cy := E.2.2.2.1) (I := I) (J := J) (R := R) ha.1
  have hq := hq0
  rw [gE_Z ha.2.1, ha.2.2] at hq
  subst hi
  have hx2 : vp_nar .boolean x = x := by rcases hx with rfl | rfl <;> rfl
  have hset : (gW E.2.2.2.1 T I J R).set q (a, .inl (E.2.2.2.1 15, n, .inl (upd (I a) (nI j).toNatClampNeg (vp_nar .boolean x)))) = gW E.2.2.2.1 T (u2 I a j x) J R := by
    refine gW_set hD ha.1 hq0 ?_ (fun b hba => gE_ext (u2_rown I a j x hba).symm rfl rfl)
    rw [gE_Z ha.2.1, ha.2.2, nI_clamp (by omega), u2_row, hx2]
    rfl
  exact va_zast C.1 C.2.1 C.2.2.2.2.2.1 hP hD hS q 2 hq rfl (vp_in_nI hj hn) hd (fun H1 locs1 hP1 hD1 hS1 => kk H1 locs1 ls (hset ▸ hP1) (hset ▸ hD1) hS1 hl)
theorem wp_last (C : Cx E cc own Ts nL rm) {a n j : Nat} {i : Int32} {x : Int64} (hd : decode cc pc = .ok (.lastore, 1)) (ha : AR T a 14 n) (hi : i = nI j) (hj : j < n) (hn : n < 2 ^ 31) (kk : WP E nL cells slots T I (u2 J a j x) R (pc + 1) lv st) : WP E nL cells slots T I J R pc lv (.long x :: .int i :: .ref a :: st) := by
  intro H locs ls hP hD hS hl
  obtain ⟨q, hq0⟩ := gW_at (cy := E.2.2.2.1) (I := I) (J := J) (R := R) ha.1
  have hq := hq0
  rw [gE_J ha.2.1, ha.2.2] at hq
  subst hi
  have hset : (gW E.2.2.2.1 T I J R).set q (a, .inl (E.2.2.2.1 14, n, .inr (.inl (vp_updL (J a) (nI j).toNatClampNeg x)))) = gW E.2.2.2.1 T I (u2 J a j x) R := by
    refine gW_set hD ha.1 hq0 ?_ (fun b hba => gE_ext rfl (u2_rown J a j x hba).symm rfl)
    rw [gE_J ha.2.1, ha.2.2, nI_clamp (by omega), u2_row]
    rfl
  exact va_last C.1 C.2.1 C.2.2.2.2.2.1 hP hD hS q 1 hq rfl (vp_in_nI hj hn) hd (fun H1 locs1 hP1 hD1 hS1 => kk H1 locs1 ls (hset ▸ hP1) (hset ▸ hD1) hS1 hl)
theorem wp_aast (C : Cx E cc own Ts nL rm) {a n j kd x ci : Nat} {i : Int32} (r : vw_C) (hd : decode cc pc = .ok (.aastore, 1)) (ha : AR T a kd n) (hkd : 16 ≤ kd) (hty : (gY E.2.2.2.1)[kd - 13]? = some (E.2.2.2.1 kd, .object r.1)) (hv : OB T x ci) (hci : ci < 13) (hc : vwCl[ci]? = some r) (hi : i = nI j) (hj : j < n) (hn : n < 2 ^ 31) (kk : WP E nL cells slots T I J (u2 R a j (some x)) (pc + 1) lv st) : WP E nL cells slots T I J R pc lv (.ref x :: .int i :: .ref a :: st) := by
  intro H locs ls hP hD hS hl
  obtain ⟨q, hq0⟩ := gW_at (cy := E.2.2.2.1) (I := I) (J := J) (R := R) ha.1
  obtain ⟨qk, hqk⟩ := gW_at (cy := E.2.2.2.1) (I := I) (J := J) (R := R) hv.1
  rw [gE_ob hv.2 hci] at hqk
  have hq := hq0
  rw [gE_R ha.2.1 hkd, ha.2.2] at hq
  subst hi
  have hset : (gW E.2.2.2.1 T I J R).set q (a, .inl (E.2.2.2.1 kd, n, .inr (.inr (.inr (.inr (va_up (R a) (nI j).toNatClampNeg (some x))))))) = gW E.2.2.2.1 T I J (u2 R a j (some x)) := by
    refine gW_set hD ha.1 hq0 ?_ (fun b hba => gE_ext rfl rfl (u2_rown R a j (some x) hba).symm)
    rw [gE_R ha.2.1 hkd, ha.2.2, nI_clamp (by omega), u2_row]
    rfl
  exact va_astq C.1 C.2.1 C.2.2.2.2.2.1 hP hD hS q (kd - 13) qk ci hq hty hqk hc (vp_in_nI hj hn) hd (fun H1 locs1 hP1 hD1 hS1 => kk H1 locs1 ls (hset ▸ hP1) (hset ▸ hD1) hS1 hl)
theorem wp_alenI (C : Cx E cc own Ts nL rm) {a n : Nat} (hd : decode cc pc = .ok (.arraylength, 1)) (ha : AR T a 13 n) (kk : WP E nL cells slots T I J R (pc + 1) lv (.int (nI n) :: st)) : WP E nL cells slots T I J R pc lv (.ref a :: st) := by
  intro H locs ls hP hD hS hl
  obtain ⟨q, hq⟩ := gW_at (cy := E.2.2.2.1) (I := I) (J := J) (R := R) ha.1
  rw [gE_I ha.2.1, ha.2.2] at hq
  exact va_alen C.1 C.2.1 C.2.2.2.2.2.1 hP q 0 hq rfl rfl hd (kk H locs ls hP hD hS hl)
theorem wp_alenJ (C : Cx E cc own Ts nL rm) {a n : Nat} (hd : decode cc pc = .ok (.arraylength, 1)) (ha : AR T a 14 n) (kk : WP E nL cells slots T I J R (pc + 1) lv (.int (nI n) :: st)) : WP E nL cells slots T I J R pc lv (.ref a :: st) := by
  intro H locs ls hP hD hS hl
  obtain ⟨q, hq⟩ := gW_at (cy := E.2.2.2.1) (I := I) (J := J) (R := R) ha.1
  rw [gE_J ha.2.1, ha.2.2] at hq
  exact va_alen C.1 C.2.1 C.2.2.2.2.2.1 hP q 1 hq rfl rfl hd (kk H locs ls hP hD hS hl)
end WPH
