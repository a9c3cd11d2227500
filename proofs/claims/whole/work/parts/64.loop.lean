/-! ===== the law: its loop ===== -/
set_option maxRecDepth 100000 in
set_option maxHeartbeats 4000000 in
theorem law_loop {E : gEnv} {b L : Nat} {xs : Nat → Int32} (hW : LW E b L xs) (hend : ∀ (cells slots : Nat) (T : gSh) (I : gI) (J : gJ) (R : gR) (lv : List (Nat × Value)), cells ≤ 600000 → slots ≤ 7302250 → WP E 4 cells slots T I J R 1384 lv [.int 1]) {ca : Nat → Nat} {m : Nat} {ad : Nat → Nat} : ∀ k, k ≤ 512 → 10 * k ≤ L → ∀ (T : gSh) (I : gI) (J : gJ) (R : gR) (a : gI) (n : gJ), LI T I J R ca m ad a n → ∀ lv, lv_pick lv [0, 1, 2, 3] = [(0, .ref b), (1, .ref (ca 0)), (2, .ref m), (3, .int (nI (10 * k)))] → WP E 4 (70 + 2 * k) (4000 + 18 * k) T I J R 18 lv [] := by
  have h5 := hW.2.2.2.2
  refine loopN 512 (fun k hk ih => ?_)
  intro hkL T I J R a n hL lv hlv
  refine wp_lv [0, 1, 2, 3] hlv ?_
  refine wp_iload_n hW.1 3 dL_law_18 rfl rfl ?_
  refine wp_aload_n hW.1 0 dL_law_19 rfl rfl ?_
  refine wp_slen hW dL_law_20 ?_
  refine wp_bipush hW.1 10 dL_law_21 (by decide) ?_
  refine wp_isub hW.1 dL_law_23 ?_
  have hsub : (nI L - 10).toInt = (L : Int) - 10 := by rw [sub32 (by rw [nI_toInt (by omega)]; omega) (by decide), nI_toInt (by omega)]; rfl
  refine wp_icmp_gt hW.1 1383 dL_law_24 (by decide) (fun c24 => ?_) (fun c24 => ?_)
  · refine wp_iconst hW.1 1 dL_law_1383 (by decide) ?_
    exact hend _ _ _ _ _ _ _ (by omega) (by omega)
  · have c24 : ¬ (L : Int) - 10 < ((10 * k : Nat) : Int) := by have hcv := n_lt c24; rw [hsub, nI_toInt (by omega)] at hcv; exact hcv
    have hk1 : 10 * k + 10 ≤ L := by omega
    have hn : ∀ (T : gSh) (I : gI) (J : gJ) (R : gR) (a : gI) (n : gJ), LI T I J R ca m ad a n → WP E 4 (70 + 2 * k + 2) (4000 + 18 * k + 18) T I J R 1377 [(0, .ref b), (1, .ref (ca 0)), (2, .ref m), (3, .int (nI (10 * k)))] [] := by
      intro T I J R a n hL
      refine wp_iinc hW.1 3 (nI (10 * (k + 1))) [(3, .int (nI (10 * (k + 1)))), (0, .ref b), (1, .ref (ca 0)), (2, .ref m)] dL_law_1377 rfl ((nI_add (10 * k) 10).trans (congrArg nI (by omega))) (by decide) rfl ?_
      refine wp_goto hW.1 18 dL_law_1380 (by decide) ?_
      refine wp_widen (k := 70 + 2 * (k + 1)) (n := 4000 + 18 * (k + 1)) (by omega) (by omega) ?_
      refine wp_lv [1, 2, 3, 0] rfl ?_
      exact ih (k + 1) (by omega) (by omega) (by omega) T I J R a n hL _ rfl
    refine wp_aload_n hW.1 0 dL_law_27 rfl rfl ?_
    refine wp_iload_n hW.1 3 dL_law_28 rfl rfl ?_
    refine wp_sld hW (j := 10 * k) rfl (by omega) dL_law_29 ?_
    refine wp_bipush hW.1 31 dL_law_30 (by decide) ?_
    refine wp_iand hW.1 dL_law_32 ?_
    obtain ⟨op, hop, eop⟩ := pk_andE (xs (10 * k)) (m := 31) 5 rfl
    refine wp_eqi eop ?_
    have hop2 : op < 32 := hop
    rcases (show op = 0 ∨ op = 1 ∨ op = 2 ∨ op = 3 ∨ op = 4 ∨ op = 5 ∨ op = 6 ∨ op = 7 ∨ op = 8 ∨ op = 9 ∨ op = 10 ∨ op = 11 ∨ op = 12 ∨ op = 13 ∨ op = 14 ∨ op = 15 ∨ op = 16 ∨ op = 17 ∨ op = 18 ∨ op = 19 ∨ op = 20 ∨ op = 21 ∨ op = 22 ∨ op = 23 ∨ op = 24 ∨ op = 25 ∨ op = 26 ∨ op = 27 ∨ op = 28 ∨ op = 29 ∨ op = 30 ∨ op = 31 by omega) with rfl | rfl | rfl | rfl | rfl | rfl | rfl | rfl | rfl | rfl | rfl | rfl | rfl | rfl | rfl | rfl | rfl | rfl | rfl | rfl | rfl | rfl | rfl | rfl | rfl | rfl | rfl | rfl | rfl | rfl | rfl | rfl
    · refine wp_tableIn hW.1 160 dL_law_33 (by decide) (by decide) rfl (by decide) ?_
      exact law_0 hW hk1 (by omega) (by omega) hL hn
    · refine wp_tableIn hW.1 173 dL_law_33 (by decide) (by decide) rfl (by decide) ?_
      exact law_1 hW hk1 (by omega) (by omega) hL hn
    · refine wp_tableIn hW.1 216 dL_law_33 (by decide) (by decide) rfl (by decide) ?_
      exact law_2 hW hk1 (by omega) (by omega) hL hn
    · refine wp_tableIn hW.1 289 dL_law_33 (by decide) (by decide) rfl (by decide) ?_
      exact law_3 hW hk1 (by omega) (by omega) hL hn
    · refine wp_tableIn hW.1 323 dL_law_33 (by decide) (by decide) rfl (by decide) ?_
      exact law_4 hW hk1 (by omega) (by omega) hL hn
    · refine wp_tableIn hW.1 386 dL_law_33 (by decide) (by decide) rfl (by decide) ?_
      exact law_5 hW hk1 (by omega) (by omega) hL hn
    · refine wp_tableIn hW.1 399 dL_law_33 (by decide) (by decide) rfl (by decide) ?_
      exact law_6 hW hk1 (by omega) (by omega) hL hn
    · refine wp_tableIn hW.1 412 dL_law_33 (by decide) (by decide) rfl (by decide) ?_
      exact law_7 hW hk1 (by omega) (by omega) hL hn
    · refine wp_tableIn hW.1 435 dL_law_33 (by decide) (by decide) rfl (by decide) ?_
      exact law_8 hW hk1 (by omega) (by omega) hL hn
    · refine wp_tableIn hW.1 478 dL_law_33 (by decide) (by decide) rfl (by decide) ?_
      exact law_9 hW hk1 (by omega) (by omega) hL hn
    · refine wp_tableIn hW.1 491 dL_law_33 (by decide) (by decide) rfl (by decide) ?_
      exact law_10 hW hk1 (by omega) (by omega) hL hn
    · refine wp_tableIn hW.1 524 dL_law_33 (by decide) (by decide) rfl (by decide) ?_
      exact law_11 hW hk1 (by omega) (by omega) hL hn
    · refine wp_tableIn hW.1 557 dL_law_33 (by decide) (by decide) rfl (by decide) ?_
      exact law_12 hW hk1 (by omega) (by omega) hL hn
    · refine wp_tableIn hW.1 596 dL_law_33 (by decide) (by decide) rfl (by decide) ?_
      exact law_13 hW hk1 (by omega) (by omega) hL hn
    · refine wp_tableIn hW.1 655 dL_law_33 (by decide) (by decide) rfl (by decide) ?_
      exact law_14 hW hk1 (by omega) (by omega) hL hn
    · refine wp_tableIn hW.1 688 dL_law_33 (by decide) (by decide) rfl (by decide) ?_
      exact law_15 hW hk1 (by omega) (by omega) hL hn
    · refine wp_tableIn hW.1 775 dL_law_33 (by decide) (by decide) rfl (by decide) ?_
      exact law_16 hW hk1 (by omega) (by omega) hL hn
    · refine wp_tableIn hW.1 808 dL_law_33 (by decide) (by decide) rfl (by decide) ?_
      exact law_17 hW hk1 (by omega) (by omega) hL hn
    · refine wp_tableIn hW.1 871 dL_law_33 (by decide) (by decide) rfl (by decide) ?_
      exact law_18 hW hk1 (by omega) (by omega) hL hn
    · refine wp_tableIn hW.1 934 dL_law_33 (by decide) (by decide) rfl (by decide) ?_
      exact law_19 hW hk1 (by omega) (by omega) hL hn
    · refine wp_tableIn hW.1 987 dL_law_33 (by decide) (by decide) rfl (by decide) ?_
      exact law_20 hW hk1 (by omega) (by omega) hL hn
    · refine wp_tableIn hW.1 1086 dL_law_33 (by decide) (by decide) rfl (by decide) ?_
      exact law_21 hW hk1 (by omega) (by omega) hL hn
    · refine wp_tableIn hW.1 1100 dL_law_33 (by decide) (by decide) rfl (by decide) ?_
      exact law_22 hW hk1 (by omega) (by omega) hL hn
    · refine wp_tableIn hW.1 1114 dL_law_33 (by decide) (by decide) rfl (by decide) ?_
      exact law_23 hW hk1 (by omega) (by omega) hL hn
    · refine wp_tableIn hW.1 1177 dL_law_33 (by decide) (by decide) rfl (by decide) ?_
      exact law_24 hW hk1 (by omega) (by omega) hL hn
    · refine wp_tableIn hW.1 1200 dL_law_33 (by decide) (by decide) rfl (by decide) ?_
      exact law_25 hW hk1 (by omega) (by omega) hL hn
    · refine wp_tableIn hW.1 1311 dL_law_33 (by decide) (by decide) rfl (by decide) ?_
      exact law_26 hW hk1 (by omega) (by omega) hL hn
    · refine wp_tableIn hW.1 1344 dL_law_33 (by decide) (by decide) rfl (by decide) ?_
      exact law_27 hW hk1 (by omega) (by omega) hL hn
    · refine wp_tableOut hW.1 1377 dL_law_33 (by decide) (by decide) ?_
      exact wp_widen (by omega) (by omega) (hn T I J R a n hL)
    · refine wp_tableOut hW.1 1377 dL_law_33 (by decide) (by decide) ?_
      exact wp_widen (by omega) (by omega) (hn T I J R a n hL)
    · refine wp_tableOut hW.1 1377 dL_law_33 (by decide) (by decide) ?_
      exact wp_widen (by omega) (by omega) (hn T I J R a n hL)
    · refine wp_tableOut hW.1 1377 dL_law_33 (by decide) (by decide) ?_
      exact wp_widen (by omega) (by omega) (hn T I J R a n hL)
theorem Bd.none {T : gSh} {I : gI} {J : gJ} {R : gR} {u : Nat} : Bd T I J R u T I J R [] :=
  ⟨GrT.rf T, fun _ _ _ => ⟨rfl, rfl, rfl⟩, ⟨fun i c hc => by simp at hc, fun i j c d hc => by simp at hc⟩, fun i c hc => by simp at hc⟩
set_option maxRecDepth 100000 in
set_option maxHeartbeats 4000000 in
theorem law_start {E : gEnv} {b L : Nat} {xs : Nat → Int32} (hW : LW E b L xs) (hend : ∀ (cells slots : Nat) (T : gSh) (I : gI) (J : gJ) (R : gR) (lv : List (Nat × Value)), cells ≤ 600000 → slots ≤ 7302250 → WP E 4 cells slots T I J R 1384 lv [.int 1]) {T0 : gSh} {I0 : gI} {J0 : gJ} {R0 : gR} : WP E 4 0 0 T0 I0 J0 R0 0 [(0, .ref b)] [] := by
  have hB := Bd.none (T := T0) (I := I0) (J := J0) (R := R0) (u := 0)
  refine wp_new hW.1 dL_law_0 nL_law_7 (by decide) (by decide) ?_
  intro x hq
  refine wp_gen (fun T I J R => Bd T0 I0 J0 R0 0 T I J R [zC x 11 0]) (hB.push hq 11 0) ?_
  intro T I J R hB
  refine wp_dup hW.1 dL_law_3 rfl ?_
  refine wp_callI hW.1 (As := []) (rest := [.ref x]) dL_law_4 kL_law_9 (c_newFair _ (hB.cl 0 rfl)) rfl (Nat.le_of_ble_eq_true rfl) (by decide) (by decide) ?_
  rintro _ T I J R ⟨rfl, q, h2⟩
  unfold pl_c_newFair at h2
  have hB := hB.join (p := 0) rfl h2 rfl
  change WP E 4 _ _ T I J R 7 [(0, .ref b)] [.ref x]
  change Bd T0 I0 J0 R0 0 T I J R (pl_c_newFair x q) at hB
  refine wp_astore_n hW.1 [(1, .ref x), (0, .ref b)] dL_law_7 rfl (by decide) rfl ?_
  refine wp_new hW.1 dL_law_8 nL_law_10 (by decide) (by decide) ?_
  intro m hq
  refine wp_gen (fun T I J R => Bd T0 I0 J0 R0 0 T I J R (pl_c_newFair x q ++ [zC m 12 0])) (hB.push hq 12 0) ?_
  intro T I J R hB
  refine wp_dup hW.1 dL_law_11 rfl ?_
  refine wp_callI hW.1 (As := []) (rest := [.ref m]) dL_law_12 kL_law_12 (m_newModel _ (hB.cl 30 rfl)) rfl (Nat.le_of_ble_eq_true rfl) (by decide) (by decide) ?_
  rintro _ T I J R ⟨rfl, r, h2⟩
  unfold pl_m_newModel at h2
  have hB := hB.join (p := 30) rfl h2 rfl
  change WP E 4 _ _ T I J R 15 [(1, .ref x), (0, .ref b)] [.ref m]
  change Bd T0 I0 J0 R0 0 T I J R (pl_c_newFair x q ++ pl_m_newModel m r) at hB
  have hL := LI.start hB
  refine wp_astore_n hW.1 [(2, .ref m), (1, .ref x), (0, .ref b)] dL_law_15 rfl (by decide) rfl ?_
  refine wp_iconst hW.1 0 dL_law_16 (by decide) ?_
  refine wp_istore_n hW.1 [(3, .int 0), (2, .ref m), (1, .ref x), (0, .ref b)] dL_law_17 rfl (by decide) rfl ?_
  refine wp_lv [3, 2, 1, 0] rfl ?_
  refine wp_widen (k := 70 + 2 * 0) (n := 4000 + 18 * 0) (by decide) (by decide) ?_
  exact law_loop hW hend 0 (by decide) (Nat.zero_le _) T I J R a0_ n0_ hL _ rfl
theorem arr_p {args : Array Value} {s : State} {ty : FieldType} (h : (Cond.arrayClass ty).before args s = true) : ∃ cA : ClassId, ArrOfT s cA ty ∧ s.vm.findClass ("[" ++ ty.toString) = some cA := by
  obtain ⟨c, k, comp, h1, h2, h3⟩ := Cond.arrayClass_spec h
  exact ⟨c, fun n z => ⟨fun k h => (by cases h), k, h2, comp, h3⟩, h1⟩
theorem arr_o {args : Array Value} {s : State} {C : String} (h : (Cond.arrayOver (.object C)).before args s = true) : ∃ cA : ClassId, ArrOfT s cA (.object C) ∧ va_RA s cA (.object C) := by
  obtain ⟨comp, c, k, h1, h2, h3, h4, h5⟩ := Cond.arrayOver_spec h
  exact ⟨c, fun n z => ⟨fun k h => (by cases h), k, h3, comp, h4⟩, k, comp, h3, h4, h1, h5⟩
/-! THE CLAIM OUT OF ONE WALK OF THE LAW'S BODY. Your part is whole_start (and what it stands on); all else here is the same for every law, but numbers. -/
def R_law : String := "FairTablesLaw"
def lw_P (b : Addr) (xs : List Int32) (args : Array Value) (s : State) : Prop := args = #[.ref b] ∧ s.IntsAt b xs ∧ xs.length ≤ 5120 ∧ (Jvm.Cond.and given_1 narrow_1).before args s = true
def lw_Q (_ : Array Value) (s : State) (o : Outcome) (t : State) : Prop := o = .returned (some (.int 1)) ∧ Framed s o t [] 600000 7302250
def lw_Z (below : List Frame) (a : Array Value) (s : State) : State → Prop := fun t => ∃ o, t.status = .running ∧ Ended t below o ∧ lw_Q a s o t
/-- the law's own end, with 1 on the stack, nothing written that was there before, its room as the claim has it -/
theorem lw_ret {p : Program} {l : Launch} {e : Env} {s : State} {m : MethodId} {below : List Frame} {meth : Method} {c : Code} {b : Nat} (hx : p.tables.exec = Jvm.exec) (hb : c.code = code) (hr : meth.sig.returnType = ret) (hlocks : meth.locks = false) {pc : Nat} {H : Heap} {ls : Array Slot} (hdg : decode code pc = .ok (.ireturn, 1)) : W p l e room_1 s m #[Value.ref b] below meth c H [] 600000 7302250 (lw_Z below #[Value.ref b] s) (F0 m pc ls [.int 1]) := by
  intro T hT X
  obtain ⟨fs, hret, hrun, hended, hW, hframe⟩ := X.leave (v := some (.int 1)) (hlocks := hlocks) (fun h => by rw [hr] at h; cases h)
  have hmeth' : T.vm.method? m = some meth := X.method'
  refine ⟨T.setFrames fs, ?_, .returned (some (.int 1)), hrun, hended, rfl, ⟨_, rfl⟩, hW, hframe⟩
  jvm_step X.here [X.here.top, hx, hb, hdg, hmeth', hr, ret, narrow_b1]
  (try refine ⟨rfl, ?_⟩); (try refine ⟨rfl, ?_⟩)
  first | (intro acts; rw [hret _ acts rfl rfl rfl]) | rw [hret _ _ rfl rfl rfl]
  exact Steps.refl _
/-- what holds at the law's entry: the machine, the code, the tables' words (any of lw_tbl by 'hts w (by decide +kernel)'), the script of L ints xs at the cell b, what the Statement gives of the start (any of its parts by flat_of_before) -/
def lw_At (p : Program) (s : State) (m : MethodId) (meth : Method) (c : Code) (b L : Nat) (xs : Nat → Int32) : Prop :=
  p.tables.exec = Jvm.exec ∧ c.code = code ∧ meth.sig.returnType = ret ∧ c.maxLocals = 4 ∧ s.vm.findClass R_law = some m.cls ∧ (∀ w ∈ lw_tbl, w.before #[Value.ref b] s = true) ∧ va_X b L xs s s.heap ∧ b < s.heap.size ∧ meth.locks = false ∧ (Jvm.Cond.and given_1 narrow_1).before #[Value.ref b] s = true
set_option maxRecDepth 100000 in
set_option maxHeartbeats 4000000 in
theorem whole_start {p : Program} {e : Env} {s : State} {m : MethodId} {below : List Frame} {meth : Method} {c : Code} (l : Launch) {b L : Nat} {xs : Nat → Int32} (hL : L ≤ 5120) (C0 : lw_At p s m meth c b L xs) : W p l e room_1 s m #[Value.ref b] below meth c s.heap [] 0 0 (lw_Z below #[Value.ref b] s) (entryFrame m ([Value.ref b] : List Value).toArray 4) := by
  obtain ⟨hx, hb, hr, hml, hown, hts, hX, hbl, hlocks, hgv⟩ := id C0
  obtain ⟨c0, i0, k0⟩ := u_known (C := RX0) (T := TX0) (N := 8) (n := 8) hts inX0 (hts (.instantiable RX0 8) (wsL_law_in _ (by decide +kernel)))
  obtain ⟨c1, i1, k1⟩ := u_known (C := RX1) (T := TX1) (N := 8) (n := 8) hts inX1 (hts (.instantiable RX1 8) (wsL_law_in _ (by decide +kernel)))
  obtain ⟨c2, i2, k2⟩ := u_known (C := RX2) (T := TX2) (N := 7) (n := 7) hts inX2 (hts (.instantiable RX2 7) (wsL_law_in _ (by decide +kernel)))
  obtain ⟨c3, i3, k3⟩ := u_known (C := RX3) (T := TX3) (N := 5) (n := 5) hts inX3 (hts (.instantiable RX3 5) (wsL_law_in _ (by decide +kernel)))
  obtain ⟨c4, i4, k4⟩ := u_known (C := RX4) (T := TX4) (N := 7) (n := 7) hts inX4 (hts (.instantiable RX4 7) (wsL_law_in _ (by decide +kernel)))
  obtain ⟨c5, i5, k5⟩ := u_known (C := RX5) (T := TX5) (N := 5) (n := 5) hts inX5 (hts (.instantiable RX5 5) (wsL_law_in _ (by decide +kernel)))
  obtain ⟨c6, i6, k6⟩ := u_known (C := RX6) (T := TX6) (N := 3) (n := 3) hts inX6 (hts (.instantiable RX6 3) (wsL_law_in _ (by decide +kernel)))
  obtain ⟨c7, i7, k7⟩ := u_known (C := RX7) (T := TX7) (N := 4) (n := 4) hts inX7 (hts (.instantiable RX7 4) (wsL_law_in _ (by decide +kernel)))
  obtain ⟨c8, i8, k8⟩ := u_known (C := RX8) (T := TX8) (N := 5) (n := 5) hts inX8 (hts (.instantiable RX8 5) (wsL_law_in _ (by decide +kernel)))
  obtain ⟨c9, i9, k9⟩ := u_known (C := RX9) (T := TX9) (N := 3) (n := 3) hts inX9 (hts (.instantiable RX9 3) (wsL_law_in _ (by decide +kernel)))
  obtain ⟨c10, i10, k10⟩ := u_known (C := RX10) (T := TX10) (N := 4) (n := 4) hts inX10 (hts (.instantiable RX10 4) (wsL_law_in _ (by decide +kernel)))
  obtain ⟨c11, i11, k11⟩ := u_known (C := RX11) (T := TX11) (N := 8) (n := 8) hts inX11 (hts (.instantiable RX11 8) (wsL_law_in _ (by decide +kernel)))
  obtain ⟨c12, i12, k12⟩ := u_known (C := RX12) (T := TX12) (N := 54) (n := 54) hts inX12 (hts (.instantiable RX12 54) (wsL_law_in _ (by decide +kernel)))
  obtain ⟨y13, ay13, zy13⟩ := arr_p (hts (.arrayClass .int) (wsL_law_in _ (by decide +kernel)))
  obtain ⟨y14, ay14, zy14⟩ := arr_p (hts (.arrayClass .long) (wsL_law_in _ (by decide +kernel)))
  obtain ⟨y15, ay15, zy15⟩ := arr_p (hts (.arrayClass .boolean) (wsL_law_in _ (by decide +kernel)))
  obtain ⟨y16, ay16, zy16⟩ := arr_o (hts (.arrayOver (.object RX3)) (by decide +kernel))
  obtain ⟨y17, ay17, zy17⟩ := arr_o (hts (.arrayOver (.object RX5)) (by decide +kernel))
  obtain ⟨y18, ay18, zy18⟩ := arr_o (hts (.arrayOver (.object RX7)) (by decide +kernel))
  obtain ⟨y19, ay19, zy19⟩ := arr_o (hts (.arrayOver (.object RX10)) (by decide +kernel))
  have hK : va_K ((fun k => [c0, c1, c2, c3, c4, c5, c6, c7, c8, c9, c10, c11, c12].getD k c0), (fun k => [i0, i1, i2, i3, i4, i5, i6, i7, i8, i9, i10, i11, i12].getD k i0)) vwCl (gY (fun k => [y13, y14, y15, y16, y17, y18, y19].getD (k - 13) y13)) s := by
    refine ⟨fun c q hq => ?_, fun k q hq => ?_⟩
    · match c, hq with
      | 0, hq => cases hq; exact k0
      | 1, hq => cases hq; exact k1
      | 2, hq => cases hq; exact k2
      | 3, hq => cases hq; exact k3
      | 4, hq => cases hq; exact k4
      | 5, hq => cases hq; exact k5
      | 6, hq => cases hq; exact k6
      | 7, hq => cases hq; exact k7
      | 8, hq => cases hq; exact k8
      | 9, hq => cases hq; exact k9
      | 10, hq => cases hq; exact k10
      | 11, hq => cases hq; exact k11
      | 12, hq => cases hq; exact k12
      | k + 13, hq => simp [vwCl] at hq
    · match k, hq with
      | 0, hq => cases hq; exact ⟨ay13, zy13⟩
      | 1, hq => cases hq; exact ⟨ay14, zy14⟩
      | 2, hq => cases hq; exact ⟨ay15, zy15⟩
      | 3, hq => cases hq; exact ⟨ay16, zy16⟩
      | 4, hq => cases hq; exact ⟨ay17, zy17⟩
      | 5, hq => cases hq; exact ⟨ay18, zy18⟩
      | 6, hq => cases hq; exact ⟨ay19, zy19⟩
      | k + 7, hq => simp [gY] at hq
  have hN : gNs s := ⟨va_Nw.of rfl (hts (.methodLinkNest RX8 27 yX11_isDay RX11) (by decide +kernel)), va_Nw.of rfl (hts (.methodLinkNest RX11 15 yX10_init RX11) (by decide +kernel)), va_Nw.of rfl (hts (.methodLinkNest RX11 18 yX4_init RX11) (by decide +kernel)), va_Nw.of rfl (hts (.methodLinkNest RX11 25 yX2_init RX11) (by decide +kernel)), va_Nw.of rfl (hts (.methodLinkNest RX11 32 yX6_init RX11) (by decide +kernel)), va_Nw.of rfl (hts (.methodLinkNest RX4 27 yX1_init RX11) (by decide +kernel)), va_AO.of (hts (.arrayOver (.object RX3)) (by decide +kernel)), va_AO.of (hts (.arrayOver (.object RX5)) (by decide +kernel)), va_AO.of (hts (.arrayOver (.object RX7)) (by decide +kernel)), va_AO.of (hts (.arrayOver (.object RX10)) (by decide +kernel))⟩
  have hW : LW ((p, l, e, room_1, s), (m, #[Value.ref b], below, meth, c), (((fun k => [c0, c1, c2, c3, c4, c5, c6, c7, c8, c9, c10, c11, c12].getD k c0), (fun k => [i0, i1, i2, i3, i4, i5, i6, i7, i8, i9, i10, i11, i12].getD k i0)), (fun k => [y13, y14, y15, y16, y17, y18, y19].getD (k - 13) y13), (fun q => s.heap.size ≤ q), s.heap, lw_Z below #[Value.ref b] s)) b L xs :=
    ⟨⟨hx, hb, hml, hown, fun w h => hts w (wsL_law_in w h), hK, hN, fun _ h => h, hlocks, rfl⟩, hX, hbl, Nat.not_le.mpr hbl, hL⟩
  have main := law_start hW (fun cells slots T I J R lv h1 h2 H locs ls hP hD hS hl => va_forget hS.2.2 (W.widen h1 h2 (lw_ret hx hb hr hlocks dL_law_1384))) (T0 := ([], (fun _ => 0), (fun _ => 0))) (I0 := fun _ _ => 0) (J0 := fun _ _ => 0) (R0 := fun _ _ => none)
  have hl := lv_entry ([.ref b]) (n := 4) (Nat.le_of_ble_eq_true rfl)
  rw [lg_entry_eq]
  exact main s.heap [] _ (fun k q h => by simp [gW, va_pl] at h) ⟨fun i j p q h => by simp [gW, va_pl] at h, fun k q h => by simp [gW, va_pl] at h⟩ va_S.rf hl
