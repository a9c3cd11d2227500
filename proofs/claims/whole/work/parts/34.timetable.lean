/-! ===== the class's table ===== -/
theorem ff_cg {g g2 : Nat → Nat} {n : Nat} (h : ∀ k, k < n → (g k = 0 ↔ g2 k = 0)) : ff g n = ff g2 n := by
  obtain ⟨s1, s2, s3⟩ := ff_sp g2 n
  rcases Nat.lt_or_ge (ff g2 n) n with q | q
  · exact ff_eq q ((h _ q).mpr (s2 q)) (fun j hj => fun z => s3 j hj ((h j (by omega)).mp z))
  · have e : ff g2 n = n := by omega
    rw [e]; exact ff_none (fun j hj z => s3 j (by omega) ((h j hj).mp z))
/-- that hour as an answer -/
def fh (g : Nat → Nat) (n : Nat) : Int32 := if ff g n < n then nI (ff g n) else -1
theorem fh_y {g : Nat → Nat} {n k : Nat} (h1 : k < n) (h2 : g k = 0) (h3 : ∀ j, j < k → g j ≠ 0) : fh g n = nI k := by unfold fh; rw [ff_eq h1 h2 h3, if_pos h1]
theorem fh_n {g : Nat → Nat} {n : Nat} (h : ∀ j, j < n → g j ≠ 0) : fh g n = -1 := by unfold fh; rw [ff_none h, if_neg (Nat.lt_irrefl n)]
/-- the arrays hold the table -/
def TT (I : gI) (A E : Nat) (ea ae : Nat → Nat) : Prop := (∀ q, q < 64 → I A q = vI (ea q)) ∧ (∀ q, q < 80 → I E q = vI (ae q))
theorem row_put {r : Nat → Int32} {g : Nat → Nat} {n : Nat} (h : ∀ q, q < n → r q = vI (g q)) (p x : Nat) : ∀ q, q < n → (if q = p then vI x else r q) = vI (va_up g p x q) := by
  intro q hq
  by_cases e : q = p
  · rw [if_pos e, e, vu_s]
  · rw [if_neg e, vu_n _ _ e]; exact h q hq
theorem u2_if {α : Type} (f : Nat → Nat → α) (a p : Nat) (v : α) (q : Nat) : (u2 f a p v) a q = if q = p then v else f a q := by
  by_cases e : q = p
  · rw [if_pos e, e, u2_s]
  · rw [if_neg e, u2_k _ _ _ _ e]
theorem TT.putA {I : gI} {A E : Nat} {ea ae : Nat → Nat} (H : TT I A E ea ae) (ne : A ≠ E) (p x : Nat) {v : Int32} (hv : v = vI x) : TT (u2 I A p v) A E (va_up ea p x) ae := by
  subst hv
  exact ⟨fun q hq => by rw [u2_if]; exact row_put H.1 p x q hq, fun q hq => by rw [u2_a _ _ _ _ (Ne.symm ne)]; exact H.2 q hq⟩
theorem TT.putE {I : gI} {A E : Nat} {ea ae : Nat → Nat} (H : TT I A E ea ae) (ne : A ≠ E) (p x : Nat) {v : Int32} (hv : v = vI x) : TT (u2 I E p v) A E ea (va_up ae p x) := by
  subst hv
  exact ⟨fun q hq => by rw [u2_a _ _ _ _ ne]; exact H.1 q hq, fun q hq => by rw [u2_if]; exact row_put H.2 p x q hq⟩
theorem TT.cg {I : gI} {A E : Nat} {ea ae ea2 ae2 : Nat → Nat} (H : TT I A E ea ae) (h1 : ∀ q, q < 64 → ea q = ea2 q) (h2 : ∀ q, q < 80 → ae q = ae2 q) : TT I A E ea2 ae2 := ⟨fun q hq => by rw [← h1 q hq]; exact H.1 q hq, fun q hq => by rw [← h2 q hq]; exact H.2 q hq⟩
/-- the chain turned in its first n editors, and in its first n agents -/
def CE (ea ae : Nat → Nat) (a b e0 n : Nat) (f : Nat → Nat) : Prop := (∀ j, j < n → ∀ e, kE ea ae a b e0 j = e + 1 → f (8 * e + a) = ae (8 * e + b) ∧ f (8 * e + b) = ae (8 * e + a)) ∧ (∀ q, q < 80 → (∀ j, j < n → kE ea ae a b e0 j ≠ q / 8 + 1) → f q = ae q) ∧ (∀ q, q < 80 → q % 8 ≠ a → q % 8 ≠ b → f q = ae q)
def SE (ea ae : Nat → Nat) (a b e0 n : Nat) (f : Nat → Nat) : Prop := (∀ j, j < n → ∀ e, kE ea ae a b e0 j = e + 1 → f (8 * e + a) = ae (8 * e + b) ∧ f (8 * e + b) = ae (8 * e + a)) ∧ (∀ e, kE ea ae a b e0 n = e + 1 → f (8 * e + a) = ae (8 * e + b) ∧ f (8 * e + b) = 0) ∧ (∀ q, q < 80 → (∀ j, j < n + 1 → kE ea ae a b e0 j ≠ q / 8 + 1) → f q = ae q) ∧ (∀ q, q < 80 → q % 8 ≠ a → q % 8 ≠ b → f q = ae q)
def CA (ea ae : Nat → Nat) (a b e0 n : Nat) (g : Nat → Nat) : Prop := (∀ j, j < n → ∀ v, kA ea ae a b e0 j = v + 1 → g (8 * v + a) = ea (8 * v + b) ∧ g (8 * v + b) = ea (8 * v + a)) ∧ (∀ q, q < 64 → (∀ j, j < n → kA ea ae a b e0 j ≠ q / 8 + 1) → g q = ea q) ∧ (∀ q, q < 64 → q % 8 ≠ a → q % 8 ≠ b → g q = ea q)
section CEs
variable {ea ae : Nat → Nat} {a b e0 n : Nat} {f g : Nat → Nat}
theorem KC.seE (H : KC ea ae a b e0) (hab : a ≠ b) : SE ea ae a b e0 0 (va_up ae (8 * e0 + a) 0) := by
  obtain ⟨_, ha, hb, he, h0⟩ := H
  refine ⟨fun j hj => by omega, fun e h => ?_, fun q hq h => ?_, fun q hq h1 h2 => ?_⟩
  · have : e0 = e := by have : e0 + 1 = e + 1 := h; omega
    subst this
    rw [vu_s, vu_n _ _ (by omega)]; exact ⟨h0.symm, h0⟩
  · have : e0 + 1 ≠ q / 8 + 1 := h 0 (by omega)
    rw [vu_n _ _ (by omega)]
  · rw [vu_n _ _ (by omega)]
theorem KC.caA : CA ea ae a b e0 0 ea := ⟨fun j hj => by omega, fun _ _ _ => rfl, fun _ _ _ _ => rfl⟩
theorem SE.close (K : KC ea ae a b e0) (hab : a ≠ b) (H : SE ea ae a b e0 n f) {v e : Nat} (hv : kA ea ae a b e0 n = v + 1) (he : kE ea ae a b e0 n = e + 1) : CE ea ae a b e0 (n + 1) (va_up f (8 * e + b) (v + 1)) := by
  obtain ⟨h1, h2, h3, h4⟩ := H
  have z := K.backA hv
  have r := (K.rng n).1
  have ha := K.2.1
  have hb := K.2.2.1
  refine ⟨fun j hj e2 he2 => ?_, fun q hq h => ?_, fun q hq q1 q2 => ?_⟩
  · by_cases jn : j = n
    · subst jn
      have : e = e2 := by omega
      subst this
      rw [vu_s, vu_n _ _ (by omega)]
      refine ⟨(h2 e he).1, ?_⟩
      have := z.2.2.1
      rw [he, show e + 1 - 1 = e by omega] at this
      exact this.symm
    · have ne : e2 ≠ e := fun q => jn (K.injE j n (by rw [he2, he, q]) (by omega))
      rw [vu_n _ _ (by omega), vu_n _ _ (by omega)]
      exact h1 j (by omega) e2 he2
  · have := h n (by omega)
    rw [vu_n _ _ (by omega)]; exact h3 q hq h
  · rw [vu_n _ _ (by omega)]; exact h4 q hq q1 q2
theorem SE.stop (H : SE ea ae a b e0 n f) (hv : kA ea ae a b e0 n = 0) : CE ea ae a b e0 (n + 1) f := by
  obtain ⟨h1, h2, h3, h4⟩ := H
  refine ⟨fun j hj e2 he2 => ?_, h3, h4⟩
  by_cases jn : j = n
  · subst jn
    have z := h2 e2 he2
    rw [kA_d, if_neg (by omega), he2, show e2 + 1 - 1 = e2 by omega] at hv
    exact ⟨z.1, by rw [hv]; exact z.2⟩
  · exact h1 j (by omega) e2 he2
theorem CE.next (K : KC ea ae a b e0) (hab : a ≠ b) (H : CE ea ae a b e0 (n + 1) f) {v e : Nat} (hv : kA ea ae a b e0 n = v + 1) (he : kE ea ae a b e0 (n + 1) = e + 1) : SE ea ae a b e0 (n + 1) (va_up (va_up f (8 * e + a) (v + 1)) (8 * e + b) 0) := by
  obtain ⟨h1, h2, h3⟩ := H
  have z := K.backE he
  have ha := K.2.1
  have hb := K.2.2.1
  refine ⟨fun j hj e2 he2 => ?_, fun e2 he2 => ?_, fun q hq h => ?_, fun q hq q1 q2 => ?_⟩
  · have ne : e2 ≠ e := fun q => by have := K.injE j (n + 1) (by rw [he2, he, q]) (by omega); omega
    rw [vu_n _ _ (by omega), vu_n _ _ (by omega), vu_n _ _ (by omega), vu_n _ _ (by omega)]
    exact h1 j hj e2 he2
  · have : e = e2 := by omega
    subst this
    rw [vu_s, vu_n _ _ (by omega), vu_s]
    exact ⟨by rw [z.2.1, hv], rfl⟩
  · have := h (n + 1) (by omega)
    rw [vu_n _ _ (by omega), vu_n _ _ (by omega)]; exact h2 q hq (fun j hj => h j (by omega))
  · rw [vu_n _ _ (by omega), vu_n _ _ (by omega)]; exact h3 q hq q1 q2
theorem CA.next (K : KC ea ae a b e0) (hab : a ≠ b) (H : CA ea ae a b e0 n g) {v : Nat} (hv : kA ea ae a b e0 n = v + 1) {g2 : Nat → Nat} (h1 : g2 (8 * v + a) = kE ea ae a b e0 (n + 1)) (h2 : g2 (8 * v + b) = kE ea ae a b e0 n) (h3 : ∀ q, q ≠ 8 * v + a → q ≠ 8 * v + b → g2 q = g q) : CA ea ae a b e0 (n + 1) g2 := by
  obtain ⟨k1, k2, k3⟩ := H
  have z := K.backA hv
  have ha := K.2.1
  have hb := K.2.2.1
  refine ⟨fun j hj w hw => ?_, fun q hq h => ?_, fun q hq q1 q2 => ?_⟩
  · by_cases jn : j = n
    · subst jn
      have : v = w := by omega
      subst this
      rw [h1, h2, z.2.1, kE_s, if_neg (by omega), hv]; exact ⟨rfl, rfl⟩
    · have ne : w ≠ v := fun q => jn (K.injA (by rw [hw, hv, q]) (by omega))
      rw [h3 _ (by omega) (by omega), h3 _ (by omega) (by omega)]; exact k1 j (by omega) w hw
  · have := h n (by omega)
    rw [h3 _ (by omega) (by omega)]; exact k2 q hq (fun j hj => h j (by omega))
  · rw [h3 _ (by omega) (by omega)]; exact k3 q hq q1 q2
theorem KC.zE (K : KC ea ae a b e0) (h : kE ea ae a b e0 n = 0) : ∀ j, kE ea ae a b e0 j ≠ 0 → j < n := by
  intro j hj
  rcases Nat.lt_or_ge j n with q | q
  · exact q
  · exfalso
    obtain ⟨d, rfl⟩ : ∃ d, j = n + d := ⟨j - n, by omega⟩
    clear q
    induction d with
    | zero => exact hj h
    | succ d ih =>
      by_cases q : kE ea ae a b e0 (n + d) = 0
      · refine hj ?_
        rw [show n + (d + 1) = (n + d) + 1 by omega, kE_s, kA_d, if_pos q, if_pos rfl]
      · exact ih q
theorem CE.fin (K : KC ea ae a b e0) (hab : a ≠ b) (H : CE ea ae a b e0 n f) (h : kE ea ae a b e0 n = 0) : ∀ q, q < 80 → f q = swp (inE ea ae a b e0) a b ae q := by
  intro q hq
  have ha := K.2.1
  have hb := K.2.2.1
  by_cases P : inE ea ae a b e0 (q / 8)
  · obtain ⟨j, hj⟩ := P
    have z := H.1 j (K.zE h j (by omega)) _ hj
    by_cases q1 : q % 8 = a
    · have e : q = 8 * (q / 8) + a := by omega
      rw [e, swp_a ha ⟨j, hj⟩]; exact z.1
    · by_cases q2 : q % 8 = b
      · have e : q = 8 * (q / 8) + b := by omega
        rw [e, swp_b hab hb ⟨j, hj⟩]; exact z.2
      · rw [swp_o q1 q2]; exact H.2.2 q hq q1 q2
  · rw [swp_n P]; exact H.2.1 q hq (fun j _ e => P ⟨j, e⟩)
theorem CA.fin (K : KC ea ae a b e0) (hab : a ≠ b) (H : CA ea ae a b e0 n g) (h : kA ea ae a b e0 n = 0) : ∀ q, q < 64 → g q = swp (inA ea ae a b e0) a b ea q := by
  intro q hq
  have ha := K.2.1
  have hb := K.2.2.1
  by_cases P : inA ea ae a b e0 (q / 8)
  · obtain ⟨j, hj⟩ := P
    have jn : j < n := by
      rcases Nat.lt_or_ge j n with z | z
      · exact z
      · exact absurd h (K.prev (i := j) (by omega) n z)
    have z := H.1 j jn _ hj
    by_cases q1 : q % 8 = a
    · have e : q = 8 * (q / 8) + a := by omega
      rw [e, swp_a ha ⟨j, hj⟩]; exact z.1
    · by_cases q2 : q % 8 = b
      · have e : q = 8 * (q / 8) + b := by omega
        rw [e, swp_b hab hb ⟨j, hj⟩]; exact z.2
      · rw [swp_o q1 q2]; exact H.2.2 q hq q1 q2
  · rw [swp_n P]; exact H.2.1 q hq (fun j _ e => P ⟨j, e⟩)
theorem KC.ez (h : kA ea ae a b e0 n = 0) : kE ea ae a b e0 (n + 1) = 0 := by rw [kE_s, if_pos h]
theorem KC.a0 (h : kE ea ae a b e0 n = 0) : kA ea ae a b e0 n = 0 := by rw [kA_d, if_pos h]
end CEs
/-- the table's two arrays alone have changed -/
def FrT (I I2 : gI) (A E : Nat) : Prop := ∀ x, x ≠ A → x ≠ E → I2 x = I x
theorem FrT.rf (I : gI) (A E : Nat) : FrT I I A E := fun _ _ _ => rfl
theorem FrT.pA {I I2 : gI} {A E : Nat} (H : FrT I I2 A E) (p : Nat) (v : Int32) : FrT I (u2 I2 A p v) A E := fun x h1 h2 => (u2_rown _ _ _ _ h1).trans (H x h1 h2)
theorem FrT.pE {I I2 : gI} {A E : Nat} (H : FrT I I2 A E) (p : Nat) (v : Int32) : FrT I (u2 I2 E p v) A E := fun x h1 h2 => (u2_rown _ _ _ _ h2).trans (H x h1 h2)
theorem FrT.tr {I I2 I3 : gI} {A E : Nat} (H : FrT I I2 A E) (G : FrT I2 I3 A E) : FrT I I3 A E := fun x h1 h2 => (G x h1 h2).trans (H x h1 h2)
/-- an end that leaves a new table -/
def PT (T : gSh) (J : gJ) (R : gR) (I : gI) (A E : Nat) (t : (Nat → Nat) × (Nat → Nat)) : gPost := fun r T' I' J' R' => r = none ∧ T = T' ∧ J = J' ∧ R = R' ∧ FrT I I' A E ∧ TT I' A E t.1 t.2
set_option maxRecDepth 100000 in
set_option maxHeartbeats 4000000 in
theorem c_editorAt (l : Launch) {T : gSh} {I : gI} {J : gJ} {R : gR} {ca : Nat → Nat} (hC : CO T R ca) {a h : Nat} (ha : a < 8) (hh : h < 8) : Con l yX9_editorAt wsX9_editorAt ({ frames := 0, cells := 0, slots := 0, locals := 0 }) [.ref (ca 15), .int (nI a), .int (nI h)] T I J R (gP (some (.int (I (ca 23) (8 * a + h)))) T I J R) := by
  refine Con.mk (cc := cX9_editorAt) (maxL := 3) (ret := (some .int)) (by decide) rfl (Nat.le_of_ble_eq_true rfl) ?_
  intro E hE C Z hnm
  subst hE
  change WP E 3 0 0 T I J R 0 [(0, .ref (ca 15)), (1, .int (nI a)), (2, .int (nI h))] []
  refine wp_aload_n C 0 dX9_editorAt_0 rfl rfl ?_
  refine wp_getR C dX9_editorAt_1 fX9_editorAt_15 (hC.ob 15 (by decide) rfl) (hC.rf 15 1 23 (by decide)) ?_
  refine wp_iload_n C 1 dX9_editorAt_4 rfl rfl ?_
  refine wp_bipush C 8 dX9_editorAt_5 (by decide) ?_
  refine wp_imul C dX9_editorAt_7 ?_
  refine wp_eqi (pk_mul a 8) ?_
  refine wp_iload_n C 2 dX9_editorAt_8 rfl rfl ?_
  refine wp_iadd C dX9_editorAt_9 ?_
  refine wp_eqi (nI_add (a * 8) h) ?_
  refine wp_iald C dX9_editorAt_10 (hC.ar 23 (by decide) rfl) (j := 8 * a + h) (congrArg nI (by omega)) (by omega) (by decide) ?_
  exact wp_iret C Z dX9_editorAt_11 (by decide) (by decide) gP_rf
set_option maxRecDepth 100000 in
set_option maxHeartbeats 4000000 in
theorem c_agentAt (l : Launch) {T : gSh} {I : gI} {J : gJ} {R : gR} {ca : Nat → Nat} (hC : CO T R ca) {e h : Nat} (he : e < 10) (hh : h < 8) : Con l yX9_agentAt wsX9_agentAt ({ frames := 0, cells := 0, slots := 0, locals := 0 }) [.ref (ca 15), .int (nI e), .int (nI h)] T I J R (gP (some (.int (I (ca 24) (8 * e + h)))) T I J R) := by
  refine Con.mk (cc := cX9_agentAt) (maxL := 3) (ret := (some .int)) (by decide) rfl (Nat.le_of_ble_eq_true rfl) ?_
  intro E hE C Z hnm
  subst hE
  change WP E 3 0 0 T I J R 0 [(0, .ref (ca 15)), (1, .int (nI e)), (2, .int (nI h))] []
  refine wp_aload_n C 0 dX9_agentAt_0 rfl rfl ?_
  refine wp_getR C dX9_agentAt_1 fX9_agentAt_19 (hC.ob 15 (by decide) rfl) (hC.rf 15 2 24 (by decide)) ?_
  refine wp_iload_n C 1 dX9_agentAt_4 rfl rfl ?_
  refine wp_bipush C 8 dX9_agentAt_5 (by decide) ?_
  refine wp_imul C dX9_agentAt_7 ?_
  refine wp_eqi (pk_mul e 8) ?_
  refine wp_iload_n C 2 dX9_agentAt_8 rfl rfl ?_
  refine wp_iadd C dX9_agentAt_9 ?_
  refine wp_eqi (nI_add (e * 8) h) ?_
  refine wp_iald C dX9_agentAt_10 (hC.ar 24 (by decide) rfl) (j := 8 * e + h) (congrArg nI (by omega)) (by omega) (by decide) ?_
  exact wp_iret C Z dX9_agentAt_11 (by decide) (by decide) gP_rf
set_option maxRecDepth 100000 in
set_option maxHeartbeats 4000000 in
theorem c_seat (l : Launch) {T : gSh} {I : gI} {J : gJ} {R : gR} {ca : Nat → Nat} (hC : CO T R ca) {a e h : Nat} (ha : a < 8) (he : e < 10) (hh : h < 8) : Con l yX9_seat wsX9_seat ({ frames := 0, cells := 0, slots := 0, locals := 0 }) [.ref (ca 15), .int (nI a), .int (nI e), .int (nI h)] T I J R (gP none T (u2 (u2 I (ca 23) (8 * a + h) (nI e)) (ca 24) (8 * e + h) (nI a)) J R) := by
  refine Con.mk (cc := cX9_seat) (maxL := 4) (ret := none) (by decide) rfl (Nat.le_of_ble_eq_true rfl) ?_
  intro E hE C Z hnm
  subst hE
  change WP E 4 0 0 T I J R 0 [(0, .ref (ca 15)), (1, .int (nI a)), (2, .int (nI e)), (3, .int (nI h))] []
  refine wp_aload_n C 0 dX9_seat_0 rfl rfl ?_
  refine wp_getR C dX9_seat_1 fX9_seat_15 (hC.ob 15 (by decide) rfl) (hC.rf 15 1 23 (by decide)) ?_
  refine wp_iload_n C 1 dX9_seat_4 rfl rfl ?_
  refine wp_bipush C 8 dX9_seat_5 (by decide) ?_
  refine wp_imul C dX9_seat_7 ?_
  refine wp_eqi (pk_mul a 8) ?_
  refine wp_iload_n C 3 dX9_seat_8 rfl rfl ?_
  refine wp_iadd C dX9_seat_9 ?_
  refine wp_eqi (nI_add (a * 8) h) ?_
  refine wp_iload_n C 2 dX9_seat_10 rfl rfl ?_
  refine wp_iast C dX9_seat_11 (hC.ar 23 (by decide) rfl) (j := 8 * a + h) (congrArg nI (by omega)) (by omega) (by decide) ?_
  refine wp_aload_n C 0 dX9_seat_12 rfl rfl ?_
  refine wp_getR C dX9_seat_13 fX9_seat_19 (hC.ob 15 (by decide) rfl) (hC.rf 15 2 24 (by decide)) ?_
  refine wp_iload_n C 2 dX9_seat_16 rfl rfl ?_
  refine wp_bipush C 8 dX9_seat_17 (by decide) ?_
  refine wp_imul C dX9_seat_19 ?_
  refine wp_eqi (pk_mul e 8) ?_
  refine wp_iload_n C 3 dX9_seat_20 rfl rfl ?_
  refine wp_iadd C dX9_seat_21 ?_
  refine wp_eqi (nI_add (e * 8) h) ?_
  refine wp_iload_n C 1 dX9_seat_22 rfl rfl ?_
  refine wp_iast C dX9_seat_23 (hC.ar 24 (by decide) rfl) (j := 8 * e + h) (congrArg nI (by omega)) (by omega) (by decide) ?_
  exact wp_vret C Z dX9_seat_24 (by decide) (by decide) gP_rf
set_option maxRecDepth 100000 in
set_option maxHeartbeats 4000000 in
theorem c_hourOf (l : Launch) {T : gSh} {I : gI} {J : gJ} {R : gR} {ca : Nat → Nat} (hC : CO T R ca) {H : Nat} (hH : I (ca 15) 0 = nI H) (hH8 : H ≤ 8) {a : Nat} (ha : a < 8) (x : Int32) : Con l yX9_hourOf wsX9_hourOf ({ frames := 1, cells := 0, slots := 0, locals := 22 }) [.ref (ca 15), .int (nI a), .int x] T I J R (gP (some (.int (fh (fun k => if I (ca 23) (8 * a + k) = x then 0 else 1) H))) T I J R) := by
  refine Con.mk (cc := cX9_hourOf) (maxL := 4) (ret := (some .int)) (by decide) rfl (Nat.le_of_ble_eq_true rfl) ?_
  intro E hE C Z hnm
  subst hE
  change WP E 4 0 0 T I J R 0 [(0, .ref (ca 15)), (1, .int (nI a)), (2, .int x)] []
  have loop : ∀ i, i ≤ H → (∀ j, j < i → (fun k => if I (ca 23) (8 * a + k) = x then 0 else 1) j ≠ 0) → ∀ lv, lv_pick lv [0, 1, 2, 3] = [(0, .ref (ca 15)), (1, .int (nI a)), (2, .int x), (3, .int (nI i))] → WP E 4 0 0 T I J R 2 lv [] := by
    refine loopN H (fun i hi ih => ?_)
    intro hz lv hlv
    refine wp_lv [0, 1, 2, 3] hlv ?_
    refine wp_iload_n C 3 dX9_hourOf_2 rfl rfl ?_
    refine wp_aload_n C 0 dX9_hourOf_3 rfl rfl ?_
    refine wp_getI C dX9_hourOf_4 fX9_hourOf_9 (hC.ob 15 (by decide) rfl) ?_
    refine wp_eqi hH ?_
    refine wp_icmp_ge C 28 dX9_hourOf_7 (by decide) (fun c7 => ?_) (fun c7 => ?_)
    · have c7 : ((H : Nat) : Int) ≤ ((i : Nat) : Int) := by have h := p_le c7; rw [nI_toInt (show H < 2 ^ 31 by omega), nI_toInt (show i < 2 ^ 31 by omega)] at h; exact h
      refine wp_iconst C (-1) dX9_hourOf_28 (by decide) ?_
      have e9 : i = H := by omega
      subst e9
      exact wp_iret C Z dX9_hourOf_29 (by decide) (by decide) (by rw [fh_n hz]; exact gP_rf)
    · have c7 : ¬ ((H : Nat) : Int) ≤ ((i : Nat) : Int) := by have h := n_le c7; rw [nI_toInt (show H < 2 ^ 31 by omega), nI_toInt (show i < 2 ^ 31 by omega)] at h; exact h
      refine wp_aload_n C 0 dX9_hourOf_10 rfl rfl ?_
      refine wp_iload_n C 1 dX9_hourOf_11 rfl rfl ?_
      refine wp_iload_n C 3 dX9_hourOf_12 rfl rfl ?_
      refine wp_cVi C (As := [.int (nI a), .int (nI i)]) (rest := []) dX9_hourOf_13 kX9_hourOf_32 (hC.ob 15 (by decide) rfl) (c_editorAt _ hC (a := a) (h := i) (by omega) (by omega)) rfl (Nat.le_of_ble_eq_true rfl) (by decide) (by decide) ?_
      refine wp_iload_n C 2 dX9_hourOf_16 rfl rfl ?_
      refine wp_icmp_ne C 22 dX9_hourOf_17 (by decide) (fun c17 => ?_) (fun c17 => ?_)
      · refine wp_iinc C 3 (nI (i + 1)) [(3, .int (nI (i + 1))), (0, .ref (ca 15)), (1, .int (nI a)), (2, .int x)] dX9_hourOf_22 rfl (nI_1 i) (by decide) rfl ?_
        refine wp_goto C 2 dX9_hourOf_25 (by decide) ?_
        refine wp_lv [1, 2, 3, 0] rfl ?_
        refine ih (i + 1) (by omega) (by omega) (fun j hj => ?_) _ rfl
        by_cases e9 : j = i
        · subst e9; show (if _ then 0 else 1) ≠ 0; rw [if_neg c17]; decide
        · exact hz j (by omega)
      · refine wp_iload_n C 3 dX9_hourOf_20 rfl rfl ?_
        have hi2 : i < H := by omega
        have g0 : (fun k => if I (ca 23) (8 * a + k) = x then 0 else 1) i = 0 := by exact if_pos c17
        exact wp_iret C Z dX9_hourOf_21 (by decide) (by decide) (by rw [fh_y hi2 g0 hz]; exact gP_rf)
  refine wp_iconst C 0 dX9_hourOf_0 (by decide) ?_
  refine wp_istore_n C [(3, .int 0), (0, .ref (ca 15)), (1, .int (nI a)), (2, .int x)] dX9_hourOf_1 rfl (by decide) rfl ?_
  refine wp_lv [1, 2, 3, 0] rfl ?_
  exact loop 0 (by omega) (fun j hj => by omega) _ rfl
set_option maxRecDepth 100000 in
set_option maxHeartbeats 4000000 in
theorem c_freeBoth (l : Launch) {T : gSh} {I : gI} {J : gJ} {R : gR} {ca : Nat → Nat} (hC : CO T R ca) {H : Nat} (hH : I (ca 15) 0 = nI H) (hH8 : H ≤ 8) {a e : Nat} (ha : a < 8) (he : e < 10) {ea ae : Nat → Nat} (hT : TT I (ca 23) (ca 24) ea ae) (hB : TB ea ae) : Con l yX9_hourFreeForBoth wsX9_hourFreeForBoth ({ frames := 1, cells := 0, slots := 0, locals := 22 }) [.ref (ca 15), .int (nI a), .int (nI e)] T I J R (gP (some (.int (fh (fun k => ea (8 * a + k) + ae (8 * e + k)) H))) T I J R) := by
  refine Con.mk (cc := cX9_hourFreeForBoth) (maxL := 4) (ret := (some .int)) (by decide) rfl (Nat.le_of_ble_eq_true rfl) ?_
  intro E hE C Z hnm
  subst hE
  change WP E 4 0 0 T I J R 0 [(0, .ref (ca 15)), (1, .int (nI a)), (2, .int (nI e))] []
  have loop : ∀ i, i ≤ H → (∀ j, j < i → (fun k => ea (8 * a + k) + ae (8 * e + k)) j ≠ 0) → ∀ lv, lv_pick lv [0, 1, 2, 3] = [(0, .ref (ca 15)), (1, .int (nI a)), (2, .int (nI e)), (3, .int (nI i))] → WP E 4 0 0 T I J R 2 lv [] := by
    refine loopN H (fun i hi ih => ?_)
    intro hz lv hlv
    refine wp_lv [0, 1, 2, 3] hlv ?_
    refine wp_iload_n C 3 dX9_hourFreeForBoth_2 rfl rfl ?_
    refine wp_aload_n C 0 dX9_hourFreeForBoth_3 rfl rfl ?_
    refine wp_getI C dX9_hourFreeForBoth_4 fX9_hourFreeForBoth_9 (hC.ob 15 (by decide) rfl) ?_
    refine wp_eqi hH ?_
    refine wp_icmp_ge C 38 dX9_hourFreeForBoth_7 (by decide) (fun c7 => ?_) (fun c7 => ?_)
    · have c7 : ((H : Nat) : Int) ≤ ((i : Nat) : Int) := by have h := p_le c7; rw [nI_toInt (show H < 2 ^ 31 by omega), nI_toInt (show i < 2 ^ 31 by omega)] at h; exact h
      refine wp_iconst C (-1) dX9_hourFreeForBoth_38 (by decide) ?_
      have e9 : i = H := by omega
      subst e9
      exact wp_iret C Z dX9_hourFreeForBoth_39 (by decide) (by decide) (by rw [fh_n hz]; exact gP_rf)
    · have c7 : ¬ ((H : Nat) : Int) ≤ ((i : Nat) : Int) := by have h := n_le c7; rw [nI_toInt (show H < 2 ^ 31 by omega), nI_toInt (show i < 2 ^ 31 by omega)] at h; exact h
      refine wp_aload_n C 0 dX9_hourFreeForBoth_10 rfl rfl ?_
      refine wp_iload_n C 1 dX9_hourFreeForBoth_11 rfl rfl ?_
      refine wp_iload_n C 3 dX9_hourFreeForBoth_12 rfl rfl ?_
      refine wp_cVi C (As := [.int (nI a), .int (nI i)]) (rest := []) dX9_hourFreeForBoth_13 kX9_hourFreeForBoth_32 (hC.ob 15 (by decide) rfl) (c_editorAt _ hC (a := a) (h := i) (by omega) (by omega)) rfl (Nat.le_of_ble_eq_true rfl) (by decide) (by decide) ?_
      refine wp_eqi (hT.1 _ (by omega)) ?_
      have b1 := hB.1 (8 * a + i) (by omega)
      refine wp_iconst C (-1) dX9_hourFreeForBoth_16 (by decide) ?_
      refine wp_icmp_ne C 32 dX9_hourFreeForBoth_17 (by decide) (fun c17 => ?_) (fun c17 => ?_)
      · have c17 : ¬ ea (8 * a + i) = 0 := by have h := n_eq c17; rw [vI_toInt (by omega), show ((-1 : Int32)).toInt = -1 from rfl] at h; omega
        refine wp_iinc C 3 (nI (i + 1)) [(3, .int (nI (i + 1))), (0, .ref (ca 15)), (1, .int (nI a)), (2, .int (nI e))] dX9_hourFreeForBoth_32 rfl (nI_1 i) (by decide) rfl ?_
        refine wp_goto C 2 dX9_hourFreeForBoth_35 (by decide) ?_
        refine wp_lv [1, 2, 3, 0] rfl ?_
        refine ih (i + 1) (by omega) (by omega) (fun j hj => ?_) _ rfl
        by_cases e9 : j = i
        · subst e9; show ea (8 * a + j) + ae (8 * e + j) ≠ 0; omega
        · exact hz j (by omega)
      · have c17 : ea (8 * a + i) = 0 := by have h := p_eq c17; rw [vI_toInt (by omega), show ((-1 : Int32)).toInt = -1 from rfl] at h; omega
        refine wp_aload_n C 0 dX9_hourFreeForBoth_20 rfl rfl ?_
        refine wp_iload_n C 2 dX9_hourFreeForBoth_21 rfl rfl ?_
        refine wp_iload_n C 3 dX9_hourFreeForBoth_22 rfl rfl ?_
        refine wp_cVi C (As := [.int (nI e), .int (nI i)]) (rest := []) dX9_hourFreeForBoth_23 kX9_hourFreeForBoth_53 (hC.ob 15 (by decide) rfl) (c_agentAt _ hC (e := e) (h := i) (by omega) (by omega)) rfl (Nat.le_of_ble_eq_true rfl) (by decide) (by decide) ?_
        refine wp_eqi (hT.2 _ (by omega)) ?_
        have b2 := hB.2.1 (8 * e + i) (by omega)
        refine wp_iconst C (-1) dX9_hourFreeForBoth_26 (by decide) ?_
        refine wp_icmp_ne C 32 dX9_hourFreeForBoth_27 (by decide) (fun c27 => ?_) (fun c27 => ?_)
        · have c27 : ¬ ae (8 * e + i) = 0 := by have h := n_eq c27; rw [vI_toInt (by omega), show ((-1 : Int32)).toInt = -1 from rfl] at h; omega
          refine wp_iinc C 3 (nI (i + 1)) [(3, .int (nI (i + 1))), (0, .ref (ca 15)), (1, .int (nI a)), (2, .int (nI e))] dX9_hourFreeForBoth_32 rfl (nI_1 i) (by decide) rfl ?_
          refine wp_goto C 2 dX9_hourFreeForBoth_35 (by decide) ?_
          refine wp_lv [1, 2, 3, 0] rfl ?_
          refine ih (i + 1) (by omega) (by omega) (fun j hj => ?_) _ rfl
          by_cases e9 : j = i
          · subst e9; show ea (8 * a + j) + ae (8 * e + j) ≠ 0; omega
          · exact hz j (by omega)
        · have c27 : ae (8 * e + i) = 0 := by have h := p_eq c27; rw [vI_toInt (by omega), show ((-1 : Int32)).toInt = -1 from rfl] at h; omega
          refine wp_iload_n C 3 dX9_hourFreeForBoth_30 rfl rfl ?_
          have hi2 : i < H := by omega
          have g0 : (fun k => ea (8 * a + k) + ae (8 * e + k)) i = 0 := by show ea (8 * a + i) + ae (8 * e + i) = 0; omega
          exact wp_iret C Z dX9_hourFreeForBoth_31 (by decide) (by decide) (by rw [fh_y hi2 g0 hz]; exact gP_rf)
  refine wp_iconst C 0 dX9_hourFreeForBoth_0 (by decide) ?_
  refine wp_istore_n C [(3, .int 0), (0, .ref (ca 15)), (1, .int (nI a)), (2, .int (nI e))] dX9_hourFreeForBoth_1 rfl (by decide) rfl ?_
  refine wp_lv [1, 2, 3, 0] rfl ?_
  exact loop 0 (by omega) (fun j hj => by omega) _ rfl
set_option maxRecDepth 100000 in
set_option maxHeartbeats 4000000 in
theorem c_freeFor (l : Launch) {T : gSh} {I : gI} {J : gJ} {R : gR} {ca : Nat → Nat} (hC : CO T R ca) {H : Nat} (hH : I (ca 15) 0 = nI H) (hH8 : H ≤ 8) {e : Nat} (he : e < 10) {ea ae : Nat → Nat} (hT : TT I (ca 23) (ca 24) ea ae) (hB : TB ea ae) : Con l yX9_hourFreeFor wsX9_hourFreeFor ({ frames := 1, cells := 0, slots := 0, locals := 22 }) [.ref (ca 15), .int (nI e)] T I J R (gP (some (.int (fh (fun k => ae (8 * e + k)) H))) T I J R) := by
  refine Con.mk (cc := cX9_hourFreeFor) (maxL := 3) (ret := (some .int)) (by decide) rfl (Nat.le_of_ble_eq_true rfl) ?_
  intro E hE C Z hnm
  subst hE
  change WP E 3 0 0 T I J R 0 [(0, .ref (ca 15)), (1, .int (nI e))] []
  have loop : ∀ i, i ≤ H → (∀ j, j < i → (fun k => ae (8 * e + k)) j ≠ 0) → ∀ lv, lv_pick lv [0, 1, 2] = [(0, .ref (ca 15)), (1, .int (nI e)), (2, .int (nI i))] → WP E 3 0 0 T I J R 2 lv [] := by
    refine loopN H (fun i hi ih => ?_)
    intro hz lv hlv
    refine wp_lv [0, 1, 2] hlv ?_
    refine wp_iload_n C 2 dX9_hourFreeFor_2 rfl rfl ?_
    refine wp_aload_n C 0 dX9_hourFreeFor_3 rfl rfl ?_
    refine wp_getI C dX9_hourFreeFor_4 fX9_hourFreeFor_9 (hC.ob 15 (by decide) rfl) ?_
    refine wp_eqi hH ?_
    refine wp_icmp_ge C 28 dX9_hourFreeFor_7 (by decide) (fun c7 => ?_) (fun c7 => ?_)
    · have c7 : ((H : Nat) : Int) ≤ ((i : Nat) : Int) := by have h := p_le c7; rw [nI_toInt (show H < 2 ^ 31 by omega), nI_toInt (show i < 2 ^ 31 by omega)] at h; exact h
      refine wp_iconst C (-1) dX9_hourFreeFor_28 (by decide) ?_
      have e9 : i = H := by omega
      subst e9
      exact wp_iret C Z dX9_hourFreeFor_29 (by decide) (by decide) (by rw [fh_n hz]; exact gP_rf)
    · have c7 : ¬ ((H : Nat) : Int) ≤ ((i : Nat) : Int) := by have h := n_le c7; rw [nI_toInt (show H < 2 ^ 31 by omega), nI_toInt (show i < 2 ^ 31 by omega)] at h; exact h
      refine wp_aload_n C 0 dX9_hourFreeFor_10 rfl rfl ?_
      refine wp_iload_n C 1 dX9_hourFreeFor_11 rfl rfl ?_
      refine wp_iload_n C 2 dX9_hourFreeFor_12 rfl rfl ?_
      refine wp_cVi C (As := [.int (nI e), .int (nI i)]) (rest := []) dX9_hourFreeFor_13 kX9_hourFreeFor_53 (hC.ob 15 (by decide) rfl) (c_agentAt _ hC (e := e) (h := i) (by omega) (by omega)) rfl (Nat.le_of_ble_eq_true rfl) (by decide) (by decide) ?_
      refine wp_eqi (hT.2 _ (by omega)) ?_
      have b2 := hB.2.1 (8 * e + i) (by omega)
      refine wp_iconst C (-1) dX9_hourFreeFor_16 (by decide) ?_
      refine wp_icmp_ne C 22 dX9_hourFreeFor_17 (by decide) (fun c17 => ?_) (fun c17 => ?_)
      · have c17 : ¬ ae (8 * e + i) = 0 := by have h := n_eq c17; rw [vI_toInt (by omega), show ((-1 : Int32)).toInt = -1 from rfl] at h; omega
        refine wp_iinc C 2 (nI (i + 1)) [(2, .int (nI (i + 1))), (0, .ref (ca 15)), (1, .int (nI e))] dX9_hourFreeFor_22 rfl (nI_1 i) (by decide) rfl ?_
        refine wp_goto C 2 dX9_hourFreeFor_25 (by decide) ?_
        refine wp_lv [1, 2, 0] rfl ?_
        refine ih (i + 1) (by omega) (by omega) (fun j hj => ?_) _ rfl
        by_cases e9 : j = i
        · subst e9; show ae (8 * e + j) ≠ 0; omega
        · exact hz j (by omega)
      · have c17 : ae (8 * e + i) = 0 := by have h := p_eq c17; rw [vI_toInt (by omega), show ((-1 : Int32)).toInt = -1 from rfl] at h; omega
        refine wp_iload_n C 2 dX9_hourFreeFor_20 rfl rfl ?_
        have hi2 : i < H := by omega
        have g0 : (fun k => ae (8 * e + k)) i = 0 := by show ae (8 * e + i) = 0; omega
        exact wp_iret C Z dX9_hourFreeFor_21 (by decide) (by decide) (by rw [fh_y hi2 g0 hz]; exact gP_rf)
  refine wp_iconst C 0 dX9_hourFreeFor_0 (by decide) ?_
  refine wp_istore_n C [(2, .int 0), (0, .ref (ca 15)), (1, .int (nI e))] dX9_hourFreeFor_1 rfl (by decide) rfl ?_
  refine wp_lv [1, 2, 0] rfl ?_
  exact loop 0 (by omega) (fun j hj => by omega) _ rfl
set_option maxRecDepth 100000 in
set_option maxHeartbeats 4000000 in
theorem c_makeFree (l : Launch) {T : gSh} {I : gI} {J : gJ} {R : gR} {ca : Nat → Nat} (hC : CO T R ca) {ea ae : Nat → Nat} (hT : TT I (ca 23) (ca 24) ea ae) {a b e0 : Nat} (hK : KC ea ae a b e0) (hab : a ≠ b) : Con l yX9_makeFree wsX9_makeFree ({ frames := 1, cells := 0, slots := 0, locals := 23 }) [.ref (ca 15), .int (nI e0), .int (nI a), .int (nI b)] T I J R (PT T J R I (ca 23) (ca 24) (swp (inA ea ae a b e0) a b ea, swp (inE ea ae a b e0) a b ae)) := by
  refine Con.mk (cc := cX9_makeFree) (maxL := 9) (ret := none) (by decide) rfl (Nat.le_of_ble_eq_true rfl) ?_
  intro E hE C Z hnm
  subst hE
  change WP E 9 0 0 T I J R 0 [(0, .ref (ca 15)), (1, .int (nI e0)), (2, .int (nI a)), (3, .int (nI b))] []
  have hne : ca 23 ≠ ca 24 := hC.ne 23 24 (by decide) (by decide) (by decide)
  have ha := hK.2.1
  have hb := hK.2.2.1
  have he0 := hK.2.2.2.1
  have loop : ∀ i, i ≤ 8 → ∀ (e : Nat) (I1 : gI) (g f : Nat → Nat), kE ea ae a b e0 i = e + 1 → CA ea ae a b e0 i g → SE ea ae a b e0 i f → TT I1 (ca 23) (ca 24) g f → FrT I I1 (ca 23) (ca 24) → ∀ lv, lv_pick lv [0, 1, 2, 3, 4, 5, 6] = [(0, .ref (ca 15)), (1, .int (nI e0)), (2, .int (nI a)), (3, .int (nI b)), (4, .int (nI e)), (5, .int (vI (kA ea ae a b e0 i))), (6, .int (nI i))] → WP E 9 0 0 T I1 J R 39 lv [] := by
    refine loopN 8 (fun i hi ih => ?_)
    intro e I1 g f he hg hf hT1 hF lv hlv
    refine wp_lv [0, 1, 2, 3, 4, 5, 6] hlv ?_
    have rE := (hK.rng i).1
    have rA := (hK.rng i).2
    have rE2 := (hK.rng (i + 1)).1
    refine wp_iload C 6 dX9_makeFree_39 rfl ?_
    refine wp_bipush C 8 dX9_makeFree_41 (by decide) ?_
    refine wp_icmp_ge C 135 dX9_makeFree_43 (by decide) (fun c43 => ?_) (fun c43 => ?_)
    · have c43 : 8 ≤ ((i : Nat) : Int) := by have h := p_le c43; rw [nI_toInt (show i < 2 ^ 31 by omega)] at h; exact h
      have k0 : kA ea ae a b e0 i = 0 := by
        first
        | exact c49
        | (rcases Nat.eq_zero_or_pos (kA ea ae a b e0 i) with q | q
           · exact q
           · have := hK.fin (i := i) (by omega); omega)
      exact wp_vret C Z dX9_makeFree_135 (by decide) (by decide) ⟨rfl, rfl, rfl, rfl, hF, hT1.cg (hg.fin hK hab k0) ((hf.stop k0).fin hK hab (KC.ez k0))⟩
    · have c43 : ¬ 8 ≤ ((i : Nat) : Int) := by have h := n_le c43; rw [nI_toInt (show i < 2 ^ 31 by omega)] at h; exact h
      refine wp_iload C 5 dX9_makeFree_46 rfl ?_
      refine wp_iconst C (-1) dX9_makeFree_48 (by decide) ?_
      refine wp_icmp_eq C 135 dX9_makeFree_49 (by decide) (fun c49 => ?_) (fun c49 => ?_)
      · have c49 : kA ea ae a b e0 i = 0 := by have h := p_eq c49; rw [vI_toInt (by omega), show ((-1 : Int32)).toInt = -1 from rfl] at h; omega
        have k0 : kA ea ae a b e0 i = 0 := by
          first
          | exact c49
          | (rcases Nat.eq_zero_or_pos (kA ea ae a b e0 i) with q | q
             · exact q
             · have := hK.fin (i := i) (by omega); omega)
        exact wp_vret C Z dX9_makeFree_135 (by decide) (by decide) ⟨rfl, rfl, rfl, rfl, hF, hT1.cg (hg.fin hK hab k0) ((hf.stop k0).fin hK hab (KC.ez k0))⟩
      · have c49 : ¬ kA ea ae a b e0 i = 0 := by have h := n_eq c49; rw [vI_toInt (by omega), show ((-1 : Int32)).toInt = -1 from rfl] at h; omega
        obtain ⟨v, hv⟩ : ∃ v, kA ea ae a b e0 i = v + 1 := ⟨kA ea ae a b e0 i - 1, by omega⟩
        rw [hv, vI_s]
        have bk := hK.backA hv
        have gb : g (8 * v + b) = kE ea ae a b e0 (i + 1) := by
          rw [hg.2.1 (8 * v + b) (by omega) (fun j hj q => by have := hK.injA (q.trans (by rw [show (8 * v + b) / 8 = v by omega]; exact hv.symm)) (by omega); omega), kE_s, if_neg (by omega), hv, show v + 1 - 1 = v by omega]
        refine wp_aload_n C 0 dX9_makeFree_52 rfl rfl ?_
        refine wp_iload C 5 dX9_makeFree_53 rfl ?_
        refine wp_iload_n C 3 dX9_makeFree_55 rfl rfl ?_
        refine wp_cVi C (As := [.int (nI v), .int (nI b)]) (rest := []) dX9_makeFree_56 kX9_makeFree_32 (hC.ob 15 (by decide) rfl) (c_editorAt _ hC (a := v) (h := b) (by omega) (by omega)) rfl (Nat.le_of_ble_eq_true rfl) (by decide) (by decide) ?_
        refine wp_eqi ((hT1.1 _ (by omega)).trans (congrArg vI gb)) ?_
        refine wp_istore C [(7, .int (vI (kE ea ae a b e0 (i + 1)))), (0, .ref (ca 15)), (1, .int (nI e0)), (2, .int (nI a)), (3, .int (nI b)), (4, .int (nI e)), (5, .int (nI v)), (6, .int (nI i))] dX9_makeFree_59 (by decide) rfl ?_
        refine wp_aload_n C 1 dX9_makeFree_61 rfl rfl ?_
        refine wp_iload C 6 dX9_makeFree_62 rfl ?_
        refine wp_iload C 5 dX9_makeFree_64 rfl ?_
        refine wp_iload_n C 4 dX9_makeFree_66 rfl rfl ?_
        refine wp_cVv C (As := [.int (nI v), .int (nI e), .int (nI b)]) (rest := []) dX9_makeFree_67 kX9_makeFree_50 (hC.ob 15 (by decide) rfl) (c_seat _ hC (a := v) (e := e) (h := b) (by omega) (by omega) (by omega)) rfl (Nat.le_of_ble_eq_true rfl) (by decide) (by decide) ?_
        refine wp_aload_n C 1 dX9_makeFree_70 rfl rfl ?_
        refine wp_getR C dX9_makeFree_71 fX9_makeFree_15 (hC.ob 15 (by decide) rfl) (hC.rf 15 1 23 (by decide)) ?_
        refine wp_iload C 6 dX9_makeFree_74 rfl ?_
        refine wp_bipush C 8 dX9_makeFree_76 (by decide) ?_
        refine wp_imul C dX9_makeFree_78 ?_
        refine wp_eqi (pk_mul v 8) ?_
        refine wp_iload_n C 3 dX9_makeFree_79 rfl rfl ?_
        refine wp_iadd C dX9_makeFree_80 ?_
        refine wp_eqi (nI_add (v * 8) a) ?_
        refine wp_iconst C (-1) dX9_makeFree_81 (by decide) ?_
        refine wp_iast C dX9_makeFree_82 (hC.ar 23 (by decide) rfl) (j := 8 * v + a) (congrArg nI (by omega)) (by omega) (by decide) ?_
        have hC4 := hf.close hK hab hv he
        have hT3 := ((hT1.putA hne (8 * v + b) (e + 1) (vI_s e).symm).putE hne (8 * e + b) (v + 1) (vI_s v).symm)
        have hT4 := hT3.putA hne (8 * v + a) 0 vI_0.symm
        have hF4 := ((hF.pA (8 * v + b) (nI e)).pE (8 * e + b) (nI v)).pA (8 * v + a) (-1)
        refine wp_iload C 0 dX9_makeFree_83 rfl ?_
        refine wp_iconst C (-1) dX9_makeFree_85 (by decide) ?_
        refine wp_icmp_ne C 90 dX9_makeFree_86 (by decide) (fun c86 => ?_) (fun c86 => ?_)
        · have c86 : ¬ kE ea ae a b e0 (i + 1) = 0 := by have h := n_eq c86; rw [vI_toInt (by omega), show ((-1 : Int32)).toInt = -1 from rfl] at h; omega
          obtain ⟨e2, he2⟩ : ∃ e2, kE ea ae a b e0 (i + 1) = e2 + 1 := ⟨kE ea ae a b e0 (i + 1) - 1, by omega⟩
          rw [he2, vI_s]
          have fa : va_up f (8 * e + b) (v + 1) (8 * e2 + a) = kA ea ae a b e0 (i + 1) := by
            rw [hC4.2.1 (8 * e2 + a) (by omega) (fun j hj q => by have := hK.injE j (i + 1) (q.trans (by rw [show (8 * e2 + a) / 8 = e2 by omega]; exact he2.symm)) (by omega); omega), kA_d, if_neg (by omega), he2, show e2 + 1 - 1 = e2 by omega]
          refine wp_aload_n C 1 dX9_makeFree_90 rfl rfl ?_
          refine wp_iload C 0 dX9_makeFree_91 rfl ?_
          refine wp_iload_n C 3 dX9_makeFree_93 rfl rfl ?_
          refine wp_cVi C (As := [.int (nI e2), .int (nI a)]) (rest := []) dX9_makeFree_94 kX9_makeFree_53 (hC.ob 15 (by decide) rfl) (c_agentAt _ hC (e := e2) (h := a) (by omega) (by omega)) rfl (Nat.le_of_ble_eq_true rfl) (by decide) (by decide) ?_
          refine wp_eqi ((hT4.2 _ (by omega)).trans (congrArg vI fa)) ?_
          refine wp_istore C [(8, .int (vI (kA ea ae a b e0 (i + 1)))), (7, .int (nI e2)), (0, .ref (ca 15)), (1, .int (nI e0)), (2, .int (nI a)), (3, .int (nI b)), (4, .int (nI e)), (5, .int (nI v)), (6, .int (nI i))] dX9_makeFree_97 (by decide) rfl ?_
          refine wp_aload_n C 2 dX9_makeFree_99 rfl rfl ?_
          refine wp_iload C 7 dX9_makeFree_100 rfl ?_
          refine wp_iload C 1 dX9_makeFree_102 rfl ?_
          refine wp_iload_n C 4 dX9_makeFree_104 rfl rfl ?_
          refine wp_cVv C (As := [.int (nI v), .int (nI e2), .int (nI a)]) (rest := []) dX9_makeFree_105 kX9_makeFree_50 (hC.ob 15 (by decide) rfl) (c_seat _ hC (a := v) (e := e2) (h := a) (by omega) (by omega) (by omega)) rfl (Nat.le_of_ble_eq_true rfl) (by decide) (by decide) ?_
          refine wp_aload_n C 2 dX9_makeFree_108 rfl rfl ?_
          refine wp_getR C dX9_makeFree_109 fX9_makeFree_19 (hC.ob 15 (by decide) rfl) (hC.rf 15 2 24 (by decide)) ?_
          refine wp_iload C 1 dX9_makeFree_112 rfl ?_
          refine wp_bipush C 8 dX9_makeFree_114 (by decide) ?_
          refine wp_imul C dX9_makeFree_116 ?_
          refine wp_eqi (pk_mul e2 8) ?_
          refine wp_iload_n C 5 dX9_makeFree_117 rfl rfl ?_
          refine wp_iadd C dX9_makeFree_118 ?_
          refine wp_eqi (nI_add (e2 * 8) b) ?_
          refine wp_iconst C (-1) dX9_makeFree_119 (by decide) ?_
          refine wp_iast C dX9_makeFree_120 (hC.ar 24 (by decide) rfl) (j := 8 * e2 + b) (congrArg nI (by omega)) (by omega) (by decide) ?_
          refine wp_iload C 1 dX9_makeFree_121 rfl ?_
          refine wp_istore C [(4, .int (nI e2)), (8, .int (vI (kA ea ae a b e0 (i + 1)))), (7, .int (nI e2)), (0, .ref (ca 15)), (1, .int (nI e0)), (2, .int (nI a)), (3, .int (nI b)), (5, .int (nI v)), (6, .int (nI i))] dX9_makeFree_123 (by decide) rfl ?_
          refine wp_iload C 1 dX9_makeFree_125 rfl ?_
          refine wp_istore C [(5, .int (vI (kA ea ae a b e0 (i + 1)))), (4, .int (nI e2)), (8, .int (vI (kA ea ae a b e0 (i + 1)))), (7, .int (nI e2)), (0, .ref (ca 15)), (1, .int (nI e0)), (2, .int (nI a)), (3, .int (nI b)), (6, .int (nI i))] dX9_makeFree_127 (by decide) rfl ?_
          refine wp_iinc C 8 (nI (i + 1)) [(6, .int (nI (i + 1))), (5, .int (vI (kA ea ae a b e0 (i + 1)))), (4, .int (nI e2)), (8, .int (vI (kA ea ae a b e0 (i + 1)))), (7, .int (nI e2)), (0, .ref (ca 15)), (1, .int (nI e0)), (2, .int (nI a)), (3, .int (nI b))] dX9_makeFree_129 rfl (nI_1 i) (by decide) rfl ?_
          refine wp_goto C 39 dX9_makeFree_132 (by decide) ?_
          have hT5 := ((hT4.putA hne (8 * v + a) (e2 + 1) (vI_s e2).symm).putE hne (8 * e2 + a) (v + 1) (vI_s v).symm).putE hne (8 * e2 + b) 0 vI_0.symm
          have hF5 := ((hF4.pA (8 * v + a) (nI e2)).pE (8 * e2 + a) (nI v)).pE (8 * e2 + b) (-1)
          refine wp_lv [5, 6, 7, 8, 2, 1, 0] rfl ?_
          exact ih (i + 1) (by omega) (by omega) e2 _ _ _ he2 (hg.next hK hab hv (by rw [vu_s]; exact he2.symm) (by rw [vu_n _ _ (by omega), vu_n _ _ (by omega), vu_s]; exact he.symm) (fun q q1 q2 => by rw [vu_n _ _ q1, vu_n _ _ q1, vu_n _ _ q2])) (hC4.next hK hab hv he2) hT5 hF5 _ rfl
        · have c86 : kE ea ae a b e0 (i + 1) = 0 := by have h := p_eq c86; rw [vI_toInt (by omega), show ((-1 : Int32)).toInt = -1 from rfl] at h; omega
          exact wp_vret C Z dX9_makeFree_89 (by decide) (by decide) ⟨rfl, rfl, rfl, rfl, hF4, hT4.cg ((hg.next hK hab hv (by rw [vu_s]; exact c86.symm) (by rw [vu_n _ _ (by omega), vu_s]; exact he.symm) (fun q q1 q2 => by rw [vu_n _ _ q1, vu_n _ _ q2])).fin hK hab (KC.a0 c86)) (hC4.fin hK hab c86)⟩
  refine wp_iload_n C 2 dX9_makeFree_0 rfl rfl ?_
  refine wp_iconst C (-1) dX9_makeFree_1 (by decide) ?_
  refine wp_icmp_eq C 10 dX9_makeFree_2 (by decide) (fun c2 => ?_) (fun c2 => ?_)
  · exact absurd (p_eq c2) (by rw [nI_toInt (by omega), show ((-1 : Int32)).toInt = -1 from rfl]; omega)
  · refine wp_iload_n C 3 dX9_makeFree_5 rfl rfl ?_
    refine wp_iconst C (-1) dX9_makeFree_6 (by decide) ?_
    refine wp_icmp_ne C 11 dX9_makeFree_7 (by decide) (fun c7 => ?_) (fun c7 => ?_)
    · refine wp_iload_n C 1 dX9_makeFree_11 rfl rfl ?_
      refine wp_istore C [(4, .int (nI e0)), (0, .ref (ca 15)), (1, .int (nI e0)), (2, .int (nI a)), (3, .int (nI b))] dX9_makeFree_12 (by decide) rfl ?_
      refine wp_aload_n C 1 dX9_makeFree_14 rfl rfl ?_
      refine wp_iload C 0 dX9_makeFree_15 rfl ?_
      refine wp_iload_n C 3 dX9_makeFree_17 rfl rfl ?_
      refine wp_cVi C (As := [.int (nI e0), .int (nI a)]) (rest := []) dX9_makeFree_18 kX9_makeFree_53 (hC.ob 15 (by decide) rfl) (c_agentAt _ hC (e := e0) (h := a) (by omega) (by omega)) rfl (Nat.le_of_ble_eq_true rfl) (by decide) (by decide) ?_
      refine wp_eqi (hT.2 _ (by omega)) ?_
      rw [show ae (8 * e0 + a) = kA ea ae a b e0 0 by rw [kA_d, if_neg (by exact Nat.succ_ne_zero _)]; rfl]
      refine wp_istore C [(5, .int (vI (kA ea ae a b e0 0))), (4, .int (nI e0)), (0, .ref (ca 15)), (1, .int (nI e0)), (2, .int (nI a)), (3, .int (nI b))] dX9_makeFree_21 (by decide) rfl ?_
      refine wp_aload_n C 2 dX9_makeFree_23 rfl rfl ?_
      refine wp_getR C dX9_makeFree_24 fX9_makeFree_19 (hC.ob 15 (by decide) rfl) (hC.rf 15 2 24 (by decide)) ?_
      refine wp_iload C 1 dX9_makeFree_27 rfl ?_
      refine wp_bipush C 8 dX9_makeFree_29 (by decide) ?_
      refine wp_imul C dX9_makeFree_31 ?_
      refine wp_eqi (pk_mul e0 8) ?_
      refine wp_iload_n C 4 dX9_makeFree_32 rfl rfl ?_
      refine wp_iadd C dX9_makeFree_33 ?_
      refine wp_eqi (nI_add (e0 * 8) a) ?_
      refine wp_iconst C (-1) dX9_makeFree_34 (by decide) ?_
      refine wp_iast C dX9_makeFree_35 (hC.ar 24 (by decide) rfl) (j := 8 * e0 + a) (congrArg nI (by omega)) (by omega) (by decide) ?_
      refine wp_iconst C 0 dX9_makeFree_36 (by decide) ?_
      refine wp_istore C [(6, .int 0), (5, .int (vI (kA ea ae a b e0 0))), (4, .int (nI e0)), (0, .ref (ca 15)), (1, .int (nI e0)), (2, .int (nI a)), (3, .int (nI b))] dX9_makeFree_37 (by decide) rfl ?_
      refine wp_lv [3, 4, 5, 6, 2, 1, 0] rfl ?_
      exact loop 0 (by omega) e0 _ _ _ rfl KC.caA (hK.seE hab) (hT.putE hne (8 * e0 + a) 0 vI_0.symm) ((FrT.rf I _ _).pE _ _) _ rfl
    · exact absurd (p_eq c7) (by rw [nI_toInt (by omega), show ((-1 : Int32)).toInt = -1 from rfl]; omega)
