/-! ===== the best set: a turn, a new start, the worth together ===== -/
set_option maxRecDepth 100000 in
set_option maxHeartbeats 4000000 in
theorem c_fillI (l : Launch) {T : gSh} {I : gI} {J : gJ} {R : gR} {a n : Nat} (ha : AR T a 13 n) (hn : n < 2 ^ 31) (x : Int32) : Con l yJ7_fill_53178 wsJ7_fill_53178 ({ frames := 0, cells := 0, slots := 0, locals := 0 }) [.ref a, .int x] T I J R (gP none T (va_up I a (fl (I a) x n)) J R) := by
  refine Con.mk (cc := cJ7_fill_53178) (maxL := 4) (ret := none) (by decide) rfl (Nat.le_of_ble_eq_true rfl) ?_
  intro E hE C Z hnm
  subst hE
  change WP E 4 0 0 T I J R 0 [(0, .ref a), (1, .int x)] []
  have loop : ∀ i, i ≤ n → WP E 4 0 0 T (va_up I a (fl (I a) x i)) J R 5 [(0, .ref a), (1, .int x), (2, .int (nI i)), (3, .int (nI n))] [] := by
    refine loopN n (fun i hi ih => ?_)
    refine wp_iload_n C 2 dJ7_fill_53178_5 rfl rfl ?_
    refine wp_iload_n C 3 dJ7_fill_53178_6 rfl rfl ?_
    refine wp_icmp_ge C 20 dJ7_fill_53178_7 (by decide) (fun c7 => ?_) (fun c7 => ?_)
    · have c7 : ((n : Nat) : Int) ≤ ((i : Nat) : Int) := by have h := p_le c7; rw [nI_toInt (show n < 2 ^ 31 by omega), nI_toInt (show i < 2 ^ 31 by omega)] at h; exact h
      exact wp_vret C Z dJ7_fill_53178_20 (by decide) (by decide) (by rw [show i = n by omega]; exact gP_rf)
    · have c7 : ¬ ((n : Nat) : Int) ≤ ((i : Nat) : Int) := by have h := n_le c7; rw [nI_toInt (show n < 2 ^ 31 by omega), nI_toInt (show i < 2 ^ 31 by omega)] at h; exact h
      refine wp_aload_n C 0 dJ7_fill_53178_10 rfl rfl ?_
      refine wp_iload_n C 2 dJ7_fill_53178_11 rfl rfl ?_
      refine wp_iload_n C 1 dJ7_fill_53178_12 rfl rfl ?_
      refine wp_iast C dJ7_fill_53178_13 ha (j := i) rfl (by omega) (by omega) ?_
      refine wp_iinc C 2 (nI (i + 1)) [(2, .int (nI (i + 1))), (0, .ref a), (1, .int x), (3, .int (nI n))] dJ7_fill_53178_14 rfl (nI_1 i) (by decide) rfl ?_
      refine wp_goto C 5 dJ7_fill_53178_17 (by decide) ?_
      refine wp_lv [1, 2, 0, 3] rfl ?_
      refine wp_eI ((u2_in _ _ _ _ _).trans (congrArg _ (fl_s _ _ _))) ?_
      exact ih (i + 1) (by omega) (by omega)
  refine wp_iconst C 0 dJ7_fill_53178_0 (by decide) ?_
  refine wp_istore_n C [(2, .int 0), (0, .ref a), (1, .int x)] dJ7_fill_53178_1 rfl (by decide) rfl ?_
  refine wp_aload_n C 1 dJ7_fill_53178_2 rfl rfl ?_
  refine wp_alenI C dJ7_fill_53178_3 ha ?_
  refine wp_istore_n C [(3, .int (nI n)), (2, .int 0), (0, .ref a), (1, .int x)] dJ7_fill_53178_4 rfl (by decide) rfl ?_
  refine wp_lv [2, 3, 1, 0] rfl ?_
  have h0 := loop 0 (by omega)
  rw [fl_0, vu_id] at h0
  exact h0
set_option maxRecDepth 100000 in
set_option maxHeartbeats 4000000 in
theorem c_fillJ (l : Launch) {T : gSh} {I : gI} {J : gJ} {R : gR} {a n : Nat} (ha : AR T a 14 n) (hn : n < 2 ^ 31) (x : Int64) : Con l yJ7_fill_d0a16 wsJ7_fill_d0a16 ({ frames := 0, cells := 0, slots := 0, locals := 0 }) [.ref a, .long x] T I J R (gP none T I (va_up J a (fl (J a) x n)) R) := by
  refine Con.mk (cc := cJ7_fill_d0a16) (maxL := 5) (ret := none) (by decide) rfl (Nat.le_of_ble_eq_true rfl) ?_
  intro E hE C Z hnm
  subst hE
  change WP E 5 0 0 T I J R 0 [(0, .ref a), (1, .long x)] []
  have loop : ∀ i, i ≤ n → WP E 5 0 0 T I (va_up J a (fl (J a) x i)) R 6 [(0, .ref a), (1, .long x), (3, .int (nI i)), (4, .int (nI n))] [] := by
    refine loopN n (fun i hi ih => ?_)
    refine wp_iload_n C 2 dJ7_fill_d0a16_6 rfl rfl ?_
    refine wp_iload C 3 dJ7_fill_d0a16_7 rfl ?_
    refine wp_icmp_ge C 22 dJ7_fill_d0a16_9 (by decide) (fun c9 => ?_) (fun c9 => ?_)
    · have c9 : ((n : Nat) : Int) ≤ ((i : Nat) : Int) := by have h := p_le c9; rw [nI_toInt (show n < 2 ^ 31 by omega), nI_toInt (show i < 2 ^ 31 by omega)] at h; exact h
      exact wp_vret C Z dJ7_fill_d0a16_22 (by decide) (by decide) (by rw [show i = n by omega]; exact gP_rf)
    · have c9 : ¬ ((n : Nat) : Int) ≤ ((i : Nat) : Int) := by have h := n_le c9; rw [nI_toInt (show n < 2 ^ 31 by omega), nI_toInt (show i < 2 ^ 31 by omega)] at h; exact h
      refine wp_aload_n C 0 dJ7_fill_d0a16_12 rfl rfl ?_
      refine wp_iload_n C 2 dJ7_fill_d0a16_13 rfl rfl ?_
      refine wp_lload_n C 1 dJ7_fill_d0a16_14 rfl rfl ?_
      refine wp_last C dJ7_fill_d0a16_15 ha (j := i) rfl (by omega) (by omega) ?_
      refine wp_iinc C 2 (nI (i + 1)) [(3, .int (nI (i + 1))), (0, .ref a), (1, .long x), (4, .int (nI n))] dJ7_fill_d0a16_16 rfl (nI_1 i) (by decide) rfl ?_
      refine wp_goto C 6 dJ7_fill_d0a16_19 (by decide) ?_
      refine wp_lv [1, 2, 0, 3] rfl ?_
      refine wp_eJ ((u2_in _ _ _ _ _).trans (congrArg _ (fl_s _ _ _))) ?_
      exact ih (i + 1) (by omega) (by omega)
  refine wp_iconst C 0 dJ7_fill_d0a16_0 (by decide) ?_
  refine wp_istore_n C [(3, .int 0), (0, .ref a), (1, .long x)] dJ7_fill_d0a16_1 rfl (by decide) rfl ?_
  refine wp_aload_n C 1 dJ7_fill_d0a16_2 rfl rfl ?_
  refine wp_alenJ C dJ7_fill_d0a16_3 ha ?_
  refine wp_istore C [(4, .int (nI n)), (3, .int 0), (0, .ref a), (1, .long x)] dJ7_fill_d0a16_4 (by decide) rfl ?_
  refine wp_lv [2, 3, 1, 0] rfl ?_
  have h0 := loop 0 (by omega)
  rw [fl_0, vu_id] at h0
  exact h0
/-- what a turn adds to the meetings of both -/
def dl (c : Nat) : Int32 := if c = 0 then 1 else -1
def tuI (I : gI) (ca : Nat → Nat) (p c : Nat) : gI := u2 (u2 (u2 I (ca 16) p (nI (1 - c))) (ca 18) (p / 10) (I (ca 18) (p / 10) + dl c)) (ca 18) (8 + p % 10) (I (ca 18) (8 + p % 10) + dl c)
set_option maxRecDepth 100000 in
set_option maxHeartbeats 4000000 in
theorem c_turn (l : Launch) {T : gSh} {I : gI} {J : gJ} {R : gR} {ca : Nat → Nat} (hC : CO T R ca) {p c : Nat} (hp : p < 80) (hc : I (ca 16) p = nI c) (hc1 : c ≤ 1) : Con l yX1_turn wsX1_turn ({ frames := 1, cells := 0, slots := 0, locals := 20 }) [.ref (ca 14), .int (nI p)] T I J R (gP none T (tuI I ca p c) J R) := by
  refine Con.mk (cc := cX1_turn) (maxL := 3) (ret := none) (by decide) rfl (Nat.le_of_ble_eq_true rfl) ?_
  intro E hE C Z hnm
  subst hE
  change WP E 3 0 0 T I J R 0 [(0, .ref (ca 14)), (1, .int (nI p))] []
  refine wp_aload_n C 0 dX1_turn_0 rfl rfl ?_
  refine wp_getR C dX1_turn_1 fX1_turn_15 (hC.ob 14 (by decide) rfl) (hC.rf 14 1 16 (by decide)) ?_
  refine wp_iload_n C 1 dX1_turn_4 rfl rfl ?_
  refine wp_aload_n C 0 dX1_turn_5 rfl rfl ?_
  refine wp_getR C dX1_turn_6 fX1_turn_15 (hC.ob 14 (by decide) rfl) (hC.rf 14 1 16 (by decide)) ?_
  refine wp_iload_n C 1 dX1_turn_9 rfl rfl ?_
  refine wp_zald C dX1_turn_10 (hC.ar 16 (by decide) rfl) (j := p) rfl (by omega) (by decide) ?_
  refine wp_eqi hc ?_
  refine wp_if_ne C 18 dX1_turn_11 (by decide) (fun c11 => ?_) (fun c11 => ?_)
  · have c11 : ¬ ((c : Nat) : Int) = 0 := by have h := n_eq c11; rw [nI_toInt (show c < 2 ^ 31 by omega)] at h; exact h
    refine wp_iconst C 0 dX1_turn_18 (by decide) ?_
    refine wp_zast C dX1_turn_19 (hC.ar 16 (by decide) rfl) (j := p) rfl (by omega) (by decide) (by decide) ?_
    refine wp_aload_n C 0 dX1_turn_20 rfl rfl ?_
    refine wp_getR C dX1_turn_21 fX1_turn_15 (hC.ob 14 (by decide) rfl) (hC.rf 14 1 16 (by decide)) ?_
    refine wp_iload_n C 1 dX1_turn_24 rfl rfl ?_
    refine wp_zald C dX1_turn_25 (hC.ar 16 (by decide) rfl) (j := p) rfl (by omega) (by decide) ?_
    refine wp_eqi (u2_s _ _ _ _) ?_
    refine wp_if_eq C 33 dX1_turn_26 (by decide) (fun c26 => ?_) (fun c26 => ?_)
    · refine wp_iconst C (-1) dX1_turn_33 (by decide) ?_
      refine wp_istore_n C [(2, .int (-1)), (0, .ref (ca 14)), (1, .int (nI p))] dX1_turn_34 rfl (by decide) rfl ?_
      refine wp_aload_n C 1 dX1_turn_35 rfl rfl ?_
      refine wp_getR C dX1_turn_36 fX1_turn_23 (hC.ob 14 (by decide) rfl) (hC.rf 14 3 18 (by decide)) ?_
      refine wp_iload_n C 2 dX1_turn_39 rfl rfl ?_
      refine wp_cSi C (As := [.int (nI p)]) (rest := [.ref (ca 18)]) dX1_turn_40 kX1_turn_45 (c_agentNode _ hp) rfl (Nat.le_of_ble_eq_true rfl) (by decide) (by decide) ?_
      refine wp_dup2 C dX1_turn_43 rfl rfl ?_
      refine wp_iald C dX1_turn_44 (hC.ar 18 (by decide) rfl) (j := p / 10) rfl (by omega) (by decide) ?_
      refine wp_eqi (u2_a _ _ _ _ (hC.ne 18 16 (by decide) (by decide) (by decide)) _) ?_
      refine wp_iload_n C 0 dX1_turn_45 rfl rfl ?_
      refine wp_iadd C dX1_turn_46 ?_
      refine wp_iast C dX1_turn_47 (hC.ar 18 (by decide) rfl) (j := p / 10) rfl (by omega) (by decide) ?_
      refine wp_aload_n C 1 dX1_turn_48 rfl rfl ?_
      refine wp_getR C dX1_turn_49 fX1_turn_23 (hC.ob 14 (by decide) rfl) (hC.rf 14 3 18 (by decide)) ?_
      refine wp_iload_n C 2 dX1_turn_52 rfl rfl ?_
      refine wp_cSi C (As := [.int (nI p)]) (rest := [.ref (ca 18)]) dX1_turn_53 kX1_turn_49 (c_editorNode _ hp) rfl (Nat.le_of_ble_eq_true rfl) (by decide) (by decide) ?_
      refine wp_dup2 C dX1_turn_56 rfl rfl ?_
      refine wp_iald C dX1_turn_57 (hC.ar 18 (by decide) rfl) (j := 8 + p % 10) rfl (by omega) (by decide) ?_
      refine wp_eqi ((u2_k _ _ _ _ (by omega) _).trans (u2_a _ _ _ _ (hC.ne 18 16 (by decide) (by decide) (by decide)) _)) ?_
      refine wp_iload_n C 0 dX1_turn_58 rfl rfl ?_
      refine wp_iadd C dX1_turn_59 ?_
      refine wp_iast C dX1_turn_60 (hC.ar 18 (by decide) rfl) (j := 8 + p % 10) rfl (by omega) (by decide) ?_
      have hc0 : c = 1 := by omega
      subst hc0
      exact wp_vret C Z dX1_turn_61 (by decide) (by decide) gP_rf
    · exact absurd (by decide) c26
  · have c11 : ((c : Nat) : Int) = 0 := by have h := p_eq c11; rw [nI_toInt (show c < 2 ^ 31 by omega)] at h; exact h
    refine wp_iconst C 1 dX1_turn_14 (by decide) ?_
    refine wp_goto C 19 dX1_turn_15 (by decide) ?_
    refine wp_zast C dX1_turn_19 (hC.ar 16 (by decide) rfl) (j := p) rfl (by omega) (by decide) (by decide) ?_
    refine wp_aload_n C 0 dX1_turn_20 rfl rfl ?_
    refine wp_getR C dX1_turn_21 fX1_turn_15 (hC.ob 14 (by decide) rfl) (hC.rf 14 1 16 (by decide)) ?_
    refine wp_iload_n C 1 dX1_turn_24 rfl rfl ?_
    refine wp_zald C dX1_turn_25 (hC.ar 16 (by decide) rfl) (j := p) rfl (by omega) (by decide) ?_
    refine wp_eqi (u2_s _ _ _ _) ?_
    refine wp_if_eq C 33 dX1_turn_26 (by decide) (fun c26 => ?_) (fun c26 => ?_)
    · exact absurd c26 (by decide)
    · refine wp_iconst C 1 dX1_turn_29 (by decide) ?_
      refine wp_goto C 34 dX1_turn_30 (by decide) ?_
      refine wp_istore_n C [(2, .int 1), (0, .ref (ca 14)), (1, .int (nI p))] dX1_turn_34 rfl (by decide) rfl ?_
      refine wp_aload_n C 1 dX1_turn_35 rfl rfl ?_
      refine wp_getR C dX1_turn_36 fX1_turn_23 (hC.ob 14 (by decide) rfl) (hC.rf 14 3 18 (by decide)) ?_
      refine wp_iload_n C 2 dX1_turn_39 rfl rfl ?_
      refine wp_cSi C (As := [.int (nI p)]) (rest := [.ref (ca 18)]) dX1_turn_40 kX1_turn_45 (c_agentNode _ hp) rfl (Nat.le_of_ble_eq_true rfl) (by decide) (by decide) ?_
      refine wp_dup2 C dX1_turn_43 rfl rfl ?_
      refine wp_iald C dX1_turn_44 (hC.ar 18 (by decide) rfl) (j := p / 10) rfl (by omega) (by decide) ?_
      refine wp_eqi (u2_a _ _ _ _ (hC.ne 18 16 (by decide) (by decide) (by decide)) _) ?_
      refine wp_iload_n C 0 dX1_turn_45 rfl rfl ?_
      refine wp_iadd C dX1_turn_46 ?_
      refine wp_iast C dX1_turn_47 (hC.ar 18 (by decide) rfl) (j := p / 10) rfl (by omega) (by decide) ?_
      refine wp_aload_n C 1 dX1_turn_48 rfl rfl ?_
      refine wp_getR C dX1_turn_49 fX1_turn_23 (hC.ob 14 (by decide) rfl) (hC.rf 14 3 18 (by decide)) ?_
      refine wp_iload_n C 2 dX1_turn_52 rfl rfl ?_
      refine wp_cSi C (As := [.int (nI p)]) (rest := [.ref (ca 18)]) dX1_turn_53 kX1_turn_49 (c_editorNode _ hp) rfl (Nat.le_of_ble_eq_true rfl) (by decide) (by decide) ?_
      refine wp_dup2 C dX1_turn_56 rfl rfl ?_
      refine wp_iald C dX1_turn_57 (hC.ar 18 (by decide) rfl) (j := 8 + p % 10) rfl (by omega) (by decide) ?_
      refine wp_eqi ((u2_k _ _ _ _ (by omega) _).trans (u2_a _ _ _ _ (hC.ne 18 16 (by decide) (by decide) (by decide)) _)) ?_
      refine wp_iload_n C 0 dX1_turn_58 rfl rfl ?_
      refine wp_iadd C dX1_turn_59 ?_
      refine wp_iast C dX1_turn_60 (hC.ar 18 (by decide) rfl) (j := 8 + p % 10) rfl (by omega) (by decide) ?_
      have hc0 : c = 0 := by omega
      subst hc0
      exact wp_vret C Z dX1_turn_61 (by decide) (by decide) gP_rf
/-- the best set started anew, the chosen ones cleared up to i -/
def saI (I : gI) (ca : Nat → Nat) (h : Int32) : gI := va_up (va_up (u2 I (ca 14) 0 h) (ca 17) (fl (I (ca 17)) 0 80)) (ca 18) (fl (I (ca 18)) 0 18)
set_option maxRecDepth 100000 in
set_option maxHeartbeats 4000000 in
theorem c_startAnew (l : Launch) {T : gSh} {I : gI} {J : gJ} {R : gR} {ca : Nat → Nat} (hC : CO T R ca) (h : Int32) : Con l yX1_startAnew wsX1_startAnew ({ frames := 1, cells := 0, slots := 0, locals := 23 }) [.ref (ca 14), .int h] T I J R (gP none T (va_up (saI I ca h) (ca 16) (fl (I (ca 16)) 0 80)) J R) := by
  refine Con.mk (cc := cX1_startAnew) (maxL := 3) (ret := none) (by decide) rfl (Nat.le_of_ble_eq_true rfl) ?_
  intro E hE C Z hnm
  subst hE
  change WP E 3 0 0 T I J R 0 [(0, .ref (ca 14)), (1, .int h)] []
  have loop : ∀ i, i ≤ 80 → WP E 3 0 0 T (va_up (saI I ca h) (ca 16) (fl (I (ca 16)) 0 i)) J R 23 [(0, .ref (ca 14)), (1, .int h), (2, .int (nI i))] [] := by
    refine loopN 80 (fun i hi ih => ?_)
    refine wp_iload_n C 2 dX1_startAnew_23 rfl rfl ?_
    refine wp_bipush C 80 dX1_startAnew_24 (by decide) ?_
    refine wp_icmp_ge C 42 dX1_startAnew_26 (by decide) (fun c26 => ?_) (fun c26 => ?_)
    · have c26 : 80 ≤ ((i : Nat) : Int) := by have h := p_le c26; rw [nI_toInt (show i < 2 ^ 31 by omega)] at h; exact h
      exact wp_vret C Z dX1_startAnew_42 (by decide) (by decide) (by rw [show i = 80 by omega]; exact gP_rf)
    · have c26 : ¬ 80 ≤ ((i : Nat) : Int) := by have h := n_le c26; rw [nI_toInt (show i < 2 ^ 31 by omega)] at h; exact h
      refine wp_aload_n C 0 dX1_startAnew_29 rfl rfl ?_
      refine wp_getR C dX1_startAnew_30 fX1_startAnew_15 (hC.ob 14 (by decide) rfl) (hC.rf 14 1 16 (by decide)) ?_
      refine wp_iload_n C 2 dX1_startAnew_33 rfl rfl ?_
      refine wp_iconst C 0 dX1_startAnew_34 (by decide) ?_
      refine wp_zast C dX1_startAnew_35 (hC.ar 16 (by decide) rfl) (j := i) rfl (by omega) (by decide) (by decide) ?_
      refine wp_iinc C 2 (nI (i + 1)) [(2, .int (nI (i + 1))), (0, .ref (ca 14)), (1, .int h)] dX1_startAnew_36 rfl (nI_1 i) (by decide) rfl ?_
      refine wp_goto C 23 dX1_startAnew_39 (by decide) ?_
      refine wp_lv [1, 2, 0] rfl ?_
      refine wp_eI ((u2_in _ _ _ _ _).trans (congrArg _ (fl_s _ _ _))) ?_
      exact ih (i + 1) (by omega) (by omega)
  refine wp_aload_n C 0 dX1_startAnew_0 rfl rfl ?_
  refine wp_iload_n C 1 dX1_startAnew_1 rfl rfl ?_
  refine wp_putI C dX1_startAnew_2 pX1_startAnew_11 (fun h => nomatch h) (hC.ob 14 (by decide) rfl) ?_
  refine wp_aload_n C 0 dX1_startAnew_5 rfl rfl ?_
  refine wp_getR C dX1_startAnew_6 fX1_startAnew_19 (hC.ob 14 (by decide) rfl) (hC.rf 14 2 17 (by decide)) ?_
  refine wp_iconst C 0 dX1_startAnew_9 (by decide) ?_
  refine wp_cSv C (As := [.ref (ca 17), .int 0]) (rest := []) dX1_startAnew_10 kX1_startAnew_39 (c_fillI _ (hC.ar 17 (by decide) rfl) (by decide) 0) rfl (Nat.le_of_ble_eq_true rfl) (by decide) (by decide) ?_
  refine wp_aload_n C 0 dX1_startAnew_13 rfl rfl ?_
  refine wp_getR C dX1_startAnew_14 fX1_startAnew_23 (hC.ob 14 (by decide) rfl) (hC.rf 14 3 18 (by decide)) ?_
  refine wp_iconst C 0 dX1_startAnew_17 (by decide) ?_
  refine wp_cSv C (As := [.ref (ca 18), .int 0]) (rest := []) dX1_startAnew_18 kX1_startAnew_39 (c_fillI _ (hC.ar 18 (by decide) rfl) (by decide) 0) rfl (Nat.le_of_ble_eq_true rfl) (by decide) (by decide) ?_
  refine wp_iconst C 0 dX1_startAnew_21 (by decide) ?_
  refine wp_istore_n C [(2, .int 0), (0, .ref (ca 14)), (1, .int h)] dX1_startAnew_22 rfl (by decide) rfl ?_
  refine wp_lv [1, 2, 0] rfl ?_
  have h0 := loop 0 (by omega)
  have e16 : saI I ca h (ca 16) = I (ca 16) := by unfold saI; rw [vu_n _ _ (hC.ne 16 18 (by decide) (by decide) (by decide)), vu_n _ _ (hC.ne 16 17 (by decide) (by decide) (by decide)), u2_rown _ _ _ _ (hC.ne 16 14 (by decide) (by decide) (by decide))]
  rw [fl_0, ← e16, vu_id] at h0
  refine wp_eI ?_ h0
  unfold saI
  rw [vu_n _ _ (hC.ne 18 17 (by decide) (by decide) (by decide)), u2_rown _ _ _ _ (hC.ne 18 14 (by decide) (by decide) (by decide)), u2_rown _ _ _ _ (hC.ne 17 14 (by decide) (by decide) (by decide))]
/-- a sum of a row, up to i -/
def smI (f : Nat → Int32) : Nat → Int32
  | 0 => 0
  | n + 1 => smI f n + f n
set_option maxRecDepth 100000 in
set_option maxHeartbeats 4000000 in
theorem c_worthTogether (l : Launch) {T : gSh} {I : gI} {J : gJ} {R : gR} {ca : Nat → Nat} (hC : CO T R ca) : Con l yX1_worthTogether wsX1_worthTogether ({ frames := 0, cells := 0, slots := 0, locals := 0 }) [.ref (ca 14)] T I J R (gP (some (.int (smI (fun p => if I (ca 16) p = 0 then 0 else I (ca 17) p) 80))) T I J R) := by
  refine Con.mk (cc := cX1_worthTogether) (maxL := 3) (ret := (some .int)) (by decide) rfl (Nat.le_of_ble_eq_true rfl) ?_
  intro E hE C Z hnm
  subst hE
  change WP E 3 0 0 T I J R 0 [(0, .ref (ca 14))] []
  have loop : ∀ i, i ≤ 80 → WP E 3 0 0 T I J R 4 [(0, .ref (ca 14)), (1, .int (smI (fun p => if I (ca 16) p = 0 then 0 else I (ca 17) p) i)), (2, .int (nI i))] [] := by
    refine loopN 80 (fun i hi ih => ?_)
    refine wp_iload_n C 2 dX1_worthTogether_4 rfl rfl ?_
    refine wp_bipush C 80 dX1_worthTogether_5 (by decide) ?_
    refine wp_icmp_ge C 38 dX1_worthTogether_7 (by decide) (fun c7 => ?_) (fun c7 => ?_)
    · have c7 : 80 ≤ ((i : Nat) : Int) := by have h := p_le c7; rw [nI_toInt (show i < 2 ^ 31 by omega)] at h; exact h
      refine wp_iload_n C 1 dX1_worthTogether_38 rfl rfl ?_
      rw [show i = 80 by omega]
      exact wp_iret C Z dX1_worthTogether_39 (by decide) (by decide) gP_rf
    · have c7 : ¬ 80 ≤ ((i : Nat) : Int) := by have h := n_le c7; rw [nI_toInt (show i < 2 ^ 31 by omega)] at h; exact h
      refine wp_iload_n C 1 dX1_worthTogether_10 rfl rfl ?_
      refine wp_aload_n C 0 dX1_worthTogether_11 rfl rfl ?_
      refine wp_getR C dX1_worthTogether_12 fX1_worthTogether_15 (hC.ob 14 (by decide) rfl) (hC.rf 14 1 16 (by decide)) ?_
      refine wp_iload_n C 2 dX1_worthTogether_15 rfl rfl ?_
      refine wp_zald C dX1_worthTogether_16 (hC.ar 16 (by decide) rfl) (j := i) rfl (by omega) (by decide) ?_
      refine wp_if_eq C 29 dX1_worthTogether_17 (by decide) (fun c17 => ?_) (fun c17 => ?_)
      · refine wp_iconst C 0 dX1_worthTogether_29 (by decide) ?_
        refine wp_iadd C dX1_worthTogether_30 ?_
        refine wp_istore_n C [(1, .int ((smI (fun p => if I (ca 16) p = 0 then 0 else I (ca 17) p) i) + 0)), (0, .ref (ca 14)), (2, .int (nI i))] dX1_worthTogether_31 rfl (by decide) rfl ?_
        refine wp_iinc C 2 (nI (i + 1)) [(2, .int (nI (i + 1))), (1, .int ((smI (fun p => if I (ca 16) p = 0 then 0 else I (ca 17) p) i) + 0)), (0, .ref (ca 14))] dX1_worthTogether_32 rfl (nI_1 i) (by decide) rfl ?_
        refine wp_goto C 4 dX1_worthTogether_35 (by decide) ?_
        refine wp_lv [2, 1, 0] rfl ?_
        have h0 := ih (i + 1) (by omega) (by omega)
        simp only [smI] at h0
        rw [if_pos c17] at h0
        exact h0
      · refine wp_aload_n C 0 dX1_worthTogether_20 rfl rfl ?_
        refine wp_getR C dX1_worthTogether_21 fX1_worthTogether_19 (hC.ob 14 (by decide) rfl) (hC.rf 14 2 17 (by decide)) ?_
        refine wp_iload_n C 2 dX1_worthTogether_24 rfl rfl ?_
        refine wp_iald C dX1_worthTogether_25 (hC.ar 17 (by decide) rfl) (j := i) rfl (by omega) (by decide) ?_
        refine wp_goto C 30 dX1_worthTogether_26 (by decide) ?_
        refine wp_iadd C dX1_worthTogether_30 ?_
        refine wp_istore_n C [(1, .int ((smI (fun p => if I (ca 16) p = 0 then 0 else I (ca 17) p) i) + (I (ca 17) i))), (0, .ref (ca 14)), (2, .int (nI i))] dX1_worthTogether_31 rfl (by decide) rfl ?_
        refine wp_iinc C 2 (nI (i + 1)) [(2, .int (nI (i + 1))), (1, .int ((smI (fun p => if I (ca 16) p = 0 then 0 else I (ca 17) p) i) + (I (ca 17) i))), (0, .ref (ca 14))] dX1_worthTogether_32 rfl (nI_1 i) (by decide) rfl ?_
        refine wp_goto C 4 dX1_worthTogether_35 (by decide) ?_
        refine wp_lv [2, 1, 0] rfl ?_
        have h0 := ih (i + 1) (by omega) (by omega)
        simp only [smI] at h0
        rw [if_neg c17] at h0
        exact h0
  refine wp_iconst C 0 dX1_worthTogether_0 (by decide) ?_
  refine wp_istore_n C [(1, .int 0), (0, .ref (ca 14))] dX1_worthTogether_1 rfl (by decide) rfl ?_
  refine wp_iconst C 0 dX1_worthTogether_2 (by decide) ?_
  refine wp_istore_n C [(2, .int 0), (1, .int 0), (0, .ref (ca 14))] dX1_worthTogether_3 rfl (by decide) rfl ?_
  refine wp_lv [2, 1, 0] rfl ?_
  exact loop 0 (by omega)
