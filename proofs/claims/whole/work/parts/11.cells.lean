/-! ===== small methods with cells ===== -/
set_option maxRecDepth 100000 in
set_option maxHeartbeats 4000000 in
theorem c_agentNode (l : Launch) {T : gSh} {I : gI} {J : gJ} {R : gR} {p : Nat} (hp : p < 80) : Con l yX1_agentNode wsX1_agentNode ({ frames := 0, cells := 0, slots := 0, locals := 0 }) [.int (nI p)] T I J R (gP (some (.int (nI (p / 10)))) T I J R) := by
  refine Con.mk (cc := cX1_agentNode) (maxL := 1) (ret := (some .int)) (by decide) rfl (Nat.le_of_ble_eq_true rfl) ?_
  intro E hE C Z hnm
  subst hE
  change WP E 1 0 0 T I J R 0 [(0, .int (nI p))] []
  refine wp_iload_n C 0 dX1_agentNode_0 rfl rfl ?_
  refine wp_bipush C 10 dX1_agentNode_1 (by decide) ?_
  refine wp_idiv C dX1_agentNode_3 (by decide) ?_
  refine wp_eqi (pk_div (by omega) (by omega) (by omega) : _ = nI (p / 10)) ?_
  exact wp_iret C Z dX1_agentNode_4 (by decide) (by decide) gP_rf
set_option maxRecDepth 100000 in
set_option maxHeartbeats 4000000 in
theorem c_editorNode (l : Launch) {T : gSh} {I : gI} {J : gJ} {R : gR} {p : Nat} (hp : p < 80) : Con l yX1_editorNode wsX1_editorNode ({ frames := 0, cells := 0, slots := 0, locals := 0 }) [.int (nI p)] T I J R (gP (some (.int (nI (8 + p % 10)))) T I J R) := by
  refine Con.mk (cc := cX1_editorNode) (maxL := 1) (ret := (some .int)) (by decide) rfl (Nat.le_of_ble_eq_true rfl) ?_
  intro E hE C Z hnm
  subst hE
  change WP E 1 0 0 T I J R 0 [(0, .int (nI p))] []
  refine wp_bipush C 8 dX1_editorNode_0 (by decide) ?_
  refine wp_iload_n C 0 dX1_editorNode_2 rfl rfl ?_
  refine wp_bipush C 10 dX1_editorNode_3 (by decide) ?_
  refine wp_irem C dX1_editorNode_5 (by decide) ?_
  refine wp_eqi (pk_rem (by omega) (by omega) (by omega) : _ = nI (p % 10)) ?_
  refine wp_iadd C dX1_editorNode_6 ?_
  refine wp_eqi (nI_add 8 (p % 10)) ?_
  exact wp_iret C Z dX1_editorNode_7 (by decide) (by decide) gP_rf
set_option maxRecDepth 100000 in
set_option maxHeartbeats 4000000 in
theorem c_isFree (l : Launch) {T : gSh} {I : gI} {J : gJ} {R : gR} {ca : Nat → Nat} (hC : CO T R ca) {n : Nat} (hn : n < 18) : Con l yX1_isFree wsX1_isFree ({ frames := 0, cells := 0, slots := 0, locals := 0 }) [.ref (ca 14), .int (nI n)] T I J R (gP (some (.int (bI ((I (ca 18) n).toInt < (I (ca 14) 0).toInt)))) T I J R) := by
  refine Con.mk (cc := cX1_isFree) (maxL := 2) (ret := (some .boolean)) (by decide) rfl (Nat.le_of_ble_eq_true rfl) ?_
  intro E hE C Z hnm
  subst hE
  change WP E 2 0 0 T I J R 0 [(0, .ref (ca 14)), (1, .int (nI n))] []
  refine wp_aload_n C 0 dX1_isFree_0 rfl rfl ?_
  refine wp_getR C dX1_isFree_1 fX1_isFree_23 (hC.ob 14 (by decide) rfl) (hC.rf 14 3 18 (by decide)) ?_
  refine wp_iload_n C 1 dX1_isFree_4 rfl rfl ?_
  refine wp_iald C dX1_isFree_5 (hC.ar 18 (by decide) rfl) (j := n) rfl (by omega) (by decide) ?_
  refine wp_aload_n C 0 dX1_isFree_6 rfl rfl ?_
  refine wp_getI C dX1_isFree_7 fX1_isFree_11 (hC.ob 14 (by decide) rfl) ?_
  refine wp_icmp_ge C 17 dX1_isFree_10 (by decide) (fun c10 => ?_) (fun c10 => ?_)
  · have c10 : (I (ca 14) 0).toInt ≤ (I (ca 18) n).toInt := by have h := p_le c10; exact h
    refine wp_iconst C 0 dX1_isFree_17 (by decide) ?_
    exact wp_zret C Z dX1_isFree_18 (by decide) (by decide) (by decide) (by rw [bI_f (by omega)]; exact gP_rf)
  · have c10 : ¬ (I (ca 14) 0).toInt ≤ (I (ca 18) n).toInt := by have h := n_le c10; exact h
    refine wp_iconst C 1 dX1_isFree_13 (by decide) ?_
    refine wp_goto C 18 dX1_isFree_14 (by decide) ?_
    exact wp_zret C Z dX1_isFree_18 (by decide) (by decide) (by decide) (by rw [bI_t (by omega)]; exact gP_rf)
set_option maxRecDepth 100000 in
set_option maxHeartbeats 4000000 in
theorem c_reach (l : Launch) {T : gSh} {I : gI} {J : gJ} {R : gR} {ca : Nat → Nat} (hC : CO T R ca) {u v : Nat} (hu : u < 19) (hv : v < 19) (h g : Int64) : Con l yX1_reach wsX1_reach ({ frames := 0, cells := 0, slots := 0, locals := 0 }) [.ref (ca 14), .int (nI u), .int (nI v), .long h, .long g] T I J R (gP none T (u2 (u2 I (ca 21) v (nI u)) (ca 22) v 1) (u2 (u2 J (ca 19) v h) (ca 20) v g) R) := by
  refine Con.mk (cc := cX1_reach) (maxL := 7) (ret := none) (by decide) rfl (Nat.le_of_ble_eq_true rfl) ?_
  intro E hE C Z hnm
  subst hE
  change WP E 7 0 0 T I J R 0 [(0, .ref (ca 14)), (1, .int (nI u)), (2, .int (nI v)), (3, .long h), (5, .long g)] []
  refine wp_aload_n C 0 dX1_reach_0 rfl rfl ?_
  refine wp_getR C dX1_reach_1 fX1_reach_33 (hC.ob 14 (by decide) rfl) (hC.rf 14 6 21 (by decide)) ?_
  refine wp_iload_n C 2 dX1_reach_4 rfl rfl ?_
  refine wp_iload_n C 1 dX1_reach_5 rfl rfl ?_
  refine wp_iast C dX1_reach_6 (hC.ar 21 (by decide) rfl) (j := v) rfl (by omega) (by decide) ?_
  refine wp_aload_n C 0 dX1_reach_7 rfl rfl ?_
  refine wp_getR C dX1_reach_8 fX1_reach_26 (hC.ob 14 (by decide) rfl) (hC.rf 14 4 19 (by decide)) ?_
  refine wp_iload_n C 2 dX1_reach_11 rfl rfl ?_
  refine wp_lload_n C 3 dX1_reach_12 rfl rfl ?_
  refine wp_last C dX1_reach_13 (hC.ar 19 (by decide) rfl) (j := v) rfl (by omega) (by decide) ?_
  refine wp_aload_n C 0 dX1_reach_14 rfl rfl ?_
  refine wp_getR C dX1_reach_15 fX1_reach_30 (hC.ob 14 (by decide) rfl) (hC.rf 14 5 20 (by decide)) ?_
  refine wp_iload_n C 2 dX1_reach_18 rfl rfl ?_
  refine wp_lload C 4 dX1_reach_19 rfl ?_
  refine wp_last C dX1_reach_21 (hC.ar 20 (by decide) rfl) (j := v) rfl (by omega) (by decide) ?_
  refine wp_aload_n C 0 dX1_reach_22 rfl rfl ?_
  refine wp_getR C dX1_reach_23 fX1_reach_36 (hC.ob 14 (by decide) rfl) (hC.rf 14 7 22 (by decide)) ?_
  refine wp_iload_n C 2 dX1_reach_26 rfl rfl ?_
  refine wp_iconst C 1 dX1_reach_27 (by decide) ?_
  refine wp_zast C dX1_reach_28 (hC.ar 22 (by decide) rfl) (j := v) rfl (by omega) (by decide) (by decide) ?_
  exact wp_vret C Z dX1_reach_29 (by decide) (by decide) gP_rf
set_option maxRecDepth 100000 in
set_option maxHeartbeats 4000000 in
theorem m_status (l : Launch) {T : gSh} {I : gI} {J : gJ} {R : gR} {m : Nat} {ad : Nat → Nat} (hM : MO T R m ad) : Con l yX12_status wsX12_status ({ frames := 0, cells := 0, slots := 0, locals := 0 }) [.ref m] T I J R (gP (some (.int (I m 0))) T (u2 I m 1 0) J R) := by
  refine Con.mk (cc := cX12_status) (maxL := 1) (ret := (some .int)) (by decide) rfl (Nat.le_of_ble_eq_true rfl) ?_
  intro E hE C Z hnm
  subst hE
  change WP E 1 0 0 T I J R 0 [(0, .ref m)] []
  refine wp_aload_n C 0 dX12_status_0 rfl rfl ?_
  refine wp_iconst C 0 dX12_status_1 (by decide) ?_
  refine wp_putI C dX12_status_2 pX12_status_134 (fun h => nomatch h) hM.ob ?_
  refine wp_aload_n C 0 dX12_status_5 rfl rfl ?_
  refine wp_getI C dX12_status_6 fX12_status_137 hM.ob ?_
  refine wp_eqi (u2_k _ _ _ _ (by decide) _) ?_
  exact wp_iret C Z dX12_status_9 (by decide) (by decide) gP_rf
set_option maxRecDepth 100000 in
set_option maxHeartbeats 4000000 in
theorem m_upper (l : Launch) {T : gSh} {I : gI} {J : gJ} {R : gR} {m : Nat} {ad : Nat → Nat} (hM : MO T R m ad) : Con l yX12_upper wsX12_upper ({ frames := 0, cells := 0, slots := 0, locals := 0 }) [.ref m] T I J R (gP (some (.long (J m 2))) T (u2 I m 1 0) J R) := by
  refine Con.mk (cc := cX12_upper) (maxL := 1) (ret := (some .long)) (by decide) rfl (Nat.le_of_ble_eq_true rfl) ?_
  intro E hE C Z hnm
  subst hE
  change WP E 1 0 0 T I J R 0 [(0, .ref m)] []
  refine wp_aload_n C 0 dX12_upper_0 rfl rfl ?_
  refine wp_iconst C 0 dX12_upper_1 (by decide) ?_
  refine wp_putI C dX12_upper_2 pX12_upper_134 (fun h => nomatch h) hM.ob ?_
  refine wp_aload_n C 0 dX12_upper_5 rfl rfl ?_
  refine wp_getJ C dX12_upper_6 fX12_upper_248 hM.ob ?_
  exact wp_lret C Z dX12_upper_9 (by decide) (by decide) gP_rf
set_option maxRecDepth 100000 in
set_option maxHeartbeats 4000000 in
theorem m_lower (l : Launch) {T : gSh} {I : gI} {J : gJ} {R : gR} {m : Nat} {ad : Nat → Nat} (hM : MO T R m ad) : Con l yX12_lower wsX12_lower ({ frames := 0, cells := 0, slots := 0, locals := 0 }) [.ref m] T I J R (gP (some (.long (J m 3))) T (u2 I m 1 0) J R) := by
  refine Con.mk (cc := cX12_lower) (maxL := 1) (ret := (some .long)) (by decide) rfl (Nat.le_of_ble_eq_true rfl) ?_
  intro E hE C Z hnm
  subst hE
  change WP E 1 0 0 T I J R 0 [(0, .ref m)] []
  refine wp_aload_n C 0 dX12_lower_0 rfl rfl ?_
  refine wp_iconst C 0 dX12_lower_1 (by decide) ?_
  refine wp_putI C dX12_lower_2 pX12_lower_134 (fun h => nomatch h) hM.ob ?_
  refine wp_aload_n C 0 dX12_lower_5 rfl rfl ?_
  refine wp_getJ C dX12_lower_6 fX12_lower_7 hM.ob ?_
  exact wp_lret C Z dX12_lower_9 (by decide) (by decide) gP_rf
set_option maxRecDepth 100000 in
set_option maxHeartbeats 4000000 in
theorem m_refuse (l : Launch) {T : gSh} {I : gI} {J : gJ} {R : gR} {m : Nat} {ad : Nat → Nat} (hM : MO T R m ad) (w : Int32) : Con l yX12_refuse wsX12_refuse ({ frames := 0, cells := 0, slots := 0, locals := 0 }) [.ref m, .int w] T I J R (gP (some (.int (-1))) T (u2 I m 0 w) J R) := by
  refine Con.mk (cc := cX12_refuse) (maxL := 2) (ret := (some .int)) (by decide) rfl (Nat.le_of_ble_eq_true rfl) ?_
  intro E hE C Z hnm
  subst hE
  change WP E 2 0 0 T I J R 0 [(0, .ref m), (1, .int w)] []
  refine wp_aload_n C 0 dX12_refuse_0 rfl rfl ?_
  refine wp_iload_n C 1 dX12_refuse_1 rfl rfl ?_
  refine wp_putI C dX12_refuse_2 pX12_refuse_137 (fun h => nomatch h) hM.ob ?_
  refine wp_iconst C (-1) dX12_refuse_5 (by decide) ?_
  exact wp_iret C Z dX12_refuse_6 (by decide) (by decide) gP_rf
set_option maxRecDepth 100000 in
set_option maxHeartbeats 4000000 in
theorem m_no (l : Launch) {T : gSh} {I : gI} {J : gJ} {R : gR} {m : Nat} {ad : Nat → Nat} (hM : MO T R m ad) (w : Int32) : Con l yX12_no wsX12_no ({ frames := 0, cells := 0, slots := 0, locals := 0 }) [.ref m, .int w] T I J R (gP (some (.int 0)) T (u2 I m 0 w) J R) := by
  refine Con.mk (cc := cX12_no) (maxL := 2) (ret := (some .boolean)) (by decide) rfl (Nat.le_of_ble_eq_true rfl) ?_
  intro E hE C Z hnm
  subst hE
  change WP E 2 0 0 T I J R 0 [(0, .ref m), (1, .int w)] []
  refine wp_aload_n C 0 dX12_no_0 rfl rfl ?_
  refine wp_iload_n C 1 dX12_no_1 rfl rfl ?_
  refine wp_putI C dX12_no_2 pX12_no_137 (fun h => nomatch h) hM.ob ?_
  refine wp_iconst C 0 dX12_no_5 (by decide) ?_
  exact wp_zret C Z dX12_no_6 (by decide) (by decide) (by decide) gP_rf
set_option maxRecDepth 100000 in
set_option maxHeartbeats 4000000 in
theorem m_isAgent (l : Launch) {T : gSh} {I : gI} {J : gJ} {R : gR} {m : Nat} {ad : Nat → Nat} (hM : MO T R m ad) (x : Int32) : Con l yX12_isAgent wsX12_isAgent ({ frames := 0, cells := 0, slots := 0, locals := 0 }) [.ref m, .int x] T I J R (gP (some (.int (bI (0 ≤ x.toInt ∧ x.toInt < (I m 7).toInt)))) T I J R) := by
  refine Con.mk (cc := cX12_isAgent) (maxL := 2) (ret := (some .boolean)) (by decide) rfl (Nat.le_of_ble_eq_true rfl) ?_
  intro E hE C Z hnm
  subst hE
  change WP E 2 0 0 T I J R 0 [(0, .ref m), (1, .int x)] []
  refine wp_iload_n C 1 dX12_isAgent_0 rfl rfl ?_
  refine wp_if_lt C 16 dX12_isAgent_1 (by decide) (fun c1 => ?_) (fun c1 => ?_)
  · have c1 : x.toInt < 0 := by have h := p_lt c1; exact h
    refine wp_iconst C 0 dX12_isAgent_16 (by decide) ?_
    exact wp_zret C Z dX12_isAgent_17 (by decide) (by decide) (by decide) (by rw [bI_f (by omega)]; exact gP_rf)
  · have c1 : ¬ x.toInt < 0 := by have h := n_lt c1; exact h
    refine wp_iload_n C 1 dX12_isAgent_4 rfl rfl ?_
    refine wp_aload_n C 0 dX12_isAgent_5 rfl rfl ?_
    refine wp_getI C dX12_isAgent_6 fX12_isAgent_158 hM.ob ?_
    refine wp_icmp_ge C 16 dX12_isAgent_9 (by decide) (fun c9 => ?_) (fun c9 => ?_)
    · have c9 : (I m 7).toInt ≤ x.toInt := by have h := p_le c9; exact h
      refine wp_iconst C 0 dX12_isAgent_16 (by decide) ?_
      exact wp_zret C Z dX12_isAgent_17 (by decide) (by decide) (by decide) (by rw [bI_f (by omega)]; exact gP_rf)
    · have c9 : ¬ (I m 7).toInt ≤ x.toInt := by have h := n_le c9; exact h
      refine wp_iconst C 1 dX12_isAgent_12 (by decide) ?_
      refine wp_goto C 17 dX12_isAgent_13 (by decide) ?_
      exact wp_zret C Z dX12_isAgent_17 (by decide) (by decide) (by decide) (by rw [bI_t (by omega)]; exact gP_rf)
set_option maxRecDepth 100000 in
set_option maxHeartbeats 4000000 in
theorem m_isEditor (l : Launch) {T : gSh} {I : gI} {J : gJ} {R : gR} {m : Nat} {ad : Nat → Nat} (hM : MO T R m ad) (x : Int32) : Con l yX12_isEditor wsX12_isEditor ({ frames := 0, cells := 0, slots := 0, locals := 0 }) [.ref m, .int x] T I J R (gP (some (.int (bI (0 ≤ x.toInt ∧ x.toInt < (I m 8).toInt)))) T I J R) := by
  refine Con.mk (cc := cX12_isEditor) (maxL := 2) (ret := (some .boolean)) (by decide) rfl (Nat.le_of_ble_eq_true rfl) ?_
  intro E hE C Z hnm
  subst hE
  change WP E 2 0 0 T I J R 0 [(0, .ref m), (1, .int x)] []
  refine wp_iload_n C 1 dX12_isEditor_0 rfl rfl ?_
  refine wp_if_lt C 16 dX12_isEditor_1 (by decide) (fun c1 => ?_) (fun c1 => ?_)
  · have c1 : x.toInt < 0 := by have h := p_lt c1; exact h
    refine wp_iconst C 0 dX12_isEditor_16 (by decide) ?_
    exact wp_zret C Z dX12_isEditor_17 (by decide) (by decide) (by decide) (by rw [bI_f (by omega)]; exact gP_rf)
  · have c1 : ¬ x.toInt < 0 := by have h := n_lt c1; exact h
    refine wp_iload_n C 1 dX12_isEditor_4 rfl rfl ?_
    refine wp_aload_n C 0 dX12_isEditor_5 rfl rfl ?_
    refine wp_getI C dX12_isEditor_6 fX12_isEditor_161 hM.ob ?_
    refine wp_icmp_ge C 16 dX12_isEditor_9 (by decide) (fun c9 => ?_) (fun c9 => ?_)
    · have c9 : (I m 8).toInt ≤ x.toInt := by have h := p_le c9; exact h
      refine wp_iconst C 0 dX12_isEditor_16 (by decide) ?_
      exact wp_zret C Z dX12_isEditor_17 (by decide) (by decide) (by decide) (by rw [bI_f (by omega)]; exact gP_rf)
    · have c9 : ¬ (I m 8).toInt ≤ x.toInt := by have h := n_le c9; exact h
      refine wp_iconst C 1 dX12_isEditor_12 (by decide) ?_
      refine wp_goto C 17 dX12_isEditor_13 (by decide) ?_
      exact wp_zret C Z dX12_isEditor_17 (by decide) (by decide) (by decide) (by rw [bI_t (by omega)]; exact gP_rf)
set_option maxRecDepth 100000 in
set_option maxHeartbeats 4000000 in
theorem m_isBook (l : Launch) {T : gSh} {I : gI} {J : gJ} {R : gR} {m : Nat} {ad : Nat → Nat} (hM : MO T R m ad) (x : Int32) : Con l yX12_isBook wsX12_isBook ({ frames := 0, cells := 0, slots := 0, locals := 0 }) [.ref m, .int x] T I J R (gP (some (.int (bI (0 ≤ x.toInt ∧ x.toInt < (I m 21).toInt)))) T I J R) := by
  refine Con.mk (cc := cX12_isBook) (maxL := 2) (ret := (some .boolean)) (by decide) rfl (Nat.le_of_ble_eq_true rfl) ?_
  intro E hE C Z hnm
  subst hE
  change WP E 2 0 0 T I J R 0 [(0, .ref m), (1, .int x)] []
  refine wp_iload_n C 1 dX12_isBook_0 rfl rfl ?_
  refine wp_if_lt C 16 dX12_isBook_1 (by decide) (fun c1 => ?_) (fun c1 => ?_)
  · have c1 : x.toInt < 0 := by have h := p_lt c1; exact h
    refine wp_iconst C 0 dX12_isBook_16 (by decide) ?_
    exact wp_zret C Z dX12_isBook_17 (by decide) (by decide) (by decide) (by rw [bI_f (by omega)]; exact gP_rf)
  · have c1 : ¬ x.toInt < 0 := by have h := n_lt c1; exact h
    refine wp_iload_n C 1 dX12_isBook_4 rfl rfl ?_
    refine wp_aload_n C 0 dX12_isBook_5 rfl rfl ?_
    refine wp_getI C dX12_isBook_6 fX12_isBook_198 hM.ob ?_
    refine wp_icmp_ge C 16 dX12_isBook_9 (by decide) (fun c9 => ?_) (fun c9 => ?_)
    · have c9 : (I m 21).toInt ≤ x.toInt := by have h := p_le c9; exact h
      refine wp_iconst C 0 dX12_isBook_16 (by decide) ?_
      exact wp_zret C Z dX12_isBook_17 (by decide) (by decide) (by decide) (by rw [bI_f (by omega)]; exact gP_rf)
    · have c9 : ¬ (I m 21).toInt ≤ x.toInt := by have h := n_le c9; exact h
      refine wp_iconst C 1 dX12_isBook_12 (by decide) ?_
      refine wp_goto C 17 dX12_isBook_13 (by decide) ?_
      exact wp_zret C Z dX12_isBook_17 (by decide) (by decide) (by decide) (by rw [bI_t (by omega)]; exact gP_rf)
set_option maxRecDepth 100000 in
set_option maxHeartbeats 4000000 in
theorem c_status (l : Launch) {T : gSh} {I : gI} {J : gJ} {R : gR} {ca : Nat → Nat} (hC : CO T R ca) : Con l yX11_status wsX11_status ({ frames := 0, cells := 0, slots := 0, locals := 0 }) [.ref (ca 0)] T I J R (gP (some (.int (I (ca 0) 5))) T I J R) := by
  refine Con.mk (cc := cX11_status) (maxL := 1) (ret := (some .int)) (by decide) rfl (Nat.le_of_ble_eq_true rfl) ?_
  intro E hE C Z hnm
  subst hE
  change WP E 1 0 0 T I J R 0 [(0, .ref (ca 0))] []
  refine wp_aload_n C 0 dX11_status_0 rfl rfl ?_
  refine wp_getI C dX11_status_1 fX11_status_41 (hC.ob 0 (by decide) rfl) ?_
  exact wp_iret C Z dX11_status_4 (by decide) (by decide) gP_rf
set_option maxRecDepth 100000 in
set_option maxHeartbeats 4000000 in
theorem c_upper (l : Launch) {T : gSh} {I : gI} {J : gJ} {R : gR} {ca : Nat → Nat} (hC : CO T R ca) : Con l yX11_upper wsX11_upper ({ frames := 0, cells := 0, slots := 0, locals := 0 }) [.ref (ca 0)] T I J R (gP (some (.long (J (ca 0) 6))) T I J R) := by
  refine Con.mk (cc := cX11_upper) (maxL := 1) (ret := (some .long)) (by decide) rfl (Nat.le_of_ble_eq_true rfl) ?_
  intro E hE C Z hnm
  subst hE
  change WP E 1 0 0 T I J R 0 [(0, .ref (ca 0))] []
  refine wp_aload_n C 0 dX11_upper_0 rfl rfl ?_
  refine wp_getJ C dX11_upper_1 fX11_upper_45 (hC.ob 0 (by decide) rfl) ?_
  exact wp_lret C Z dX11_upper_4 (by decide) (by decide) gP_rf
set_option maxRecDepth 100000 in
set_option maxHeartbeats 4000000 in
theorem c_lower (l : Launch) {T : gSh} {I : gI} {J : gJ} {R : gR} {ca : Nat → Nat} (hC : CO T R ca) : Con l yX11_lower wsX11_lower ({ frames := 0, cells := 0, slots := 0, locals := 0 }) [.ref (ca 0)] T I J R (gP (some (.long (J (ca 0) 7))) T I J R) := by
  refine Con.mk (cc := cX11_lower) (maxL := 1) (ret := (some .long)) (by decide) rfl (Nat.le_of_ble_eq_true rfl) ?_
  intro E hE C Z hnm
  subst hE
  change WP E 1 0 0 T I J R 0 [(0, .ref (ca 0))] []
  refine wp_aload_n C 0 dX11_lower_0 rfl rfl ?_
  refine wp_getJ C dX11_lower_1 fX11_lower_49 (hC.ob 0 (by decide) rfl) ?_
  exact wp_lret C Z dX11_lower_4 (by decide) (by decide) gP_rf
set_option maxRecDepth 100000 in
set_option maxHeartbeats 4000000 in
theorem c_isAgent (l : Launch) {T : gSh} {I : gI} {J : gJ} {R : gR} {ca : Nat → Nat} (hC : CO T R ca) (x : Int32) : Con l yX11_isAgent wsX11_isAgent ({ frames := 0, cells := 0, slots := 0, locals := 0 }) [.ref (ca 0), .int x] T I J R (gP (some (.int (bI (0 ≤ x.toInt ∧ x.toInt < (I (ca 2) 0).toInt)))) T I J R) := by
  refine Con.mk (cc := cX11_isAgent) (maxL := 2) (ret := (some .boolean)) (by decide) rfl (Nat.le_of_ble_eq_true rfl) ?_
  intro E hE C Z hnm
  subst hE
  change WP E 2 0 0 T I J R 0 [(0, .ref (ca 0)), (1, .int x)] []
  refine wp_iload_n C 1 dX11_isAgent_0 rfl rfl ?_
  refine wp_if_lt C 19 dX11_isAgent_1 (by decide) (fun c1 => ?_) (fun c1 => ?_)
  · have c1 : x.toInt < 0 := by have h := p_lt c1; exact h
    refine wp_iconst C 0 dX11_isAgent_19 (by decide) ?_
    exact wp_zret C Z dX11_isAgent_20 (by decide) (by decide) (by decide) (by rw [bI_f (by omega)]; exact gP_rf)
  · have c1 : ¬ x.toInt < 0 := by have h := n_lt c1; exact h
    refine wp_iload_n C 1 dX11_isAgent_4 rfl rfl ?_
    refine wp_aload_n C 0 dX11_isAgent_5 rfl rfl ?_
    refine wp_getR C dX11_isAgent_6 fX11_isAgent_19 (hC.ob 0 (by decide) rfl) (hC.rf 0 1 2 (by decide)) ?_
    refine wp_getI C dX11_isAgent_9 fX11_isAgent_102 (hC.ob 2 (by decide) rfl) ?_
    refine wp_icmp_ge C 19 dX11_isAgent_12 (by decide) (fun c12 => ?_) (fun c12 => ?_)
    · have c12 : (I (ca 2) 0).toInt ≤ x.toInt := by have h := p_le c12; exact h
      refine wp_iconst C 0 dX11_isAgent_19 (by decide) ?_
      exact wp_zret C Z dX11_isAgent_20 (by decide) (by decide) (by decide) (by rw [bI_f (by omega)]; exact gP_rf)
    · have c12 : ¬ (I (ca 2) 0).toInt ≤ x.toInt := by have h := n_le c12; exact h
      refine wp_iconst C 1 dX11_isAgent_15 (by decide) ?_
      refine wp_goto C 20 dX11_isAgent_16 (by decide) ?_
      exact wp_zret C Z dX11_isAgent_20 (by decide) (by decide) (by decide) (by rw [bI_t (by omega)]; exact gP_rf)
set_option maxRecDepth 100000 in
set_option maxHeartbeats 4000000 in
theorem c_isEditor (l : Launch) {T : gSh} {I : gI} {J : gJ} {R : gR} {ca : Nat → Nat} (hC : CO T R ca) (x : Int32) : Con l yX11_isEditor wsX11_isEditor ({ frames := 0, cells := 0, slots := 0, locals := 0 }) [.ref (ca 0), .int x] T I J R (gP (some (.int (bI (0 ≤ x.toInt ∧ x.toInt < (I (ca 2) 1).toInt)))) T I J R) := by
  refine Con.mk (cc := cX11_isEditor) (maxL := 2) (ret := (some .boolean)) (by decide) rfl (Nat.le_of_ble_eq_true rfl) ?_
  intro E hE C Z hnm
  subst hE
  change WP E 2 0 0 T I J R 0 [(0, .ref (ca 0)), (1, .int x)] []
  refine wp_iload_n C 1 dX11_isEditor_0 rfl rfl ?_
  refine wp_if_lt C 19 dX11_isEditor_1 (by decide) (fun c1 => ?_) (fun c1 => ?_)
  · have c1 : x.toInt < 0 := by have h := p_lt c1; exact h
    refine wp_iconst C 0 dX11_isEditor_19 (by decide) ?_
    exact wp_zret C Z dX11_isEditor_20 (by decide) (by decide) (by decide) (by rw [bI_f (by omega)]; exact gP_rf)
  · have c1 : ¬ x.toInt < 0 := by have h := n_lt c1; exact h
    refine wp_iload_n C 1 dX11_isEditor_4 rfl rfl ?_
    refine wp_aload_n C 0 dX11_isEditor_5 rfl rfl ?_
    refine wp_getR C dX11_isEditor_6 fX11_isEditor_19 (hC.ob 0 (by decide) rfl) (hC.rf 0 1 2 (by decide)) ?_
    refine wp_getI C dX11_isEditor_9 fX11_isEditor_105 (hC.ob 2 (by decide) rfl) ?_
    refine wp_icmp_ge C 19 dX11_isEditor_12 (by decide) (fun c12 => ?_) (fun c12 => ?_)
    · have c12 : (I (ca 2) 1).toInt ≤ x.toInt := by have h := p_le c12; exact h
      refine wp_iconst C 0 dX11_isEditor_19 (by decide) ?_
      exact wp_zret C Z dX11_isEditor_20 (by decide) (by decide) (by decide) (by rw [bI_f (by omega)]; exact gP_rf)
    · have c12 : ¬ (I (ca 2) 1).toInt ≤ x.toInt := by have h := n_le c12; exact h
      refine wp_iconst C 1 dX11_isEditor_15 (by decide) ?_
      refine wp_goto C 20 dX11_isEditor_16 (by decide) ?_
      exact wp_zret C Z dX11_isEditor_20 (by decide) (by decide) (by decide) (by rw [bI_t (by omega)]; exact gP_rf)
set_option maxRecDepth 100000 in
set_option maxHeartbeats 4000000 in
theorem c_isBook (l : Launch) {T : gSh} {I : gI} {J : gJ} {R : gR} {ca : Nat → Nat} (hC : CO T R ca) (x : Int32) : Con l yX11_isBook wsX11_isBook ({ frames := 0, cells := 0, slots := 0, locals := 0 }) [.ref (ca 0), .int x] T I J R (gP (some (.int (bI (0 ≤ x.toInt ∧ x.toInt < (I (ca 3) 0).toInt)))) T I J R) := by
  refine Con.mk (cc := cX11_isBook) (maxL := 2) (ret := (some .boolean)) (by decide) rfl (Nat.le_of_ble_eq_true rfl) ?_
  intro E hE C Z hnm
  subst hE
  change WP E 2 0 0 T I J R 0 [(0, .ref (ca 0)), (1, .int x)] []
  refine wp_iload_n C 1 dX11_isBook_0 rfl rfl ?_
  refine wp_if_lt C 19 dX11_isBook_1 (by decide) (fun c1 => ?_) (fun c1 => ?_)
  · have c1 : x.toInt < 0 := by have h := p_lt c1; exact h
    refine wp_iconst C 0 dX11_isBook_19 (by decide) ?_
    exact wp_zret C Z dX11_isBook_20 (by decide) (by decide) (by decide) (by rw [bI_f (by omega)]; exact gP_rf)
  · have c1 : ¬ x.toInt < 0 := by have h := n_lt c1; exact h
    refine wp_iload_n C 1 dX11_isBook_4 rfl rfl ?_
    refine wp_aload_n C 0 dX11_isBook_5 rfl rfl ?_
    refine wp_getR C dX11_isBook_6 fX11_isBook_26 (hC.ob 0 (by decide) rfl) (hC.rf 0 2 3 (by decide)) ?_
    refine wp_getI C dX11_isBook_9 fX11_isBook_156 (hC.ob 3 (by decide) rfl) ?_
    refine wp_icmp_ge C 19 dX11_isBook_12 (by decide) (fun c12 => ?_) (fun c12 => ?_)
    · have c12 : (I (ca 3) 0).toInt ≤ x.toInt := by have h := p_le c12; exact h
      refine wp_iconst C 0 dX11_isBook_19 (by decide) ?_
      exact wp_zret C Z dX11_isBook_20 (by decide) (by decide) (by decide) (by rw [bI_f (by omega)]; exact gP_rf)
    · have c12 : ¬ (I (ca 3) 0).toInt ≤ x.toInt := by have h := n_le c12; exact h
      refine wp_iconst C 1 dX11_isBook_15 (by decide) ?_
      refine wp_goto C 20 dX11_isBook_16 (by decide) ?_
      exact wp_zret C Z dX11_isBook_20 (by decide) (by decide) (by decide) (by rw [bI_t (by omega)]; exact gP_rf)
