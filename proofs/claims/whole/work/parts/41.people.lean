/-! ===== agents, editors, half hours, worths ===== -/
theorem KN.ar {I : gI} {ca : Nat → Nat} {a : gI} (k : KN I ca a) : ((I (ca 2) 0).toInt = (a 0 7).toInt ∧ 0 ≤ (a 0 7).toInt ∧ (a 0 7).toInt ≤ 8) ∧ ((I (ca 2) 1).toInt = (a 0 8).toInt ∧ 0 ≤ (a 0 8).toInt ∧ (a 0 8).toInt ≤ 10) ∧ ((I (ca 2) 2).toInt = (a 0 9).toInt ∧ 1 ≤ (a 0 9).toInt ∧ (a 0 9).toInt ≤ 8) := by
  obtain ⟨A, B, h, w, ⟨k1, k2, k3, -⟩, e7, e8, e9, -⟩ := k
  rw [e7, e8, e9, k1.1, k2.1, k3.1, nI_toInt (by omega), nI_toInt (by omega), nI_toInt (by omega)]
  omega
/-- what the state's numbers of the meetings keep to -/
def okN (a : gI) : Prop := (0 ≤ (a 0 7).toInt ∧ (a 0 7).toInt ≤ 8) ∧ (0 ≤ (a 0 8).toInt ∧ (a 0 8).toInt ≤ 10) ∧ (1 ≤ (a 0 9).toInt ∧ (a 0 9).toInt ≤ 8)
theorem KM.of {I I' : gI} {ca : Nat → Nat} {A B h A' B' : Nat} {w : Nat → Nat} (k : KM I ca A B h w) (q : ∀ i, 13 ≤ i → i ≤ 24 → I' (ca i) = I (ca i)) (h0 : I' (ca 2) 0 = nI A' ∧ A' ≤ 8) (h1 : I' (ca 2) 1 = nI B' ∧ B' ≤ 10) (h2 : I' (ca 2) 2 = I (ca 2) 2) (h6 : I' (ca 2) 6 = I (ca 2) 6) : KM I' ca A' B' h w := by
  unfold KM BS TT at k ⊢
  rw [h2, h6, q 13 (by omega) (by omega), q 22 (by omega) (by omega), q 14 (by omega) (by omega), q 17 (by omega) (by omega), q 16 (by omega) (by omega), q 18 (by omega) (by omega), q 15 (by omega) (by omega), q 23 (by omega) (by omega), q 24 (by omega) (by omega)]
  exact ⟨h0, h1, k.2.2⟩
theorem KM.off {I I' : gI} {ca : Nat → Nat} {A B h h' : Nat} {w w' : Nat → Nat} (k : KM I ca A B h w) (q : ∀ i, 14 ≤ i → i ≤ 24 → I' (ca i) = I (ca i)) (h0 : I' (ca 2) 0 = I (ca 2) 0) (h1 : I' (ca 2) 1 = I (ca 2) 1) (h2 : I' (ca 2) 2 = nI h' ∧ 1 ≤ h' ∧ h' ≤ 8) (h13 : ∀ p, p < 80 → I' (ca 13) p = nI (w' p) ∧ w' p ≤ 100) (h6 : I' (ca 2) 6 = 0) : KM I' ca A B h' w' := by
  obtain ⟨k1, k2, k3, k4, k5, u, hs, w1, c, dg, u1, u2_, bs, op, up⟩ := k
  refine ⟨by rw [h0]; exact k1, by rw [h1]; exact k2, h2, h13, by rw [q 22 (by omega) (by omega)]; exact k5, 0, hs, w1, c, dg, h6, Nat.zero_le _, ?_, op, fun z => absurd z (by decide)⟩
  unfold BS at bs ⊢
  rw [q 14 (by omega) (by omega), q 17 (by omega) (by omega), q 16 (by omega) (by omega), q 18 (by omega) (by omega)]
  exact bs
section KAm
variable {T : gSh} {I : gI} {J : gJ} {R : gR} {ca : Nat → Nat} {a : gI} {n : gJ}
theorem KA.agent (k : KA T I J R ca a n) (h : (a 0 7).toInt < 8) : KA T (u2 I (ca 2) 0 (a 0 7 + 1)) J R ca (u2 a 0 7 (a 0 7 + 1)) n := by
  have hC := k.1
  obtain ⟨A, B, hh, w, km, e7, e8, e9, ew, e0⟩ := k.2.2.2.2.1
  rw [e7, nI_toInt (by have := km.1; omega)] at h
  have hx : ExL T T I (u2 I (ca 2) 0 (a 0 7 + 1)) J J R R ca [2] := (ExL.rf (by decide)).pI (by simp) 0 _
  refine k.onN hx (by decide) ⟨A + 1, B, hh, w, km.of (fun i h1 h2 => u2_rown _ _ _ _ (hC.ne i 2 (by omega) (by omega) (by omega))) ⟨by rw [u2_s, e7, nI_1], by omega⟩ ⟨by rw [u2_k _ _ _ _ (by decide)]; exact km.2.1.1, km.2.1.2⟩ (u2_k _ _ _ _ (by decide) _) (u2_k _ _ _ _ (by decide) _), by rw [u2_s, e7, nI_1], by rw [u2_k _ _ _ _ (by decide)]; exact e8, by rw [u2_k _ _ _ _ (by decide)]; exact e9, ew, fun p hp z => e0 p hp (by omega)⟩ (fun i hi => u2_k _ _ _ _ (by omega) _) (fun r h1 h2 => u2_rown _ _ _ _ h1)
theorem KA.editor (k : KA T I J R ca a n) (h : (a 0 8).toInt < 10) : KA T (u2 I (ca 2) 1 (a 0 8 + 1)) J R ca (u2 a 0 8 (a 0 8 + 1)) n := by
  have hC := k.1
  obtain ⟨A, B, hh, w, km, e7, e8, e9, ew, e0⟩ := k.2.2.2.2.1
  rw [e8, nI_toInt (by have := km.2.1; omega)] at h
  have hx : ExL T T I (u2 I (ca 2) 1 (a 0 8 + 1)) J J R R ca [2] := (ExL.rf (by decide)).pI (by simp) 1 _
  refine k.onN hx (by decide) ⟨A, B + 1, hh, w, km.of (fun i h1 h2 => u2_rown _ _ _ _ (hC.ne i 2 (by omega) (by omega) (by omega))) ⟨by rw [u2_k _ _ _ _ (by decide)]; exact km.1.1, km.1.2⟩ ⟨by rw [u2_s, e8, nI_1], by omega⟩ (u2_k _ _ _ _ (by decide) _) (u2_k _ _ _ _ (by decide) _), by rw [u2_k _ _ _ _ (by decide)]; exact e7, by rw [u2_s, e8, nI_1], by rw [u2_k _ _ _ _ (by decide)]; exact e9, ew, fun p hp z => e0 p hp (by omega)⟩ (fun i hi => u2_k _ _ _ _ (by omega) _) (fun r h1 h2 => u2_rown _ _ _ _ h1)
theorem KA.hours (k : KA T I J R ca a n) {v : Int32} (h : 1 ≤ v.toInt ∧ v.toInt ≤ 8) : KA T (u2 (u2 I (ca 2) 2 v) (ca 2) 6 0) J R ca (u2 a 0 9 v) n := by
  have hC := k.1
  obtain ⟨A, B, hh, w, km, e7, e8, e9, ew, e0⟩ := k.2.2.2.2.1
  obtain ⟨x, hx1, rfl⟩ := natOf (show 0 ≤ v.toInt by omega)
  have hx : ExL T T I (u2 (u2 I (ca 2) 2 (nI x)) (ca 2) 6 0) J J R R ca [2] := ((ExL.rf (by decide)).pI (by simp) 2 _).pI (by simp) 6 _
  refine k.onN hx (by decide) ⟨A, B, x, w, km.off (fun i h1 h2 => by rw [u2_rown _ _ _ _ (hC.ne i 2 (by omega) (by omega) (by omega)), u2_rown _ _ _ _ (hC.ne i 2 (by omega) (by omega) (by omega))]) (by rw [u2_k _ _ _ _ (by decide), u2_k _ _ _ _ (by decide)]) (by rw [u2_k _ _ _ _ (by decide), u2_k _ _ _ _ (by decide)]) ⟨by rw [u2_k _ _ _ _ (by decide), u2_s], by omega, by omega⟩ (by rw [u2_rown _ _ _ _ (hC.ne 13 2 (by omega) (by omega) (by omega)), u2_rown _ _ _ _ (hC.ne 13 2 (by omega) (by omega) (by omega))]; exact km.2.2.2.1) (u2_s _ _ _ _), by rw [u2_k _ _ _ _ (by decide)]; exact e7, by rw [u2_k _ _ _ _ (by decide)]; exact e8, u2_s _ _ _ _, ew, e0⟩ (fun i hi => u2_k _ _ _ _ (by omega) _) (fun r h1 h2 => u2_rown _ _ _ _ h1)
theorem KA.worth (k : KA T I J R ca a n) {x e : Nat} {v : Int32} (hx : (x : Int) < (a 0 7).toInt) (he : (e : Int) < (a 0 8).toInt) (h : 0 ≤ v.toInt ∧ v.toInt ≤ 100) : KA T (u2 (u2 I (ca 13) (10 * x + e) v) (ca 2) 6 0) J R ca (u2 a 10 (10 * x + e) v) n := by
  have hC := k.1
  have hb := k.2.2.2.2.1.ar
  obtain ⟨A, B, hh, w, km, e7, e8, e9, ew, e0⟩ := k.2.2.2.2.1
  obtain ⟨y, hy1, rfl⟩ := natOf (show 0 ≤ v.toInt by omega)
  rw [e7, nI_toInt (by have := km.1; omega)] at hx
  rw [e8, nI_toInt (by have := km.2.1; omega)] at he
  have a8 := km.1.2
  have b10 := km.2.1.2
  have n132 := hC.ne 13 2 (by omega) (by omega) (by omega)
  have n213 := hC.ne 2 13 (by omega) (by omega) (by omega)
  have hX : ExL T T I (u2 (u2 I (ca 13) (10 * x + e) (nI y)) (ca 2) 6 0) J J R R ca [2, 13] := ((ExL.rf (by decide)).pI (by simp) _ _).pI (by simp) 6 _
  refine k.onN hX (by decide) ⟨A, B, hh, va_up w (10 * x + e) y, km.off (fun i h1 h2 => by rw [u2_rown _ _ _ _ (hC.ne i 2 (by omega) (by omega) (by omega)), u2_rown _ _ _ _ (hC.ne i 13 (by omega) (by omega) (by omega))]) (by rw [u2_k _ _ _ _ (by decide), u2_rown _ _ _ _ n213]) (by rw [u2_k _ _ _ _ (by decide), u2_rown _ _ _ _ n213]) ⟨by rw [u2_k _ _ _ _ (by decide), u2_rown _ _ _ _ n213]; exact km.2.2.1.1, km.2.2.1.2⟩ (fun p hp => ?_) (u2_s _ _ _ _), by rw [u2_a _ _ _ _ (by decide)]; exact e7, by rw [u2_a _ _ _ _ (by decide)]; exact e8, by rw [u2_a _ _ _ _ (by decide)]; exact e9, fun p hp => ?_, fun p hp z => ?_⟩ (fun i hi => u2_a _ _ _ _ (by decide) _) (fun r h1 h2 => u2_rown _ _ _ _ h2)
  · rw [u2_rown _ _ _ _ n132]
    by_cases q : p = 10 * x + e
    · subst q; rw [u2_s, vu_s]; exact ⟨rfl, by omega⟩
    · rw [u2_k _ _ _ _ q, vu_n _ _ q]; exact km.2.2.2.1 p hp
  · by_cases q : p = 10 * x + e
    · subst q; rw [u2_s, vu_s]
    · rw [u2_k _ _ _ _ q, vu_n _ _ q]; exact ew p hp
  · rw [vu_n _ _ (by omega)]; exact e0 p hp z
end KAm
def stAg (a : gI) : Nat := if (a 0 7).toInt < 8 then 0 else 7
def aAg (a : gI) : gI := if stAg a = 0 then u2 (u2 a 0 0 0) 0 7 (a 0 7 + 1) else u2 a 0 0 (nI (stAg a))
def stEd (a : gI) : Nat := if (a 0 8).toInt < 10 then 0 else 7
def aEd (a : gI) : gI := if stEd a = 0 then u2 (u2 a 0 0 0) 0 8 (a 0 8 + 1) else u2 a 0 0 (nI (stEd a))
def stHo (v : Int32) : Nat := if 1 ≤ v.toInt ∧ v.toInt ≤ 8 then 0 else 2
def aHo (a : gI) (v : Int32) : gI := if stHo v = 0 then u2 (u2 a 0 0 0) 0 9 v else u2 a 0 0 (nI (stHo v))
def stWo (a : gI) (x e v : Int32) : Nat := if (0 ≤ x.toInt ∧ x.toInt < (a 0 7).toInt) ∧ (0 ≤ e.toInt ∧ e.toInt < (a 0 8).toInt) then (if 0 ≤ v.toInt ∧ v.toInt ≤ 100 then 0 else 2) else 1
def aWo (a : gI) (x e v : Int32) : gI := if stWo a x e v = 0 then u2 (u2 a 0 0 0) 10 (10 * x.toInt.toNat + e.toInt.toNat) v else u2 a 0 0 (nI (stWo a x e v))
theorem stWo_le (a : gI) (x e v : Int32) : stWo a x e v ≤ 2 := by simp only [stWo]; (repeat' split) <;> omega
theorem stWo_ok {a : gI} {x e v : Int32} (h : stWo a x e v = 0) : (0 ≤ x.toInt ∧ x.toInt < (a 0 7).toInt) ∧ (0 ≤ e.toInt ∧ e.toInt < (a 0 8).toInt) ∧ (0 ≤ v.toInt ∧ v.toInt ≤ 100) := by
  have z := h
  simp only [stWo] at z; (repeat' split at z) <;> omega
theorem ix10 {x e : Int32} (h1 : 0 ≤ x.toInt) (h2 : 0 ≤ e.toInt) : 10 * x + e = nI (10 * x.toInt.toNat + e.toInt.toNat) := by
  rw [← nI_add, ← pk_mul, ← nI_nat h1, ← nI_nat h2]; rfl
theorem ix10' {x e : Int32} (h1 : 0 ≤ x.toInt) (h2 : 0 ≤ e.toInt) : x * 10 + e = nI (10 * x.toInt.toNat + e.toInt.toNat) := by
  rw [Int32.mul_comm]; exact ix10 h1 h2
set_option maxRecDepth 100000 in
set_option maxHeartbeats 4000000 in
theorem c_agent (l : Launch) {T : gSh} {I : gI} {J : gJ} {R : gR} {ca : Nat → Nat} {a : gI} {n : gJ} (hK : KA T I J R ca a n) : Con l yX11_agent wsX11_agent ({ frames := 0, cells := 0, slots := 0, locals := 0 }) [.ref (ca 0)] T I J R (PQ T I J R ca (.int (if stAg a = 0 then a 0 7 else -1)) (aAg a) n) := by
  refine Con.mk (cc := cX11_agent) (maxL := 1) (ret := (some .int)) (by decide) rfl (Nat.le_of_ble_eq_true rfl) ?_
  intro E hE C Z hnm
  subst hE
  change WP E 1 0 0 T I J R 0 [(0, .ref (ca 0))] []
  have kn := hK.2.2.2.2.1.ar
  have e : I (ca 2) 0 = a 0 7 := (i_eq _ _).mpr (by omega)
  refine wp_aload_n C 0 dX11_agent_0 rfl rfl ?_
  refine wp_aload_n C 0 dX11_agent_1 rfl rfl ?_
  refine wp_getR C dX11_agent_2 fX11_agent_19 (hK.1.ob 0 (by decide) rfl) (hK.1.rf 0 1 2 (by decide)) ?_
  refine wp_getI C dX11_agent_5 fX11_agent_102 (hK.1.ob 2 (by decide) rfl) ?_
  refine wp_bipush C 8 dX11_agent_8 (by decide) ?_
  refine wp_icmp_ge C 17 dX11_agent_10 (by decide) (fun c10 => ?_) (fun c10 => ?_)
  · have c10 : 8 ≤ (I (ca 2) 0).toInt := by have hcv := p_le c10; exact hcv
    refine wp_bipush C 7 dX11_agent_17 (by decide) ?_
    refine wp_putI C dX11_agent_19 pX11_agent_41 (fun h => nomatch h) (hK.1.ob 0 (by decide) rfl) ?_
    refine wp_aload_n C 0 dX11_agent_22 rfl rfl ?_
    refine wp_getI C dX11_agent_23 fX11_agent_41 (hK.1.ob 0 (by decide) rfl) ?_
    refine wp_eqi (u2_s _ _ _ _) ?_
    refine wp_if_eq C 31 dX11_agent_26 (by decide) (fun c26 => ?_) (fun c26 => ?_)
    · exact absurd c26 (by decide)
    · refine wp_iconst C (-1) dX11_agent_29 (by decide) ?_
      have hst : stAg a = 7 := by simp only [stAg]; (repeat' split) <;> omega
      have hs0 : ¬ stAg a = 0 := by rw [hst]; decide
      exact wp_iret C Z dX11_agent_30 (by decide) (by decide) ⟨by rw [if_neg hs0], (FrC.rf T I J R ca).pI (by decide) 5 _, by unfold aAg; rw [if_neg hs0, hst]; exact hK.st _⟩
  · have c10 : ¬ 8 ≤ (I (ca 2) 0).toInt := by have hcv := n_le c10; exact hcv
    refine wp_iconst C 0 dX11_agent_13 (by decide) ?_
    refine wp_goto C 19 dX11_agent_14 (by decide) ?_
    refine wp_putI C dX11_agent_19 pX11_agent_41 (fun h => nomatch h) (hK.1.ob 0 (by decide) rfl) ?_
    refine wp_aload_n C 0 dX11_agent_22 rfl rfl ?_
    refine wp_getI C dX11_agent_23 fX11_agent_41 (hK.1.ob 0 (by decide) rfl) ?_
    refine wp_eqi (u2_s _ _ _ _) ?_
    refine wp_if_eq C 31 dX11_agent_26 (by decide) (fun c26 => ?_) (fun c26 => ?_)
    · refine wp_aload_n C 0 dX11_agent_31 rfl rfl ?_
      refine wp_getR C dX11_agent_32 fX11_agent_19 (hK.1.ob 0 (by decide) rfl) (hK.1.rf 0 1 2 (by decide)) ?_
      refine wp_dup C dX11_agent_35 rfl ?_
      refine wp_getI C dX11_agent_36 fX11_agent_102 (hK.1.ob 2 (by decide) rfl) ?_
      refine wp_eqi (u2_k _ _ _ _ (by decide) _) ?_
      refine wp_iconst C 1 dX11_agent_39 (by decide) ?_
      refine wp_iadd C dX11_agent_40 ?_
      refine wp_putI C dX11_agent_41 pX11_agent_102 (fun h => nomatch h) (hK.1.ob 2 (by decide) rfl) ?_
      refine wp_aload_n C 0 dX11_agent_44 rfl rfl ?_
      refine wp_getR C dX11_agent_45 fX11_agent_19 (hK.1.ob 0 (by decide) rfl) (hK.1.rf 0 1 2 (by decide)) ?_
      refine wp_getI C dX11_agent_48 fX11_agent_102 (hK.1.ob 2 (by decide) rfl) ?_
      refine wp_eqi (u2_s _ _ _ _) ?_
      refine wp_iconst C 1 dX11_agent_51 (by decide) ?_
      refine wp_isub C dX11_agent_52 ?_
      have hs0 : stAg a = 0 := by simp only [stAg]; (repeat' split) <;> omega
      have hk := (hK.st 0).agent (by rw [u2_k _ _ _ _ (by decide)]; omega)
      rw [u2_k _ _ _ _ (by decide), ← e] at hk
      exact wp_iret C Z dX11_agent_53 (by decide) (by decide) ⟨by rw [if_pos hs0, ← e, Int32.add_sub_cancel], ((FrC.rf T I J R ca).pI (by decide) 5 _).pI (by decide) 0 _, by unfold aAg; rw [if_pos hs0, ← e]; exact hk⟩
    · exact absurd (by decide) c26
set_option maxRecDepth 100000 in
set_option maxHeartbeats 4000000 in
theorem c_editor (l : Launch) {T : gSh} {I : gI} {J : gJ} {R : gR} {ca : Nat → Nat} {a : gI} {n : gJ} (hK : KA T I J R ca a n) : Con l yX11_editor wsX11_editor ({ frames := 0, cells := 0, slots := 0, locals := 0 }) [.ref (ca 0)] T I J R (PQ T I J R ca (.int (if stEd a = 0 then a 0 8 else -1)) (aEd a) n) := by
  refine Con.mk (cc := cX11_editor) (maxL := 1) (ret := (some .int)) (by decide) rfl (Nat.le_of_ble_eq_true rfl) ?_
  intro E hE C Z hnm
  subst hE
  change WP E 1 0 0 T I J R 0 [(0, .ref (ca 0))] []
  have kn := hK.2.2.2.2.1.ar
  have e : I (ca 2) 1 = a 0 8 := (i_eq _ _).mpr (by omega)
  refine wp_aload_n C 0 dX11_editor_0 rfl rfl ?_
  refine wp_aload_n C 0 dX11_editor_1 rfl rfl ?_
  refine wp_getR C dX11_editor_2 fX11_editor_19 (hK.1.ob 0 (by decide) rfl) (hK.1.rf 0 1 2 (by decide)) ?_
  refine wp_getI C dX11_editor_5 fX11_editor_105 (hK.1.ob 2 (by decide) rfl) ?_
  refine wp_bipush C 10 dX11_editor_8 (by decide) ?_
  refine wp_icmp_ge C 17 dX11_editor_10 (by decide) (fun c10 => ?_) (fun c10 => ?_)
  · have c10 : 10 ≤ (I (ca 2) 1).toInt := by have hcv := p_le c10; exact hcv
    refine wp_bipush C 7 dX11_editor_17 (by decide) ?_
    refine wp_putI C dX11_editor_19 pX11_editor_41 (fun h => nomatch h) (hK.1.ob 0 (by decide) rfl) ?_
    refine wp_aload_n C 0 dX11_editor_22 rfl rfl ?_
    refine wp_getI C dX11_editor_23 fX11_editor_41 (hK.1.ob 0 (by decide) rfl) ?_
    refine wp_eqi (u2_s _ _ _ _) ?_
    refine wp_if_eq C 31 dX11_editor_26 (by decide) (fun c26 => ?_) (fun c26 => ?_)
    · exact absurd c26 (by decide)
    · refine wp_iconst C (-1) dX11_editor_29 (by decide) ?_
      have hst : stEd a = 7 := by simp only [stEd]; (repeat' split) <;> omega
      have hs0 : ¬ stEd a = 0 := by rw [hst]; decide
      exact wp_iret C Z dX11_editor_30 (by decide) (by decide) ⟨by rw [if_neg hs0], (FrC.rf T I J R ca).pI (by decide) 5 _, by unfold aEd; rw [if_neg hs0, hst]; exact hK.st _⟩
  · have c10 : ¬ 10 ≤ (I (ca 2) 1).toInt := by have hcv := n_le c10; exact hcv
    refine wp_iconst C 0 dX11_editor_13 (by decide) ?_
    refine wp_goto C 19 dX11_editor_14 (by decide) ?_
    refine wp_putI C dX11_editor_19 pX11_editor_41 (fun h => nomatch h) (hK.1.ob 0 (by decide) rfl) ?_
    refine wp_aload_n C 0 dX11_editor_22 rfl rfl ?_
    refine wp_getI C dX11_editor_23 fX11_editor_41 (hK.1.ob 0 (by decide) rfl) ?_
    refine wp_eqi (u2_s _ _ _ _) ?_
    refine wp_if_eq C 31 dX11_editor_26 (by decide) (fun c26 => ?_) (fun c26 => ?_)
    · refine wp_aload_n C 0 dX11_editor_31 rfl rfl ?_
      refine wp_getR C dX11_editor_32 fX11_editor_19 (hK.1.ob 0 (by decide) rfl) (hK.1.rf 0 1 2 (by decide)) ?_
      refine wp_dup C dX11_editor_35 rfl ?_
      refine wp_getI C dX11_editor_36 fX11_editor_105 (hK.1.ob 2 (by decide) rfl) ?_
      refine wp_eqi (u2_k _ _ _ _ (by decide) _) ?_
      refine wp_iconst C 1 dX11_editor_39 (by decide) ?_
      refine wp_iadd C dX11_editor_40 ?_
      refine wp_putI C dX11_editor_41 pX11_editor_105 (fun h => nomatch h) (hK.1.ob 2 (by decide) rfl) ?_
      refine wp_aload_n C 0 dX11_editor_44 rfl rfl ?_
      refine wp_getR C dX11_editor_45 fX11_editor_19 (hK.1.ob 0 (by decide) rfl) (hK.1.rf 0 1 2 (by decide)) ?_
      refine wp_getI C dX11_editor_48 fX11_editor_105 (hK.1.ob 2 (by decide) rfl) ?_
      refine wp_eqi (u2_s _ _ _ _) ?_
      refine wp_iconst C 1 dX11_editor_51 (by decide) ?_
      refine wp_isub C dX11_editor_52 ?_
      have hs0 : stEd a = 0 := by simp only [stEd]; (repeat' split) <;> omega
      have hk := (hK.st 0).editor (by rw [u2_k _ _ _ _ (by decide)]; omega)
      rw [u2_k _ _ _ _ (by decide), ← e] at hk
      exact wp_iret C Z dX11_editor_53 (by decide) (by decide) ⟨by rw [if_pos hs0, ← e, Int32.add_sub_cancel], ((FrC.rf T I J R ca).pI (by decide) 5 _).pI (by decide) 1 _, by unfold aEd; rw [if_pos hs0, ← e]; exact hk⟩
    · exact absurd (by decide) c26
set_option maxRecDepth 100000 in
set_option maxHeartbeats 4000000 in
theorem c_changeHours (l : Launch) {T : gSh} {I : gI} {J : gJ} {R : gR} {ca : Nat → Nat} (hC : CO T R ca) (v : Int32) : Con l yX4_changeHours wsX4_changeHours ({ frames := 0, cells := 0, slots := 0, locals := 0 }) [.ref (ca 2), .int v] T I J R (gP none T (u2 (u2 I (ca 2) 2 v) (ca 2) 6 0) J R) := by
  refine Con.mk (cc := cX4_changeHours) (maxL := 2) (ret := none) (by decide) rfl (Nat.le_of_ble_eq_true rfl) ?_
  intro E hE C Z hnm
  subst hE
  change WP E 2 0 0 T I J R 0 [(0, .ref (ca 2)), (1, .int v)] []
  refine wp_aload_n C 0 dX4_changeHours_0 rfl rfl ?_
  refine wp_iload_n C 1 dX4_changeHours_1 rfl rfl ?_
  refine wp_putI C dX4_changeHours_2 pX4_changeHours_18 (fun h => nomatch h) (hC.ob 2 (by decide) rfl) ?_
  refine wp_aload_n C 0 dX4_changeHours_5 rfl rfl ?_
  refine wp_iconst C 0 dX4_changeHours_6 (by decide) ?_
  refine wp_putZ C dX4_changeHours_7 pX4_changeHours_39 (fun h => nomatch h) (hC.ob 2 (by decide) rfl) (by decide) ?_
  exact wp_vret C Z dX4_changeHours_10 (by decide) (by decide) gP_rf
set_option maxRecDepth 100000 in
set_option maxHeartbeats 4000000 in
theorem c_changeWorthM (l : Launch) {T : gSh} {I : gI} {J : gJ} {R : gR} {ca : Nat → Nat} (hC : CO T R ca) {x e v : Int32} (hx : 0 ≤ x.toInt ∧ x.toInt < 8) (he : 0 ≤ e.toInt ∧ e.toInt < 10) : Con l yX4_changeWorth wsX4_changeWorth ({ frames := 0, cells := 0, slots := 0, locals := 0 }) [.ref (ca 2), .int x, .int e, .int v] T I J R (gP none T (u2 (u2 I (ca 13) (10 * x.toInt.toNat + e.toInt.toNat) v) (ca 2) 6 0) J R) := by
  refine Con.mk (cc := cX4_changeWorth) (maxL := 4) (ret := none) (by decide) rfl (Nat.le_of_ble_eq_true rfl) ?_
  intro E hE C Z hnm
  subst hE
  change WP E 4 0 0 T I J R 0 [(0, .ref (ca 2)), (1, .int x), (2, .int e), (3, .int v)] []
  refine wp_aload_n C 0 dX4_changeWorth_0 rfl rfl ?_
  refine wp_getR C dX4_changeWorth_1 fX4_changeWorth_21 (hC.ob 2 (by decide) rfl) (hC.rf 2 3 13 (by decide)) ?_
  refine wp_iload_n C 1 dX4_changeWorth_4 rfl rfl ?_
  refine wp_bipush C 10 dX4_changeWorth_5 (by decide) ?_
  refine wp_imul C dX4_changeWorth_7 ?_
  refine wp_iload_n C 2 dX4_changeWorth_8 rfl rfl ?_
  refine wp_iadd C dX4_changeWorth_9 ?_
  refine wp_iload_n C 3 dX4_changeWorth_10 rfl rfl ?_
  refine wp_iast C dX4_changeWorth_11 (hC.ar 13 (by decide) rfl) (j := 10 * x.toInt.toNat + e.toInt.toNat) (ix10' (by omega) (by omega)) (by omega) (by decide) ?_
  refine wp_aload_n C 0 dX4_changeWorth_12 rfl rfl ?_
  refine wp_iconst C 0 dX4_changeWorth_13 (by decide) ?_
  refine wp_putZ C dX4_changeWorth_14 pX4_changeWorth_39 (fun h => nomatch h) (hC.ob 2 (by decide) rfl) (by decide) ?_
  exact wp_vret C Z dX4_changeWorth_17 (by decide) (by decide) gP_rf
set_option maxRecDepth 100000 in
set_option maxHeartbeats 4000000 in
theorem c_hours (l : Launch) {T : gSh} {I : gI} {J : gJ} {R : gR} {ca : Nat → Nat} {a : gI} {n : gJ} (hK : KA T I J R ca a n) (v : Int32) : Con l yX11_hours wsX11_hours ({ frames := 1, cells := 0, slots := 0, locals := 21 }) [.ref (ca 0), .int v] T I J R (PQ T I J R ca (.int (bI (stHo v = 0))) (aHo a v) n) := by
  refine Con.mk (cc := cX11_hours) (maxL := 2) (ret := (some .boolean)) (by decide) rfl (Nat.le_of_ble_eq_true rfl) ?_
  intro E hE C Z hnm
  subst hE
  change WP E 2 0 0 T I J R 0 [(0, .ref (ca 0)), (1, .int v)] []
  refine wp_aload_n C 0 dX11_hours_0 rfl rfl ?_
  refine wp_iload_n C 1 dX11_hours_1 rfl rfl ?_
  refine wp_iconst C 1 dX11_hours_2 (by decide) ?_
  refine wp_icmp_lt C 12 dX11_hours_3 (by decide) (fun c3 => ?_) (fun c3 => ?_)
  · have c3 : v.toInt < 1 := by have hcv := p_lt c3; exact hcv
    refine wp_iconst C 2 dX11_hours_12 (by decide) ?_
    refine wp_goto C 17 dX11_hours_13 (by decide) ?_
    refine wp_putI C dX11_hours_17 pX11_hours_41 (fun h => nomatch h) (hK.1.ob 0 (by decide) rfl) ?_
    refine wp_aload_n C 0 dX11_hours_20 rfl rfl ?_
    refine wp_getI C dX11_hours_21 fX11_hours_41 (hK.1.ob 0 (by decide) rfl) ?_
    refine wp_eqi (u2_s _ _ _ _) ?_
    refine wp_if_eq C 29 dX11_hours_24 (by decide) (fun c24 => ?_) (fun c24 => ?_)
    · exact absurd c24 (by decide)
    · refine wp_iconst C 0 dX11_hours_27 (by decide) ?_
      have hst : stHo v = 2 := by simp only [stHo]; (repeat' split) <;> omega
      have hs0 : ¬ stHo v = 0 := by rw [hst]; decide
      exact wp_zret C Z dX11_hours_28 (by decide) (by decide) (by decide) ⟨by rw [bI_f hs0], (FrC.rf T I J R ca).pI (by decide) 5 _, by unfold aHo; rw [if_neg hs0, hst]; exact hK.st _⟩
  · have c3 : ¬ v.toInt < 1 := by have hcv := n_lt c3; exact hcv
    refine wp_iload_n C 1 dX11_hours_6 rfl rfl ?_
    refine wp_bipush C 8 dX11_hours_7 (by decide) ?_
    refine wp_icmp_le C 16 dX11_hours_9 (by decide) (fun c9 => ?_) (fun c9 => ?_)
    · have c9 : v.toInt ≤ 8 := by have hcv := p_le c9; exact hcv
      refine wp_iconst C 0 dX11_hours_16 (by decide) ?_
      refine wp_putI C dX11_hours_17 pX11_hours_41 (fun h => nomatch h) (hK.1.ob 0 (by decide) rfl) ?_
      refine wp_aload_n C 0 dX11_hours_20 rfl rfl ?_
      refine wp_getI C dX11_hours_21 fX11_hours_41 (hK.1.ob 0 (by decide) rfl) ?_
      refine wp_eqi (u2_s _ _ _ _) ?_
      refine wp_if_eq C 29 dX11_hours_24 (by decide) (fun c24 => ?_) (fun c24 => ?_)
      · refine wp_aload_n C 0 dX11_hours_29 rfl rfl ?_
        refine wp_getR C dX11_hours_30 fX11_hours_19 (hK.1.ob 0 (by decide) rfl) (hK.1.rf 0 1 2 (by decide)) ?_
        refine wp_iload_n C 1 dX11_hours_33 rfl rfl ?_
        refine wp_cVv C (As := [.int v]) (rest := []) dX11_hours_34 kX11_hours_108 (hK.1.ob 2 (by decide) rfl) (c_changeHours _ hK.1 v) rfl (Nat.le_of_ble_eq_true rfl) (by decide) (by decide) ?_
        refine wp_iconst C 1 dX11_hours_37 (by decide) ?_
        have hs0 : stHo v = 0 := by simp only [stHo]; (repeat' split) <;> omega
        exact wp_zret C Z dX11_hours_38 (by decide) (by decide) (by decide) ⟨by rw [bI_t hs0], (((FrC.rf T I J R ca).pI (by decide) 5 _).pI (by decide) 2 _).pI (by decide) 6 _, by unfold aHo; rw [if_pos hs0]; exact (hK.st 0).hours (by omega)⟩
      · exact absurd (by decide) c24
    · have c9 : ¬ v.toInt ≤ 8 := by have hcv := n_le c9; exact hcv
      refine wp_iconst C 2 dX11_hours_12 (by decide) ?_
      refine wp_goto C 17 dX11_hours_13 (by decide) ?_
      refine wp_putI C dX11_hours_17 pX11_hours_41 (fun h => nomatch h) (hK.1.ob 0 (by decide) rfl) ?_
      refine wp_aload_n C 0 dX11_hours_20 rfl rfl ?_
      refine wp_getI C dX11_hours_21 fX11_hours_41 (hK.1.ob 0 (by decide) rfl) ?_
      refine wp_eqi (u2_s _ _ _ _) ?_
      refine wp_if_eq C 29 dX11_hours_24 (by decide) (fun c24 => ?_) (fun c24 => ?_)
      · exact absurd c24 (by decide)
      · refine wp_iconst C 0 dX11_hours_27 (by decide) ?_
        have hst : stHo v = 2 := by simp only [stHo]; (repeat' split) <;> omega
        have hs0 : ¬ stHo v = 0 := by rw [hst]; decide
        exact wp_zret C Z dX11_hours_28 (by decide) (by decide) (by decide) ⟨by rw [bI_f hs0], (FrC.rf T I J R ca).pI (by decide) 5 _, by unfold aHo; rw [if_neg hs0, hst]; exact hK.st _⟩
set_option maxRecDepth 100000 in
set_option maxHeartbeats 4000000 in
theorem c_statusOfWorth (l : Launch) {T : gSh} {I : gI} {J : gJ} {R : gR} {ca : Nat → Nat} {a : gI} {n : gJ} (hK : KA T I J R ca a n) (x e v : Int32) : Con l yX11_statusOfWorth wsX11_statusOfWorth ({ frames := 1, cells := 0, slots := 0, locals := 21 }) [.ref (ca 0), .int x, .int e, .int v] T I J R (gP (some (.int (nI (stWo a x e v)))) T I J R) := by
  refine Con.mk (cc := cX11_statusOfWorth) (maxL := 4) (ret := (some .int)) (by decide) rfl (Nat.le_of_ble_eq_true rfl) ?_
  intro E hE C Z hnm
  subst hE
  change WP E 4 0 0 T I J R 0 [(0, .ref (ca 0)), (1, .int x), (2, .int e), (3, .int v)] []
  have kn := hK.2.2.2.2.1.ar
  refine wp_aload_n C 0 dX11_statusOfWorth_0 rfl rfl ?_
  refine wp_iload_n C 1 dX11_statusOfWorth_1 rfl rfl ?_
  refine wp_cVi C (As := [.int x]) (rest := []) dX11_statusOfWorth_2 kX11_statusOfWorth_119 (hK.1.ob 0 (by decide) rfl) (c_isAgent _ hK.1 x) rfl (Nat.le_of_ble_eq_true rfl) (by decide) (by decide) ?_
  refine wp_if_eq C 16 dX11_statusOfWorth_5 (by decide) (fun c5 => ?_) (fun c5 => ?_)
  · have c5 : ¬ (0 ≤ x.toInt ∧ x.toInt < (I (ca 2) 0).toInt) := fun z => absurd ((bI_t z).symm.trans c5) (by decide)
    refine wp_iconst C 1 dX11_statusOfWorth_16 (by decide) ?_
    exact wp_iret C Z dX11_statusOfWorth_17 (by decide) (by decide) (by rw [show stWo a x e v = 1 from by simp only [stWo]; (repeat' split) <;> omega]; exact gP_rf)
  · have c5 : (0 ≤ x.toInt ∧ x.toInt < (I (ca 2) 0).toInt) := Classical.byContradiction (fun z => c5 (bI_f z))
    refine wp_aload_n C 0 dX11_statusOfWorth_8 rfl rfl ?_
    refine wp_iload_n C 2 dX11_statusOfWorth_9 rfl rfl ?_
    refine wp_cVi C (As := [.int e]) (rest := []) dX11_statusOfWorth_10 kX11_statusOfWorth_122 (hK.1.ob 0 (by decide) rfl) (c_isEditor _ hK.1 e) rfl (Nat.le_of_ble_eq_true rfl) (by decide) (by decide) ?_
    refine wp_if_ne C 18 dX11_statusOfWorth_13 (by decide) (fun c13 => ?_) (fun c13 => ?_)
    · have c13 : (0 ≤ e.toInt ∧ e.toInt < (I (ca 2) 1).toInt) := Classical.byContradiction (fun z => c13 (bI_f z))
      refine wp_iload_n C 3 dX11_statusOfWorth_18 rfl rfl ?_
      refine wp_if_lt C 28 dX11_statusOfWorth_19 (by decide) (fun c19 => ?_) (fun c19 => ?_)
      · have c19 : v.toInt < 0 := by have hcv := p_lt c19; exact hcv
        refine wp_iconst C 2 dX11_statusOfWorth_28 (by decide) ?_
        refine wp_goto C 33 dX11_statusOfWorth_29 (by decide) ?_
        exact wp_iret C Z dX11_statusOfWorth_33 (by decide) (by decide) (by rw [show stWo a x e v = 2 from by simp only [stWo]; (repeat' split) <;> omega]; exact gP_rf)
      · have c19 : ¬ v.toInt < 0 := by have hcv := n_lt c19; exact hcv
        refine wp_iload_n C 3 dX11_statusOfWorth_22 rfl rfl ?_
        refine wp_bipush C 100 dX11_statusOfWorth_23 (by decide) ?_
        refine wp_icmp_le C 32 dX11_statusOfWorth_25 (by decide) (fun c25 => ?_) (fun c25 => ?_)
        · have c25 : v.toInt ≤ 100 := by have hcv := p_le c25; exact hcv
          refine wp_iconst C 0 dX11_statusOfWorth_32 (by decide) ?_
          exact wp_iret C Z dX11_statusOfWorth_33 (by decide) (by decide) (by rw [show stWo a x e v = 0 from by simp only [stWo]; (repeat' split) <;> omega]; exact gP_rf)
        · have c25 : ¬ v.toInt ≤ 100 := by have hcv := n_le c25; exact hcv
          refine wp_iconst C 2 dX11_statusOfWorth_28 (by decide) ?_
          refine wp_goto C 33 dX11_statusOfWorth_29 (by decide) ?_
          exact wp_iret C Z dX11_statusOfWorth_33 (by decide) (by decide) (by rw [show stWo a x e v = 2 from by simp only [stWo]; (repeat' split) <;> omega]; exact gP_rf)
    · have c13 : ¬ (0 ≤ e.toInt ∧ e.toInt < (I (ca 2) 1).toInt) := fun z => absurd ((bI_t z).symm.trans c13) (by decide)
      refine wp_iconst C 1 dX11_statusOfWorth_16 (by decide) ?_
      exact wp_iret C Z dX11_statusOfWorth_17 (by decide) (by decide) (by rw [show stWo a x e v = 1 from by simp only [stWo]; (repeat' split) <;> omega]; exact gP_rf)
set_option maxRecDepth 100000 in
set_option maxHeartbeats 4000000 in
theorem c_worth (l : Launch) {T : gSh} {I : gI} {J : gJ} {R : gR} {ca : Nat → Nat} {a : gI} {n : gJ} (hK : KA T I J R ca a n) (x e v : Int32) : Con l yX11_worth wsX11_worth ({ frames := 2, cells := 0, slots := 0, locals := 44 }) [.ref (ca 0), .int x, .int e, .int v] T I J R (PQ T I J R ca (.int (bI (stWo a x e v = 0))) (aWo a x e v) n) := by
  refine Con.mk (cc := cX11_worth) (maxL := 4) (ret := (some .boolean)) (by decide) rfl (Nat.le_of_ble_eq_true rfl) ?_
  intro E hE C Z hnm
  subst hE
  change WP E 4 0 0 T I J R 0 [(0, .ref (ca 0)), (1, .int x), (2, .int e), (3, .int v)] []
  have kn := hK.2.2.2.2.1.ar
  refine wp_aload_n C 0 dX11_worth_0 rfl rfl ?_
  refine wp_aload_n C 0 dX11_worth_1 rfl rfl ?_
  refine wp_iload_n C 1 dX11_worth_2 rfl rfl ?_
  refine wp_iload_n C 2 dX11_worth_3 rfl rfl ?_
  refine wp_iload_n C 3 dX11_worth_4 rfl rfl ?_
  refine wp_cVi C (As := [.int x, .int e, .int v]) (rest := [.ref (ca 0)]) dX11_worth_5 kX11_worth_112 (hK.1.ob 0 (by decide) rfl) (c_statusOfWorth _ hK x e v) rfl (Nat.le_of_ble_eq_true rfl) (by decide) (by decide) ?_
  refine wp_putI C dX11_worth_8 pX11_worth_41 (fun h => nomatch h) (hK.1.ob 0 (by decide) rfl) ?_
  refine wp_aload_n C 0 dX11_worth_11 rfl rfl ?_
  refine wp_getI C dX11_worth_12 fX11_worth_41 (hK.1.ob 0 (by decide) rfl) ?_
  refine wp_eqi (u2_s _ _ _ _) ?_
  refine wp_if_eq C 20 dX11_worth_15 (by decide) (fun c15 => ?_) (fun c15 => ?_)
  · have c15 : stWo a x e v = 0 := by have hcv := p_eq c15; rw [nI_toInt (show stWo a x e v < 2 ^ 31 by have := stWo_le a x e v; omega)] at hcv; have hz0 : ((0 : Int32)).toInt = 0 := rfl; omega
    have hsu := stWo_ok c15
    refine wp_aload_n C 0 dX11_worth_20 rfl rfl ?_
    refine wp_getR C dX11_worth_21 fX11_worth_19 (hK.1.ob 0 (by decide) rfl) (hK.1.rf 0 1 2 (by decide)) ?_
    refine wp_iload_n C 1 dX11_worth_24 rfl rfl ?_
    refine wp_iload_n C 2 dX11_worth_25 rfl rfl ?_
    refine wp_iload_n C 3 dX11_worth_26 rfl rfl ?_
    refine wp_cVv C (As := [.int x, .int e, .int v]) (rest := []) dX11_worth_27 kX11_worth_115 (hK.1.ob 2 (by decide) rfl) (c_changeWorthM _ hK.1 (by omega) (by omega)) rfl (Nat.le_of_ble_eq_true rfl) (by decide) (by decide) ?_
    refine wp_iconst C 1 dX11_worth_30 (by decide) ?_
    have e0 : nI (stWo a x e v) = 0 := by rw [c15]; rfl
    exact wp_zret C Z dX11_worth_31 (by decide) (by decide) (by decide) ⟨by rw [bI_t c15], (((FrC.rf T I J R ca).pI (by decide) 5 _).pI (by decide) _ _).pI (by decide) 6 _, by unfold aWo; rw [if_pos c15, e0]; exact (hK.st 0).worth (by rw [u2_k _ _ _ _ (by decide)]; omega) (by rw [u2_k _ _ _ _ (by decide)]; omega) hsu.2.2⟩
  · have c15 : ¬ stWo a x e v = 0 := fun z => c15 (by rw [z]; rfl)
    refine wp_iconst C 0 dX11_worth_18 (by decide) ?_
    exact wp_zret C Z dX11_worth_19 (by decide) (by decide) (by decide) ⟨by rw [bI_f c15], (FrC.rf T I J R ca).pI (by decide) 5 _, by unfold aWo; rw [if_neg c15]; exact hK.st _⟩
set_option maxRecDepth 100000 in
set_option maxHeartbeats 4000000 in
theorem m_agent (l : Launch) {T : gSh} {I : gI} {J : gJ} {R : gR} {m : Nat} {ad : Nat → Nat} (hM : MO T R m ad) {a : gI} {n : gJ} (hA : MA I J m ad a n) (hN : okN a) : Con l yX12_agent wsX12_agent ({ frames := 1, cells := 0, slots := 0, locals := 21 }) [.ref m] T I J R (PZ T I J R m ad (.int (if stAg a = 0 then a 0 7 else -1)) (aAg a) n) := by
  refine Con.mk (cc := cX12_agent) (maxL := 1) (ret := (some .int)) (by decide) rfl (Nat.le_of_ble_eq_true rfl) ?_
  intro E hE C Z hnm
  subst hE
  change WP E 1 0 0 T I J R 0 [(0, .ref m)] []
  have hN1 := hN.1
  refine wp_aload_n C 0 dX12_agent_0 rfl rfl ?_
  refine wp_iconst C 0 dX12_agent_1 (by decide) ?_
  refine wp_putI C dX12_agent_2 pX12_agent_134 (fun h => nomatch h) hM.ob ?_
  refine wp_aload_n C 0 dX12_agent_5 rfl rfl ?_
  refine wp_iconst C 0 dX12_agent_6 (by decide) ?_
  refine wp_putI C dX12_agent_7 pX12_agent_137 (fun h => nomatch h) hM.ob ?_
  refine wp_aload_n C 0 dX12_agent_10 rfl rfl ?_
  refine wp_getI C dX12_agent_11 fX12_agent_158 hM.ob ?_
  refine wp_eqi (((u2_k _ _ _ _ (by decide) _).trans (u2_k _ _ _ _ (by decide) _)).trans (hA.1 7 (by decide))) ?_
  refine wp_bipush C 8 dX12_agent_14 (by decide) ?_
  refine wp_icmp_ne C 26 dX12_agent_16 (by decide) (fun c16 => ?_) (fun c16 => ?_)
  · have c16 : ¬ (a 0 7).toInt = 8 := by have hcv := n_eq c16; exact hcv
    refine wp_aload_n C 0 dX12_agent_26 rfl rfl ?_
    refine wp_dup C dX12_agent_27 rfl ?_
    refine wp_getI C dX12_agent_28 fX12_agent_158 hM.ob ?_
    refine wp_eqi (((u2_k _ _ _ _ (by decide) _).trans (u2_k _ _ _ _ (by decide) _)).trans (hA.1 7 (by decide))) ?_
    refine wp_iconst C 1 dX12_agent_31 (by decide) ?_
    refine wp_iadd C dX12_agent_32 ?_
    refine wp_putI C dX12_agent_33 pX12_agent_158 (fun h => nomatch h) hM.ob ?_
    refine wp_aload_n C 0 dX12_agent_36 rfl rfl ?_
    refine wp_getI C dX12_agent_37 fX12_agent_158 hM.ob ?_
    refine wp_eqi (u2_s _ _ _ _) ?_
    refine wp_iconst C 1 dX12_agent_40 (by decide) ?_
    refine wp_isub C dX12_agent_41 ?_
    have hs0 : stAg a = 0 := by simp only [stAg]; (repeat' split) <;> omega
    exact wp_iret C Z dX12_agent_42 (by decide) (by decide) ⟨by rw [if_pos hs0, Int32.add_sub_cancel], rfl, rfl, by unfold aAg; rw [if_pos hs0]; exact ((((MX.i hA).t hM 0).f hM 0 0).f hM 7 ((a 0 7) + 1))⟩
  · have c16 : (a 0 7).toInt = 8 := by have hcv := p_eq c16; exact hcv
    refine wp_aload_n C 0 dX12_agent_19 rfl rfl ?_
    refine wp_bipush C 7 dX12_agent_20 (by decide) ?_
    refine wp_cVi C (As := [.int 7]) (rest := []) dX12_agent_22 kX12_agent_164 hM.ob (m_refuse _ hM 7) rfl (Nat.le_of_ble_eq_true rfl) (by decide) (by decide) ?_
    have hst : stAg a = 7 := by simp only [stAg]; (repeat' split) <;> omega
    have hs0 : ¬ stAg a = 0 := by rw [hst]; decide
    exact wp_iret C Z dX12_agent_25 (by decide) (by decide) ⟨by rw [if_neg hs0], rfl, rfl, by unfold aAg; rw [if_neg hs0, hst]; exact MX.no hA hM 7⟩
set_option maxRecDepth 100000 in
set_option maxHeartbeats 4000000 in
theorem m_editor (l : Launch) {T : gSh} {I : gI} {J : gJ} {R : gR} {m : Nat} {ad : Nat → Nat} (hM : MO T R m ad) {a : gI} {n : gJ} (hA : MA I J m ad a n) (hN : okN a) : Con l yX12_editor wsX12_editor ({ frames := 1, cells := 0, slots := 0, locals := 21 }) [.ref m] T I J R (PZ T I J R m ad (.int (if stEd a = 0 then a 0 8 else -1)) (aEd a) n) := by
  refine Con.mk (cc := cX12_editor) (maxL := 1) (ret := (some .int)) (by decide) rfl (Nat.le_of_ble_eq_true rfl) ?_
  intro E hE C Z hnm
  subst hE
  change WP E 1 0 0 T I J R 0 [(0, .ref m)] []
  have hN1 := hN.2.1
  refine wp_aload_n C 0 dX12_editor_0 rfl rfl ?_
  refine wp_iconst C 0 dX12_editor_1 (by decide) ?_
  refine wp_putI C dX12_editor_2 pX12_editor_134 (fun h => nomatch h) hM.ob ?_
  refine wp_aload_n C 0 dX12_editor_5 rfl rfl ?_
  refine wp_iconst C 0 dX12_editor_6 (by decide) ?_
  refine wp_putI C dX12_editor_7 pX12_editor_137 (fun h => nomatch h) hM.ob ?_
  refine wp_aload_n C 0 dX12_editor_10 rfl rfl ?_
  refine wp_getI C dX12_editor_11 fX12_editor_161 hM.ob ?_
  refine wp_eqi (((u2_k _ _ _ _ (by decide) _).trans (u2_k _ _ _ _ (by decide) _)).trans (hA.1 8 (by decide))) ?_
  refine wp_bipush C 10 dX12_editor_14 (by decide) ?_
  refine wp_icmp_ne C 26 dX12_editor_16 (by decide) (fun c16 => ?_) (fun c16 => ?_)
  · have c16 : ¬ (a 0 8).toInt = 10 := by have hcv := n_eq c16; exact hcv
    refine wp_aload_n C 0 dX12_editor_26 rfl rfl ?_
    refine wp_dup C dX12_editor_27 rfl ?_
    refine wp_getI C dX12_editor_28 fX12_editor_161 hM.ob ?_
    refine wp_eqi (((u2_k _ _ _ _ (by decide) _).trans (u2_k _ _ _ _ (by decide) _)).trans (hA.1 8 (by decide))) ?_
    refine wp_iconst C 1 dX12_editor_31 (by decide) ?_
    refine wp_iadd C dX12_editor_32 ?_
    refine wp_putI C dX12_editor_33 pX12_editor_161 (fun h => nomatch h) hM.ob ?_
    refine wp_aload_n C 0 dX12_editor_36 rfl rfl ?_
    refine wp_getI C dX12_editor_37 fX12_editor_161 hM.ob ?_
    refine wp_eqi (u2_s _ _ _ _) ?_
    refine wp_iconst C 1 dX12_editor_40 (by decide) ?_
    refine wp_isub C dX12_editor_41 ?_
    have hs0 : stEd a = 0 := by simp only [stEd]; (repeat' split) <;> omega
    exact wp_iret C Z dX12_editor_42 (by decide) (by decide) ⟨by rw [if_pos hs0, Int32.add_sub_cancel], rfl, rfl, by unfold aEd; rw [if_pos hs0]; exact ((((MX.i hA).t hM 0).f hM 0 0).f hM 8 ((a 0 8) + 1))⟩
  · have c16 : (a 0 8).toInt = 10 := by have hcv := p_eq c16; exact hcv
    refine wp_aload_n C 0 dX12_editor_19 rfl rfl ?_
    refine wp_bipush C 7 dX12_editor_20 (by decide) ?_
    refine wp_cVi C (As := [.int 7]) (rest := []) dX12_editor_22 kX12_editor_164 hM.ob (m_refuse _ hM 7) rfl (Nat.le_of_ble_eq_true rfl) (by decide) (by decide) ?_
    have hst : stEd a = 7 := by simp only [stEd]; (repeat' split) <;> omega
    have hs0 : ¬ stEd a = 0 := by rw [hst]; decide
    exact wp_iret C Z dX12_editor_25 (by decide) (by decide) ⟨by rw [if_neg hs0], rfl, rfl, by unfold aEd; rw [if_neg hs0, hst]; exact MX.no hA hM 7⟩
set_option maxRecDepth 100000 in
set_option maxHeartbeats 4000000 in
theorem m_hours (l : Launch) {T : gSh} {I : gI} {J : gJ} {R : gR} {m : Nat} {ad : Nat → Nat} (hM : MO T R m ad) {a : gI} {n : gJ} (hA : MA I J m ad a n) (v : Int32) : Con l yX12_hours wsX12_hours ({ frames := 1, cells := 0, slots := 0, locals := 21 }) [.ref m, .int v] T I J R (PZ T I J R m ad (.int (bI (stHo v = 0))) (aHo a v) n) := by
  refine Con.mk (cc := cX12_hours) (maxL := 2) (ret := (some .boolean)) (by decide) rfl (Nat.le_of_ble_eq_true rfl) ?_
  intro E hE C Z hnm
  subst hE
  change WP E 2 0 0 T I J R 0 [(0, .ref m), (1, .int v)] []
  refine wp_aload_n C 0 dX12_hours_0 rfl rfl ?_
  refine wp_iconst C 0 dX12_hours_1 (by decide) ?_
  refine wp_putI C dX12_hours_2 pX12_hours_134 (fun h => nomatch h) hM.ob ?_
  refine wp_aload_n C 0 dX12_hours_5 rfl rfl ?_
  refine wp_iconst C 0 dX12_hours_6 (by decide) ?_
  refine wp_putI C dX12_hours_7 pX12_hours_137 (fun h => nomatch h) hM.ob ?_
  refine wp_iload_n C 1 dX12_hours_10 rfl rfl ?_
  refine wp_iconst C 1 dX12_hours_11 (by decide) ?_
  refine wp_icmp_lt C 21 dX12_hours_12 (by decide) (fun c12 => ?_) (fun c12 => ?_)
  · have c12 : v.toInt < 1 := by have hcv := p_lt c12; exact hcv
    refine wp_aload_n C 0 dX12_hours_21 rfl rfl ?_
    refine wp_iconst C 2 dX12_hours_22 (by decide) ?_
    refine wp_cVi C (As := [.int 2]) (rest := []) dX12_hours_23 kX12_hours_140 hM.ob (m_no _ hM 2) rfl (Nat.le_of_ble_eq_true rfl) (by decide) (by decide) ?_
    have hst : stHo v = 2 := by simp only [stHo]; (repeat' split) <;> omega
    have hs0 : ¬ stHo v = 0 := by rw [hst]; decide
    exact wp_zret C Z dX12_hours_26 (by decide) (by decide) (by decide) ⟨by rw [bI_f hs0], rfl, rfl, by unfold aHo; rw [if_neg hs0, hst]; exact MX.no hA hM 2⟩
  · have c12 : ¬ v.toInt < 1 := by have hcv := n_lt c12; exact hcv
    refine wp_iload_n C 1 dX12_hours_15 rfl rfl ?_
    refine wp_bipush C 8 dX12_hours_16 (by decide) ?_
    refine wp_icmp_le C 27 dX12_hours_18 (by decide) (fun c18 => ?_) (fun c18 => ?_)
    · have c18 : v.toInt ≤ 8 := by have hcv := p_le c18; exact hcv
      refine wp_aload_n C 0 dX12_hours_27 rfl rfl ?_
      refine wp_iload_n C 1 dX12_hours_28 rfl rfl ?_
      refine wp_putI C dX12_hours_29 pX12_hours_24 (fun h => nomatch h) hM.ob ?_
      refine wp_iconst C 1 dX12_hours_32 (by decide) ?_
      have hs0 : stHo v = 0 := by simp only [stHo]; (repeat' split) <;> omega
      exact wp_zret C Z dX12_hours_33 (by decide) (by decide) (by decide) ⟨by rw [bI_t hs0], rfl, rfl, by unfold aHo; rw [if_pos hs0]; exact ((((MX.i hA).t hM 0).f hM 0 0).f hM 9 v)⟩
    · have c18 : ¬ v.toInt ≤ 8 := by have hcv := n_le c18; exact hcv
      refine wp_aload_n C 0 dX12_hours_21 rfl rfl ?_
      refine wp_iconst C 2 dX12_hours_22 (by decide) ?_
      refine wp_cVi C (As := [.int 2]) (rest := []) dX12_hours_23 kX12_hours_140 hM.ob (m_no _ hM 2) rfl (Nat.le_of_ble_eq_true rfl) (by decide) (by decide) ?_
      have hst : stHo v = 2 := by simp only [stHo]; (repeat' split) <;> omega
      have hs0 : ¬ stHo v = 0 := by rw [hst]; decide
      exact wp_zret C Z dX12_hours_26 (by decide) (by decide) (by decide) ⟨by rw [bI_f hs0], rfl, rfl, by unfold aHo; rw [if_neg hs0, hst]; exact MX.no hA hM 2⟩
set_option maxRecDepth 100000 in
set_option maxHeartbeats 4000000 in
theorem m_worth (l : Launch) {T : gSh} {I : gI} {J : gJ} {R : gR} {m : Nat} {ad : Nat → Nat} (hM : MO T R m ad) {a : gI} {n : gJ} (hA : MA I J m ad a n) (hN : okN a) (x e v : Int32) : Con l yX12_worth wsX12_worth ({ frames := 1, cells := 0, slots := 0, locals := 21 }) [.ref m, .int x, .int e, .int v] T I J R (PZ T I J R m ad (.int (bI (stWo a x e v = 0))) (aWo a x e v) n) := by
  refine Con.mk (cc := cX12_worth) (maxL := 4) (ret := (some .boolean)) (by decide) rfl (Nat.le_of_ble_eq_true rfl) ?_
  intro E hE C Z hnm
  subst hE
  change WP E 4 0 0 T I J R 0 [(0, .ref m), (1, .int x), (2, .int e), (3, .int v)] []
  unfold okN at hN
  refine wp_aload_n C 0 dX12_worth_0 rfl rfl ?_
  refine wp_iconst C 0 dX12_worth_1 (by decide) ?_
  refine wp_putI C dX12_worth_2 pX12_worth_134 (fun h => nomatch h) hM.ob ?_
  refine wp_aload_n C 0 dX12_worth_5 rfl rfl ?_
  refine wp_iconst C 0 dX12_worth_6 (by decide) ?_
  refine wp_putI C dX12_worth_7 pX12_worth_137 (fun h => nomatch h) hM.ob ?_
  refine wp_aload_n C 0 dX12_worth_10 rfl rfl ?_
  refine wp_iload_n C 1 dX12_worth_11 rfl rfl ?_
  refine wp_cVi C (As := [.int x]) (rest := []) dX12_worth_12 kX12_worth_167 hM.ob (m_isAgent _ hM x) rfl (Nat.le_of_ble_eq_true rfl) (by decide) (by decide) ?_
  refine wp_eqi (congrArg (fun z : Int32 => bI (0 ≤ x.toInt ∧ x.toInt < z.toInt)) (((u2_k _ _ _ _ (by decide) _).trans (u2_k _ _ _ _ (by decide) _)).trans (hA.1 7 (by decide)))) ?_
  refine wp_if_eq C 26 dX12_worth_15 (by decide) (fun c15 => ?_) (fun c15 => ?_)
  · have c15 : ¬ (0 ≤ x.toInt ∧ x.toInt < (a 0 7).toInt) := fun z => absurd ((bI_t z).symm.trans c15) (by decide)
    refine wp_aload_n C 0 dX12_worth_26 rfl rfl ?_
    refine wp_iconst C 1 dX12_worth_27 (by decide) ?_
    refine wp_cVi C (As := [.int 1]) (rest := []) dX12_worth_28 kX12_worth_140 hM.ob (m_no _ hM 1) rfl (Nat.le_of_ble_eq_true rfl) (by decide) (by decide) ?_
    have hst : stWo a x e v = 1 := by simp only [stWo]; (repeat' split) <;> omega
    have hs0 : ¬ stWo a x e v = 0 := by rw [hst]; decide
    exact wp_zret C Z dX12_worth_31 (by decide) (by decide) (by decide) ⟨by rw [bI_f hs0], rfl, rfl, by unfold aWo; rw [if_neg hs0, hst]; exact MX.no hA hM 1⟩
  · have c15 : (0 ≤ x.toInt ∧ x.toInt < (a 0 7).toInt) := Classical.byContradiction (fun z => c15 (bI_f z))
    refine wp_aload_n C 0 dX12_worth_18 rfl rfl ?_
    refine wp_iload_n C 2 dX12_worth_19 rfl rfl ?_
    refine wp_cVi C (As := [.int e]) (rest := []) dX12_worth_20 kX12_worth_170 hM.ob (m_isEditor _ hM e) rfl (Nat.le_of_ble_eq_true rfl) (by decide) (by decide) ?_
    refine wp_eqi (congrArg (fun z : Int32 => bI (0 ≤ e.toInt ∧ e.toInt < z.toInt)) (((u2_k _ _ _ _ (by decide) _).trans (u2_k _ _ _ _ (by decide) _)).trans (hA.1 8 (by decide)))) ?_
    refine wp_if_ne C 32 dX12_worth_23 (by decide) (fun c23 => ?_) (fun c23 => ?_)
    · have c23 : (0 ≤ e.toInt ∧ e.toInt < (a 0 8).toInt) := Classical.byContradiction (fun z => c23 (bI_f z))
      refine wp_iload_n C 3 dX12_worth_32 rfl rfl ?_
      refine wp_if_lt C 42 dX12_worth_33 (by decide) (fun c33 => ?_) (fun c33 => ?_)
      · have c33 : v.toInt < 0 := by have hcv := p_lt c33; exact hcv
        refine wp_aload_n C 0 dX12_worth_42 rfl rfl ?_
        refine wp_iconst C 2 dX12_worth_43 (by decide) ?_
        refine wp_cVi C (As := [.int 2]) (rest := []) dX12_worth_44 kX12_worth_140 hM.ob (m_no _ hM 2) rfl (Nat.le_of_ble_eq_true rfl) (by decide) (by decide) ?_
        have hst : stWo a x e v = 2 := by simp only [stWo]; (repeat' split) <;> omega
        have hs0 : ¬ stWo a x e v = 0 := by rw [hst]; decide
        exact wp_zret C Z dX12_worth_47 (by decide) (by decide) (by decide) ⟨by rw [bI_f hs0], rfl, rfl, by unfold aWo; rw [if_neg hs0, hst]; exact MX.no hA hM 2⟩
      · have c33 : ¬ v.toInt < 0 := by have hcv := n_lt c33; exact hcv
        refine wp_iload_n C 3 dX12_worth_36 rfl rfl ?_
        refine wp_bipush C 100 dX12_worth_37 (by decide) ?_
        refine wp_icmp_le C 48 dX12_worth_39 (by decide) (fun c39 => ?_) (fun c39 => ?_)
        · have c39 : v.toInt ≤ 100 := by have hcv := p_le c39; exact hcv
          refine wp_aload_n C 0 dX12_worth_48 rfl rfl ?_
          refine wp_getR C dX12_worth_49 fX12_worth_28 hM.ob (hM.rf 10 rfl) ?_
          refine wp_bipush C 10 dX12_worth_52 (by decide) ?_
          refine wp_iload_n C 1 dX12_worth_54 rfl rfl ?_
          refine wp_imul C dX12_worth_55 ?_
          refine wp_iload_n C 2 dX12_worth_56 rfl rfl ?_
          refine wp_iadd C dX12_worth_57 ?_
          refine wp_iload_n C 3 dX12_worth_58 rfl rfl ?_
          refine wp_iast C dX12_worth_59 (hM.ar 10 rfl rfl) (j := 10 * x.toInt.toNat + e.toInt.toNat) (ix10 (by omega) (by omega)) (by omega) (by decide) ?_
          refine wp_iconst C 1 dX12_worth_60 (by decide) ?_
          have hs0 : stWo a x e v = 0 := by simp only [stWo]; (repeat' split) <;> omega
          exact wp_zret C Z dX12_worth_61 (by decide) (by decide) (by decide) ⟨by rw [bI_t hs0], rfl, rfl, by unfold aWo; rw [if_pos hs0]; exact ((((MX.i hA).t hM 0).f hM 0 0).r hM 10 (by unfold mR; omega) (10 * x.toInt.toNat + e.toInt.toNat) v)⟩
        · have c39 : ¬ v.toInt ≤ 100 := by have hcv := n_le c39; exact hcv
          refine wp_aload_n C 0 dX12_worth_42 rfl rfl ?_
          refine wp_iconst C 2 dX12_worth_43 (by decide) ?_
          refine wp_cVi C (As := [.int 2]) (rest := []) dX12_worth_44 kX12_worth_140 hM.ob (m_no _ hM 2) rfl (Nat.le_of_ble_eq_true rfl) (by decide) (by decide) ?_
          have hst : stWo a x e v = 2 := by simp only [stWo]; (repeat' split) <;> omega
          have hs0 : ¬ stWo a x e v = 0 := by rw [hst]; decide
          exact wp_zret C Z dX12_worth_47 (by decide) (by decide) (by decide) ⟨by rw [bI_f hs0], rfl, rfl, by unfold aWo; rw [if_neg hs0, hst]; exact MX.no hA hM 2⟩
    · have c23 : ¬ (0 ≤ e.toInt ∧ e.toInt < (a 0 8).toInt) := fun z => absurd ((bI_t z).symm.trans c23) (by decide)
      refine wp_aload_n C 0 dX12_worth_26 rfl rfl ?_
      refine wp_iconst C 1 dX12_worth_27 (by decide) ?_
      refine wp_cVi C (As := [.int 1]) (rest := []) dX12_worth_28 kX12_worth_140 hM.ob (m_no _ hM 1) rfl (Nat.le_of_ble_eq_true rfl) (by decide) (by decide) ?_
      have hst : stWo a x e v = 1 := by simp only [stWo]; (repeat' split) <;> omega
      have hs0 : ¬ stWo a x e v = 0 := by rw [hst]; decide
      exact wp_zret C Z dX12_worth_31 (by decide) (by decide) (by decide) ⟨by rw [bI_f hs0], rfl, rfl, by unfold aWo; rw [if_neg hs0, hst]; exact MX.no hA hM 1⟩
