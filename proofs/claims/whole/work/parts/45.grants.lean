/-! ===== grants of the class ===== -/
def gN_ (a : gI) : Nat := (a 0 22).toInt.toNat
/-- the editor of the first grant that clashes -/
def ownV (a : gI) (b : Int32) (v : Nat → Int32) : Int32 := if own a (gN_ a) b v < gN_ a then a 29 (own a (gN_ a) b v) else -1
/-- 1 if one clashes -/
def clN (a : gI) (b : Int32) (v : Nat → Int32) : Nat := if own a (gN_ a) b v < gN_ a then 1 else 0
theorem clN_le (a : gI) (b : Int32) (v : Nat → Int32) : clN a b v ≤ 1 := by unfold clN; split <;> omega
theorem clN_st (a : gI) (s b : Int32) (v : Nat → Int32) : clN (u2 a 0 0 s) b v = clN a b v ∧ ownV (u2 a 0 0 s) b v = ownV a b v := by
  have e1 : gN_ (u2 a 0 0 s) = gN_ a := by unfold gN_; rw [u2_k _ _ _ _ (by decide)]
  have e2 : hitN (u2 a 0 0 s) b v = hitN a b v := by
    funext i
    unfold hitN lastI
    rw [u2_rown _ _ _ _ (show (28 : Nat) ≠ 0 by decide), u2_rown _ _ _ _ (show (30 : Nat) ≠ 0 by decide), u2_rown _ _ _ _ (show (31 : Nat) ≠ 0 by decide), u2_rown _ _ _ _ (show (32 : Nat) ≠ 0 by decide), u2_rown _ _ _ _ (show (33 : Nat) ≠ 0 by decide), u2_rown _ _ _ _ (show (34 : Nat) ≠ 0 by decide), u2_rown _ _ _ _ (show (35 : Nat) ≠ 0 by decide)]
  unfold clN ownV own
  rw [e1, e2, u2_rown _ _ _ _ (show (29 : Nat) ≠ 0 by decide)]
  exact ⟨rfl, rfl⟩
def stGr (a : gI) (b e : Int32) (v : Nat → Int32) : Nat := if (0 ≤ b.toInt ∧ b.toInt < (a 0 21).toInt) ∧ (0 ≤ e.toInt ∧ e.toInt < (a 0 8).toInt) then (if can v = 1 then (if (a 0 22).toInt < 60 then (if clN a b v = 1 then 10 else 0) else 7) else 2) else 1
theorem stGr_le (a : gI) (b e : Int32) (v : Nat → Int32) : stGr a b e v ≤ 10 := by simp only [stGr]; (repeat' split) <;> omega
theorem stGr_ok {a : gI} {b e : Int32} {v : Nat → Int32} (z : stGr a b e v = 0) : ((0 ≤ b.toInt ∧ b.toInt < (a 0 21).toInt) ∧ (0 ≤ e.toInt ∧ e.toInt < (a 0 8).toInt)) ∧ can v = 1 ∧ (a 0 22).toInt < 60 ∧ clN a b v = 0 := by
  have := clN_le a b v
  simp only [stGr] at z; (repeat' split at z) <;> omega
/-- a grant more -/
def aGr (a : gI) (b e : Int32) (v : Nat → Int32) : gI := u2 (u2 (u2 (u2 (u2 (u2 (u2 (u2 (u2 a 28 (gN_ a) b) 29 (gN_ a) e) 30 (gN_ a) (v 0)) 31 (gN_ a) (v 1)) 32 (gN_ a) (v 2)) 33 (gN_ a) (v 3)) 34 (gN_ a) (v 4)) 35 (gN_ a) (-1)) 0 22 (a 0 22 + 1)
def aGrant (a : gI) (b e : Int32) (v : Nat → Int32) : gI := if stGr a b e v = 0 then aGr (u2 a 0 0 0) b e v else u2 a 0 0 (nI (stGr a b e v))
theorem aGr_o {a : gI} {b e : Int32} {v : Nat → Int32} {r i : Nat} (hr : r ≠ 0) (hi : i ≠ gN_ a) : aGr a b e v r i = a r i := by
  unfold aGr
  rw [u2_a _ _ _ _ hr, u2_k _ _ _ _ hi, u2_k _ _ _ _ hi, u2_k _ _ _ _ hi, u2_k _ _ _ _ hi, u2_k _ _ _ _ hi, u2_k _ _ _ _ hi, u2_k _ _ _ _ hi, u2_k _ _ _ _ hi]
theorem aGr_f {a : gI} {b e : Int32} {v : Nat → Int32} {i : Nat} (hi : i ≠ 22) : aGr a b e v 0 i = a 0 i := by
  unfold aGr
  rw [u2_k _ _ _ _ hi, u2_a _ _ _ _ (by decide), u2_a _ _ _ _ (by decide), u2_a _ _ _ _ (by decide), u2_a _ _ _ _ (by decide), u2_a _ _ _ _ (by decide), u2_a _ _ _ _ (by decide), u2_a _ _ _ _ (by decide), u2_a _ _ _ _ (by decide)]
theorem aGr_r {a : gI} {b e : Int32} {v : Nat → Int32} {r : Nat} (h0 : r ≠ 0) (hr : r < 28 ∨ 35 < r) : aGr a b e v r = a r := by
  unfold aGr
  rw [u2_rown _ _ _ _ h0, u2_rown _ _ _ _ (by omega), u2_rown _ _ _ _ (by omega), u2_rown _ _ _ _ (by omega), u2_rown _ _ _ _ (by omega), u2_rown _ _ _ _ (by omega), u2_rown _ _ _ _ (by omega), u2_rown _ _ _ _ (by omega), u2_rown _ _ _ _ (by omega)]
theorem aGr_g (a : gI) (b e : Int32) (v : Nat → Int32) : aGr a b e v 28 (gN_ a) = b ∧ aGr a b e v 29 (gN_ a) = e ∧ aGr a b e v 30 (gN_ a) = v 0 ∧ aGr a b e v 31 (gN_ a) = v 1 ∧ aGr a b e v 32 (gN_ a) = v 2 ∧ aGr a b e v 33 (gN_ a) = v 3 ∧ aGr a b e v 34 (gN_ a) = v 4 ∧ aGr a b e v 35 (gN_ a) = -1 ∧ aGr a b e v 0 22 = a 0 22 + 1 := by
  unfold aGr
  simp [u2]
theorem GO.of {T : gSh} {I : gI} {R : gR} {ca : Nat → Nat} {a : gI} {ga ra : Nat → Nat} {i : Nat} (h : R (ca 27) i = some (ga i) ∧ OB T (ga i) 3 ∧ R (ga i) 2 = some (ra i) ∧ RI T I (ra i) (gv a i) ∧ vR (gv a i) ∧ I (ga i) 0 = a 28 i ∧ I (ga i) 1 = a 29 i ∧ 0 ≤ (a 29 i).toInt ∧ (((a 35 i).toInt = -1 ∧ I (ga i) 3 = 0) ∨ ((0 ≤ (a 35 i).toInt ∧ (a 35 i).toInt ≤ 9999) ∧ I (ga i) 3 = 1)) ∧ (I (ga i) 4).toInt = lastI a i) : GO T I R (ga i) (ra i) a i :=
  ⟨h.2.1, h.2.2.1, h.2.2.2.1, h.2.2.2.2.1, h.2.2.2.2.2.1, h.2.2.2.2.2.2.1, h.2.2.2.2.2.2.2.1, h.2.2.2.2.2.2.2.2.2⟩
theorem KG.ar {T : gSh} {I : gI} {R : gR} {ca : Nat → Nat} {a : gI} (k : KG T I R ca a) : I (ca 3) 3 = a 0 22 ∧ 0 ≤ (a 0 22).toInt ∧ (a 0 22).toInt ≤ 60 ∧ (∀ i, i < gN_ a → 0 ≤ (a 29 i).toInt) := by
  obtain ⟨g, k1, k2, k3, ga, ra, k4, -⟩ := k
  have e : gN_ a = g := by unfold gN_; rw [k3, nI_toInt (by omega)]; rfl
  refine ⟨k2.trans k3.symm, by rw [k3, nI_toInt (by omega)]; omega, by rw [k3, nI_toInt (by omega)]; omega, fun i hi => (k4 i (by omega)).2.2.2.2.2.2.2.1⟩
theorem ownV_s {T : gSh} {I : gI} {R : gR} {ca : Nat → Nat} {a : gI} (k : KG T I R ca a) (b : Int32) (v : Nat → Int32) : ownV a b v = -1 ↔ clN a b v = 0 := by
  unfold ownV clN
  by_cases h : own a (gN_ a) b v < gN_ a
  · rw [if_pos h, if_pos h]
    exact ⟨fun z => absurd ((k.ar).2.2.2 _ h) (by rw [z]; decide), fun z => absurd z (by decide)⟩
  · rw [if_neg h, if_neg h]; exact ⟨fun _ => rfl, fun _ => rfl⟩
section KAg
variable {T T1 : gSh} {I I2 : gI} {J J1 : gJ} {R R2 : gR} {ca : Nat → Nat} {a : gI} {n : gJ}
theorem KA.addG (k : KA T I J R ca a n) {r q : Nat} {b e : Int32} {v : Nat → Int32} (hr : RI T I r v) (hv : vR v) (he : 0 ≤ e.toInt) (h60 : (a 0 22).toInt < 60) (hc : clN a b v = 0) (hx : ExL T T1 I I2 J J1 R R2 ca [3, 27]) (hq : q ∉ T.1) (ho : OB T1 q 3) (q0 : I2 q 0 = b) (q1 : I2 q 1 = e) (q3 : I2 q 3 = 0) (q4 : I2 q 4 = v 4) (q2 : R2 q 2 = some r) (c0 : I2 (ca 3) 0 = I (ca 3) 0) (c3 : I2 (ca 3) 3 = a 0 22 + 1) (c5 : I2 (ca 3) 5 = I (ca 3) 5) (r3 : R2 (ca 3) = R (ca 3)) (r27 : R2 (ca 27) (gN_ a) = some q) (r27o : ∀ i, i ≠ gN_ a → R2 (ca 27) i = R (ca 27) i) : KA T1 I2 J1 R2 ca (aGr a b e v) n := by
  have hC := k.1
  have kg := k.2.2.2.2.2.2.1
  obtain ⟨g, k1, k2, k3, ga, ra, k4, k5, k6⟩ := kg
  have eg : gN_ a = g := by unfold gN_; rw [k3, nI_toInt (by omega)]; rfl
  have g60 : g < 60 := by rw [k3, nI_toInt (by omega)] at h60; omega
  obtain ⟨w28, w29, w30, w31, w32, w33, w34, w35, w22⟩ := aGr_g a b e v
  rw [eg] at w28 w29 w30 w31 w32 w33 w34 w35 r27 r27o
  have o : ∀ {r i : Nat}, r ≠ 0 → i ≠ g → aGr a b e v r i = a r i := fun h1 h2 => aGr_o h1 (by rw [eg]; exact h2)
  have lo : ∀ i, i ≠ g → lastI (aGr a b e v) i = lastI a i := fun i hi => by unfold lastI; rw [o (by decide) hi, o (by decide) hi]
  have ln : lastI (aGr a b e v) g = (v 4).toInt := by unfold lastI; rw [w35, w34]; exact if_pos (by decide)
  have hno : ∀ i, i < g → hitN a b v i ≠ 0 := by
    intro i hi z
    have h := ff_sp (hitN a b v) g
    have hlt : ¬ ff (hitN a b v) g < g := by
      intro y
      have hc2 := hc
      unfold clN own at hc2
      rw [eg, if_pos y] at hc2
      exact absurd hc2 (by decide)
    exact h.2.2 i (by omega) z
  refine k.onB hx (by decide) r3 (k.2.2.2.2.2.1.ex hC hx (by decide) c0 (aGr_f (by decide)) (aGr_r (by decide) (by omega)) (aGr_r (by decide) (by omega))) ?_ (k.2.2.2.2.2.2.2.1.ex hC hx (by decide) c5 (aGr_f (by decide)) (fun r h1 h2 => aGr_r (by omega) (by omega))) (fun i hi => aGr_f (by omega)) (fun r h1 h2 => aGr_r h1 (by omega))
  refine ⟨g + 1, by omega, by rw [c3, k3, nI_1], by rw [w22, k3, nI_1], va_up ga g q, va_up ra g r, fun i hi => ?_, fun i j hi hj z => ?_, fun i j hij hj => ?_⟩
  · by_cases ei : i = g
    · subst ei
      rw [vu_s, vu_s]
      have hd := hx.dy hC hr.1 (by unfold dyn; omega)
      have ev : ∀ k, k < 5 → gv (aGr a b e v) i k = v k := by
        intro k hk
        unfold gv
        rcases (show k = 0 ∨ k = 1 ∨ k = 2 ∨ k = 3 ∨ k = 4 by omega) with rfl | rfl | rfl | rfl | rfl
        · exact w30
        · exact w31
        · exact w32
        · exact w33
        · exact w34
      refine ⟨r27, ho, q2, ⟨hr.1.gr hx.1, fun k hk => by rw [hd.1, ev k hk]; exact hr.2 k hk⟩, ?_, by rw [q0, w28], by rw [q1, w29], by rw [w29]; exact he, Or.inl ⟨by rw [w35]; rfl, q3⟩, by rw [ln, q4]⟩
      unfold vR at hv ⊢
      rw [ev 0 (by omega), ev 1 (by omega), ev 2 (by omega), ev 3 (by omega), ev 4 (by omega)]
      exact hv
    · have hig : i < g := by omega
      obtain ⟨p1, p2, p3, p4, p5, p6, p7, p8, p9, p10⟩ := k4 i hig
      rw [vu_n _ _ ei, vu_n _ _ ei]
      have d1 := hx.dy hC p2 (by unfold dyn; omega)
      have d2 := hx.dy hC p4.1 (by unfold dyn; omega)
      have ev : gv (aGr a b e v) i = gv a i := by funext k; exact o (by omega) ei
      rw [ev, lo i ei, o (by decide) ei, o (by decide) ei, o (by decide) ei, d1.1]
      exact ⟨(r27o i ei).trans p1, p2.gr hx.1, by rw [d1.2.2]; exact p3, ⟨p4.1.gr hx.1, fun k hk => by rw [d2.1]; exact p4.2 k hk⟩, p5, p6, p7, p8, p9, p10⟩
  · have hqn : ∀ i, i < g → ga i ≠ q := fun i hi z => hq (z ▸ (k4 i hi).2.1.1)
    by_cases ei : i = g
    · by_cases ej : j = g
      · omega
      · rw [ei, vu_s, vu_n _ _ ej] at z; exact absurd z.symm (hqn j (by omega))
    · by_cases ej : j = g
      · rw [ej, vu_s, vu_n _ _ ei] at z; exact absurd z (hqn i (by omega))
      · rw [vu_n _ _ ei, vu_n _ _ ej] at z; exact k5 i j (by omega) (by omega) z
  · have ei : i ≠ g := by omega
    rw [o (by decide) ei, o (by decide) ei, o (by decide) ei, o (by decide) ei, o (by decide) ei, lo i ei]
    by_cases ej : j = g
    · subst ej
      rw [w28, w30, w31, w32, w33, ln]
      intro z
      exact hno i hij (hitN_0.mpr ⟨z.1, z.2.1, z.2.2.1, z.2.2.2.1, by have := hv.2.2.2.2.2; omega, z.2.2.2.2.1, z.2.2.2.2.2.1, z.2.2.2.2.2.2.1⟩)
    · rw [o (by decide) ej, o (by decide) ej, o (by decide) ej, o (by decide) ej, o (by decide) ej, lo j ej]
      exact k6 i j hij (by omega)
end KAg
set_option maxRecDepth 100000 in
set_option maxHeartbeats 4000000 in
theorem c_ownerOf (l : Launch) {T : gSh} {I : gI} {J : gJ} {R : gR} {ca : Nat → Nat} {a : gI} {n : gJ} (hK : KA T I J R ca a n) {s : Nat} {v : Nat → Int32} (hs : RI T I s v) (hv : vB v) (b : Int32) : Con l yX2_ownerOf wsX2_ownerOf ({ frames := 3, cells := 0, slots := 0, locals := 65 }) [.ref (ca 3), .int b, .ref s] T I J R (gP (some (.int (ownV a b v))) T I J R) := by
  refine Con.mk (cc := cX2_ownerOf) (maxL := 4) (ret := (some .int)) (by decide) rfl (Nat.le_of_ble_eq_true rfl) ?_
  intro E hE C Z hnm
  subst hE
  change WP E 4 0 0 T I J R 0 [(0, .ref (ca 3)), (1, .int b), (2, .ref s)] []
  obtain ⟨g, g60, e33, e22, ga, ra, k4, -⟩ := hK.2.2.2.2.2.2.1
  have eg : gN_ a = g := by unfold gN_; rw [e22, nI_toInt (by omega)]; rfl
  have loop : ∀ i, i ≤ g → (∀ j, j < i → hitN a b v j ≠ 0) → ∀ lv, lv_pick lv [0, 1, 2, 3] = [(0, .ref (ca 3)), (1, .int b), (2, .ref s), (3, .int (nI i))] → WP E 4 0 0 T I J R 2 lv [] := by
    refine loopN g (fun i hi ih => ?_)
    intro hno lv hlv
    refine wp_lv [0, 1, 2, 3] hlv ?_
    refine wp_iload_n C 3 dX2_ownerOf_2 rfl rfl ?_
    refine wp_aload_n C 0 dX2_ownerOf_3 rfl rfl ?_
    refine wp_getI C dX2_ownerOf_4 fX2_ownerOf_22 (hK.1.ob 3 (by decide) rfl) ?_
    refine wp_eqi e33 ?_
    refine wp_icmp_ge C 40 dX2_ownerOf_7 (by decide) (fun c7 => ?_) (fun c7 => ?_)
    · have c7 : ((g : Nat) : Int) ≤ ((i : Nat) : Int) := by have hcv := p_le c7; rw [nI_toInt (show g < 2 ^ 31 by omega), nI_toInt (show i < 2 ^ 31 by omega)] at hcv; exact hcv
      refine wp_iconst C (-1) dX2_ownerOf_40 (by decide) ?_
      have e9 : g = i := by omega
      exact wp_iret C Z dX2_ownerOf_41 (by decide) (by decide) (by rw [show ownV a b v = -1 from by unfold ownV own; rw [eg, ff_none (fun j hj => hno j (by omega)), if_neg (Nat.lt_irrefl g)]]; exact gP_rf)
    · have c7 : ¬ ((g : Nat) : Int) ≤ ((i : Nat) : Int) := by have hcv := n_le c7; rw [nI_toInt (show g < 2 ^ 31 by omega), nI_toInt (show i < 2 ^ 31 by omega)] at hcv; exact hcv
      refine wp_aload_n C 0 dX2_ownerOf_10 rfl rfl ?_
      refine wp_getR C dX2_ownerOf_11 fX2_ownerOf_27 (hK.1.ob 3 (by decide) rfl) (hK.1.rf 3 4 27 (by decide)) ?_
      refine wp_iload_n C 3 dX2_ownerOf_14 rfl rfl ?_
      refine wp_aald C RX3 dX2_ownerOf_15 (hK.1.ar 27 (by decide) rfl) (by decide) rfl (j := i) rfl (by omega) (by decide) (k4 i (by omega)).1 ?_
      refine wp_iload_n C 1 dX2_ownerOf_16 rfl rfl ?_
      refine wp_aload_n C 2 dX2_ownerOf_17 rfl rfl ?_
      have hcw := cwN_s (b := b) (GO.of (k4 i (by omega))).2.2.2.1.b hv
      refine wp_cVi C (As := [.int b, .ref s]) (rest := []) dX2_ownerOf_18 kX2_ownerOf_51 (k4 i (by omega)).2.1 (c_cellsWith _ (GO.of (k4 i (by omega))) hs hv b) rfl (Nat.le_of_ble_eq_true rfl) (by decide) (by decide) ?_
      refine wp_if_le C 34 dX2_ownerOf_21 (by decide) (fun c21 => ?_) (fun c21 => ?_)
      · have c21 : ((cwN a i b v : Nat) : Int) ≤ 0 := by have hcv := p_le c21; rw [nI_toInt (show cwN a i b v < 2 ^ 31 by omega)] at hcv; exact hcv
        refine wp_iinc C 3 (nI (i + 1)) [(3, .int (nI (i + 1))), (0, .ref (ca 3)), (1, .int b), (2, .ref s)] dX2_ownerOf_34 rfl (nI_1 i) (by decide) rfl ?_
        refine wp_goto C 2 dX2_ownerOf_37 (by decide) ?_
        refine wp_lv [1, 2, 3, 0] rfl ?_
        refine ih (i + 1) (by omega) (by omega) (fun j hj => ?_) _ rfl
        by_cases z : j = i
        · rw [z]; exact fun y => absurd (hcw.1.mpr y) (by omega)
        · exact hno j (by omega)
      · have c21 : ¬ ((cwN a i b v : Nat) : Int) ≤ 0 := by have hcv := n_le c21; rw [nI_toInt (show cwN a i b v < 2 ^ 31 by omega)] at hcv; exact hcv
        refine wp_aload_n C 0 dX2_ownerOf_24 rfl rfl ?_
        refine wp_getR C dX2_ownerOf_25 fX2_ownerOf_27 (hK.1.ob 3 (by decide) rfl) (hK.1.rf 3 4 27 (by decide)) ?_
        refine wp_iload_n C 3 dX2_ownerOf_28 rfl rfl ?_
        refine wp_aald C RX3 dX2_ownerOf_29 (hK.1.ar 27 (by decide) rfl) (by decide) rfl (j := i) rfl (by omega) (by decide) (k4 i (by omega)).1 ?_
        refine wp_getI C dX2_ownerOf_30 fX2_ownerOf_54 (k4 i (by omega)).2.1 ?_
        refine wp_eqi (k4 i (by omega)).2.2.2.2.2.2.1 ?_
        have hfi : ff (hitN a b v) g = i := ff_eq (by omega) (hcw.1.mp (by omega)) hno
        exact wp_iret C Z dX2_ownerOf_33 (by decide) (by decide) (by rw [show ownV a b v = a 29 i from by unfold ownV own; rw [eg, hfi, if_pos (by omega)]]; exact gP_rf)
  refine wp_iconst C 0 dX2_ownerOf_0 (by decide) ?_
  refine wp_istore_n C [(3, .int 0), (0, .ref (ca 3)), (1, .int b), (2, .ref s)] dX2_ownerOf_1 rfl (by decide) rfl ?_
  refine wp_lv [1, 2, 3, 0] rfl ?_
  exact loop 0 (by omega) (fun j hj => by omega) _ rfl
set_option maxRecDepth 100000 in
set_option maxHeartbeats 4000000 in
theorem c_wouldClash (l : Launch) {T : gSh} {I : gI} {J : gJ} {R : gR} {ca : Nat → Nat} {a : gI} {n : gJ} (hK : KA T I J R ca a n) {s : Nat} {v : Nat → Int32} (hs : RI T I s v) (hv : vB v) (b : Int32) : Con l yX2_wouldClash wsX2_wouldClash ({ frames := 4, cells := 0, slots := 0, locals := 88 }) [.ref (ca 3), .int b, .ref s] T I J R (gP (some (.int (nI (clN a b v)))) T I J R) := by
  refine Con.mk (cc := cX2_wouldClash) (maxL := 3) (ret := (some .boolean)) (by decide) rfl (Nat.le_of_ble_eq_true rfl) ?_
  intro E hE C Z hnm
  subst hE
  change WP E 3 0 0 T I J R 0 [(0, .ref (ca 3)), (1, .int b), (2, .ref s)] []
  have hle := clN_le a b v
  refine wp_aload_n C 0 dX2_wouldClash_0 rfl rfl ?_
  refine wp_iload_n C 1 dX2_wouldClash_1 rfl rfl ?_
  refine wp_aload_n C 2 dX2_wouldClash_2 rfl rfl ?_
  refine wp_cVi C (As := [.int b, .ref s]) (rest := []) dX2_wouldClash_3 kX2_wouldClash_47 (hK.1.ob 3 (by decide) rfl) (c_ownerOf _ hK hs hv b) rfl (Nat.le_of_ble_eq_true rfl) (by decide) (by decide) ?_
  refine wp_iconst C (-1) dX2_wouldClash_6 (by decide) ?_
  refine wp_icmp_eq C 14 dX2_wouldClash_7 (by decide) (fun c7 => ?_) (fun c7 => ?_)
  · have c7 : clN a b v = 0 := (ownV_s hK.2.2.2.2.2.2.1 b v).mp c7
    refine wp_iconst C 0 dX2_wouldClash_14 (by decide) ?_
    exact wp_zret C Z dX2_wouldClash_15 (by decide) (by decide) (by decide) (by rw [show clN a b v = 0 by omega]; exact gP_rf)
  · have c7 : ¬ clN a b v = 0 := fun z => c7 ((ownV_s hK.2.2.2.2.2.2.1 b v).mpr z)
    refine wp_iconst C 1 dX2_wouldClash_10 (by decide) ?_
    refine wp_goto C 15 dX2_wouldClash_11 (by decide) ?_
    exact wp_zret C Z dX2_wouldClash_15 (by decide) (by decide) (by decide) (by rw [show clN a b v = 1 by omega]; exact gP_rf)
set_option maxRecDepth 100000 in
set_option maxHeartbeats 4000000 in
theorem c_addGrant (l : Launch) {T : gSh} {I : gI} {J : gJ} {R : gR} {ca : Nat → Nat} {a : gI} {n : gJ} (hK : KA T I J R ca a n) {r : Nat} {v : Nat → Int32} (hr : RI T I r v) (hv : vR v) {b e : Int32} (he : 0 ≤ e.toInt) (h60 : (a 0 22).toInt < 60) (hc : clN a b v = 0) : Con l yX2_addGrant wsX2_addGrant ({ frames := 2, cells := 1, slots := 5, locals := 43 }) [.ref (ca 3), .int b, .int e, .ref r] T I J R (PQ T I J R ca (.int (a 0 22)) (aGr a b e v) n) := by
  refine Con.mk (cc := cX2_addGrant) (maxL := 4) (ret := (some .int)) (by decide) rfl (Nat.le_of_ble_eq_true rfl) ?_
  intro E hE C Z hnm
  subst hE
  change WP E 4 0 0 T I J R 0 [(0, .ref (ca 3)), (1, .int b), (2, .int e), (3, .ref r)] []
  have kg := hK.2.2.2.2.2.2.1.ar
  have hC := hK.1
  refine wp_aload_n C 0 dX2_addGrant_0 rfl rfl ?_
  refine wp_getR C dX2_addGrant_1 fX2_addGrant_27 (hC.ob 3 (by decide) rfl) (hC.rf 3 4 27 (by decide)) ?_
  refine wp_aload_n C 0 dX2_addGrant_4 rfl rfl ?_
  refine wp_getI C dX2_addGrant_5 fX2_addGrant_22 (hC.ob 3 (by decide) rfl) ?_
  refine wp_eqi kg.1 ?_
  refine wp_new C dX2_addGrant_8 nX2_addGrant_25 (by decide) (by decide) ?_
  intro q hq
  have nq : ∀ i, i < 30 → ca i ≠ q := fun i hi z => hq (z ▸ (hC.1 i hi).1)
  refine wp_gen (fun T1 I1 J1 R1 => (OB T1 q 3 ∧ ExL T T1 I I1 J J1 R R1 ca [3, 27] ∧ CO T1 R1 ca) ∧ (∀ k, I1 (ca 3) k = I (ca 3) k) ∧ R1 (ca 3) = R (ca 3) ∧ ∀ i, R1 (ca 27) i = R (ca 27) i) ⟨⟨OB.new, (ExL.rf (by decide)).push hq, hC.push hq⟩, fun k => by rw [vu_n _ _ (nq 3 (by decide))], vu_n _ _ (nq 3 (by decide)), fun i => by rw [vu_n _ _ (nq 27 (by decide))]⟩ ?_
  rintro T1 I1 J1 R1 ⟨hp, he3⟩
  have n3q : ca 3 ≠ q := Ne.symm (hp.2.2.nd hp.1 (by unfold dyn; omega) (by omega))
  have n27q : ca 27 ≠ q := Ne.symm (hp.2.2.nd hp.1 (by unfold dyn; omega) (by omega))
  have n327 := hC.ne 3 27 (by decide) (by decide) (by decide)
  have o3 := hp.2.1
  have eI3 : ∀ k, I1 (ca 3) k = I (ca 3) k := fun k => he3.1 k
  have e13 : I1 (ca 3) 3 = a 0 22 := (eI3 3).trans kg.1
  have eR3 : R1 (ca 3) = R (ca 3) := he3.2.1
  have eR27 : ∀ i, R1 (ca 27) i = R (ca 27) i := he3.2.2
  refine wp_dup C dX2_addGrant_11 rfl ?_
  refine wp_iload_n C 1 dX2_addGrant_12 rfl rfl ?_
  refine wp_iload_n C 2 dX2_addGrant_13 rfl rfl ?_
  refine wp_aload_n C 3 dX2_addGrant_14 rfl rfl ?_
  refine wp_cIv C (As := [.int b, .int e, .ref r]) (rest := [.ref q, .int (a 0 22), .ref (ca 27)]) dX2_addGrant_15 kX2_addGrant_44 (c_Grant _ hp.1 (hr.1.gr hp.2.1.1) b e) rfl (Nat.le_of_ble_eq_true rfl) (by decide) (by decide) ?_
  refine wp_aast C (RX3, TX3, 5) dX2_addGrant_18 (hp.2.2.ar 27 (by decide) rfl) (by decide) rfl hp.1 (by decide) rfl (j := gN_ a) (nI_nat (by omega)) (by unfold gN_; omega) (by decide) ?_
  refine wp_aload_n C 0 dX2_addGrant_19 rfl rfl ?_
  refine wp_dup C dX2_addGrant_20 rfl ?_
  refine wp_getI C dX2_addGrant_21 fX2_addGrant_22 (hp.2.2.ob 3 (by decide) rfl) ?_
  refine wp_eqi (((u2_k _ _ _ _ (by decide) _).trans ((u2_k _ _ _ _ (by decide) _).trans ((u2_k _ _ _ _ (by decide) _).trans (u2_a _ _ _ _ (Ne.symm (hp.2.2.nd hp.1 (by unfold dyn; omega) (by omega))) _)))).trans e13) ?_
  refine wp_iconst C 1 dX2_addGrant_24 (by decide) ?_
  refine wp_iadd C dX2_addGrant_25 ?_
  refine wp_putI C dX2_addGrant_26 pX2_addGrant_22 (fun h => nomatch h) (hp.2.2.ob 3 (by decide) rfl) ?_
  refine wp_aload_n C 0 dX2_addGrant_29 rfl rfl ?_
  refine wp_getI C dX2_addGrant_30 fX2_addGrant_22 (hp.2.2.ob 3 (by decide) rfl) ?_
  refine wp_eqi (u2_s _ _ _ _) ?_
  refine wp_iconst C 1 dX2_addGrant_33 (by decide) ?_
  refine wp_isub C dX2_addGrant_34 ?_
  have hq2 : q ∉ T.1 := hq
  have rq : r ≠ q := fun z => hq (z ▸ hr.1.1)
  have hx2 : ExL T T1 I (u2 (u2 (u2 (u2 (u2 I1 q 3 0) q 0 b) q 1 e) q 4 (I1 r 4)) (ca 3) 3 ((a 0 22) + 1)) J J1 R (u2 (u2 R1 q 2 (some r)) (ca 27) (gN_ a) (some q)) ca [3, 27] := ((((((o3.nI hq 3 0).nI hq 0 b).nI hq 1 e).nI hq 4 _).pI (i := 3) (by decide) 3 _).nR hq 2 _).pR (i := 27) (by decide) _ _
  have qn3 : q ≠ ca 3 := Ne.symm n3q
  have qn27 : q ≠ ca 27 := Ne.symm n27q
  refine wp_iret C Z dX2_addGrant_35 (by decide) (by decide) ⟨by rw [Int32.add_sub_cancel], hx2.frc, hK.addG hr hv he h60 hc hx2 hq hp.1 ?_ ?_ ?_ ?_ ?_ ?_ (u2_s _ _ _ _) ?_ ?_ (u2_s _ _ _ _) (fun i hi => ?_)⟩
  · rw [u2_rown _ _ _ _ qn3, u2_k _ _ _ _ (by decide), u2_k _ _ _ _ (by decide), u2_s]
  · rw [u2_rown _ _ _ _ qn3, u2_k _ _ _ _ (by decide), u2_s]
  · rw [u2_rown _ _ _ _ qn3, u2_k _ _ _ _ (by decide), u2_k _ _ _ _ (by decide), u2_k _ _ _ _ (by decide), u2_s]
  · rw [u2_rown _ _ _ _ qn3, u2_s, (o3.dy hC hr.1 (by unfold dyn; omega)).1]; exact hr.2 4 (by decide)
  · rw [u2_rown _ _ _ _ qn27, u2_s]
  · rw [u2_k _ _ _ _ (by decide), u2_rown _ _ _ _ n3q, u2_rown _ _ _ _ n3q, u2_rown _ _ _ _ n3q, u2_rown _ _ _ _ n3q]; exact eI3 0
  · rw [u2_k _ _ _ _ (by decide), u2_rown _ _ _ _ n3q, u2_rown _ _ _ _ n3q, u2_rown _ _ _ _ n3q, u2_rown _ _ _ _ n3q]; exact eI3 5
  · rw [u2_rown _ _ _ _ n327, u2_rown _ _ _ _ n3q]; exact eR3
  · rw [u2_k _ _ _ _ hi, u2_rown _ _ _ _ n27q]; exact eR27 i
