/-! ===== book, list, hears ===== -/
theorem KB.ar {I : gI} {ca : Nat → Nat} {a : gI} (k : KB I ca a) : (I (ca 3) 0).toInt = (a 0 21).toInt ∧ 0 ≤ (a 0 21).toInt ∧ (a 0 21).toInt ≤ 12 := by
  obtain ⟨b, k1, k2, k3, -⟩ := k
  rw [k2, k3, nI_toInt (by omega)]
  omega
theorem KB.s {I : gI} {ca : Nat → Nat} {a : gI} (k : KB I ca a) {j : Nat} (hj : j < 12) : I (ca 25) j = a 26 j ∧ (a 26 j = 0 ∨ a 26 j = 1) := by
  obtain ⟨b, -, -, -, k4, -⟩ := k
  exact k4 j hj
theorem KB.l {I : gI} {ca : Nat → Nat} {a : gI} (k : KB I ca a) {j : Nat} (hj : j < 120) : I (ca 26) j = a 27 j ∧ (a 27 j = 0 ∨ a 27 j = 1) := by
  obtain ⟨b, -, -, -, -, k5⟩ := k
  exact k5 j hj
def okB (a : gI) : Prop := 0 ≤ (a 0 21).toInt ∧ (a 0 21).toInt ≤ 12
section KAb
variable {T : gSh} {I : gI} {J : gJ} {R : gR} {ca : Nat → Nat} {a : gI} {n : gJ}
theorem KA.book (k : KA T I J R ca a n) (h : (a 0 21).toInt < 12) {s : Int32} (hs : s = 0 ∨ s = 1) : KA T (u2 (u2 I (ca 25) (a 0 21).toInt.toNat s) (ca 3) 0 (a 0 21 + 1)) J R ca (u2 (u2 a 26 (a 0 21).toInt.toNat s) 0 21 (a 0 21 + 1)) n := by
  have hC := k.1
  have n253 := hC.ne 25 3 (by omega) (by omega) (by omega)
  have n263 := hC.ne 26 3 (by omega) (by omega) (by omega)
  have n2625 := hC.ne 26 25 (by omega) (by omega) (by omega)
  have n325 := hC.ne 3 25 (by omega) (by omega) (by omega)
  obtain ⟨b, k1, k2, k3, k4, k5⟩ := k.2.2.2.2.2.1
  have eb : (a 0 21).toInt.toNat = b := by rw [k3, nI_toInt (by omega)]; rfl
  rw [k3, nI_toInt (by omega)] at h
  rw [eb]
  have hx : ExL T T I (u2 (u2 I (ca 25) b s) (ca 3) 0 (a 0 21 + 1)) J J R R ca [3, 25] := ((ExL.rf (by decide)).pI (by simp) _ _).pI (by simp) 0 _
  have ra : ∀ r, r ≠ 0 → r ≠ 26 → u2 (u2 a 26 b s) 0 21 (a 0 21 + 1) r = a r := fun r h1 h2 => by rw [u2_rown _ _ _ _ h1, u2_rown _ _ _ _ h2]
  have r0 : ∀ i, i ≠ 21 → u2 (u2 a 26 b s) 0 21 (a 0 21 + 1) 0 i = a 0 i := fun i hi => by rw [u2_k _ _ _ _ hi, u2_a _ _ _ _ (by decide)]
  refine k.onB hx (by decide) rfl ⟨b + 1, by omega, by rw [u2_s, k3, nI_1], by rw [u2_s, k3, nI_1], fun j hj => ?_, ?_⟩ (k.2.2.2.2.2.2.1.ex hC hx (by decide) ?_ (r0 22 (by decide)) (fun r h1 h2 => ra r (by omega) (by omega))) (k.2.2.2.2.2.2.2.1.ex hC hx (by decide) ?_ (r0 23 (by decide)) (fun r h1 h2 => ra r (by omega) (by omega))) (fun i hi => r0 i (by omega)) (fun r h1 h2 => ra r h1 (by omega))
  · rw [u2_rown _ _ _ _ n253, u2_a (b := 26) _ _ _ _ (show (26 : Nat) ≠ 0 by decide)]
    by_cases e : j = b
    · subst e; rw [u2_s, u2_s]; exact ⟨rfl, hs⟩
    · rw [u2_k _ _ _ _ e, u2_k _ _ _ _ e]; exact k4 j hj
  · rw [u2_rown _ _ _ _ n263, u2_rown _ _ _ _ n2625, ra 27 (by decide) (by decide)]; exact k5
  · rw [u2_k _ _ _ _ (by decide), u2_rown _ _ _ _ n325]
  · rw [u2_k _ _ _ _ (by decide), u2_rown _ _ _ _ n325]
theorem KA.list (k : KA T I J R ca a n) {q : Nat} {s : Int32} (hs : s = 0 ∨ s = 1) : KA T (u2 I (ca 26) q s) J R ca (u2 a 27 q s) n := by
  have hC := k.1
  obtain ⟨b, k1, k2, k3, k4, k5⟩ := k.2.2.2.2.2.1
  have hx : ExL T T I (u2 I (ca 26) q s) J J R R ca [26] := (ExL.rf (by decide)).pI (by simp) _ _
  have ra : ∀ r, r ≠ 27 → u2 a 27 q s r = a r := fun r h1 => u2_rown _ _ _ _ h1
  have e3 : u2 I (ca 26) q s (ca 3) = I (ca 3) := u2_rown _ _ _ _ (hC.ne 3 26 (by omega) (by omega) (by omega))
  refine k.onB hx (by decide) rfl ⟨b, k1, by rw [e3]; exact k2, by rw [ra 0 (by decide)]; exact k3, ?_, fun j hj => ?_⟩ (k.2.2.2.2.2.2.1.ex hC hx (by decide) (by rw [e3]) (by rw [ra 0 (by decide)]) (fun r h1 h2 => ra r (by omega))) (k.2.2.2.2.2.2.2.1.ex hC hx (by decide) (by rw [e3]) (by rw [ra 0 (by decide)]) (fun r h1 h2 => ra r (by omega))) (fun i hi => by rw [ra 0 (by decide)]) (fun r h1 h2 => ra r (by omega))
  · rw [ra 26 (by decide), u2_rown _ _ _ _ (hC.ne 25 26 (by omega) (by omega) (by omega))]; exact k4
  · by_cases e : j = q
    · subst e; rw [u2_s, u2_s]; exact ⟨rfl, hs⟩
    · rw [u2_k _ _ _ _ e, u2_k _ _ _ _ e]; exact k5 j hj
end KAb
def stBk (a : gI) : Nat := if (a 0 21).toInt < 12 then 0 else 7
def aBk (a : gI) (s : Int32) : gI := if stBk a = 0 then u2 (u2 (u2 a 0 0 0) 26 (a 0 21).toInt.toNat s) 0 21 (a 0 21 + 1) else u2 a 0 0 (nI (stBk a))
def stLi (a : gI) (b e s : Int32) : Nat := if (0 ≤ b.toInt ∧ b.toInt < (a 0 21).toInt) ∧ (0 ≤ e.toInt ∧ e.toInt < (a 0 8).toInt) then (if (a 27 (10 * b.toInt.toNat + e.toInt.toNat)).toInt = s.toInt then 8 else 0) else 1
def aLi (a : gI) (b e s : Int32) : gI := if stLi a b e s = 0 then u2 (u2 a 0 0 0) 27 (10 * b.toInt.toNat + e.toInt.toNat) s else u2 a 0 0 (nI (stLi a b e s))
theorem stLi_le (a : gI) (b e s : Int32) : stLi a b e s ≤ 8 := by simp only [stLi]; (repeat' split) <;> omega
theorem stLi_ok {a : gI} {b e s : Int32} (z : stLi a b e s = 0) : (0 ≤ b.toInt ∧ b.toInt < (a 0 21).toInt) ∧ (0 ≤ e.toInt ∧ e.toInt < (a 0 8).toInt) := by
  simp only [stLi] at z; (repeat' split at z) <;> omega
/-- 1 if the book is told to the editor -/
def tld (a : gI) (b e : Int32) : Nat := if (a 26 b.toInt.toNat).toInt = 0 then 1 else if (a 27 (10 * b.toInt.toNat + e.toInt.toNat)).toInt = 0 then 0 else 1
theorem tld_le (a : gI) (b e : Int32) : tld a b e ≤ 1 := by simp only [tld]; (repeat' split) <;> omega
def stHe (a : gI) (e : Int32) : Nat := if 0 ≤ e.toInt ∧ e.toInt < (a 0 8).toInt then 0 else 1
def vHe (a : gI) (b e : Int32) : Int32 := if stHe a e = 0 then (if 0 ≤ b.toInt ∧ b.toInt < (a 0 21).toInt then nI (tld a b e) else 0) else -1
set_option maxRecDepth 100000 in
set_option maxHeartbeats 4000000 in
theorem c_addBook (l : Launch) {T : gSh} {I : gI} {J : gJ} {R : gR} {ca : Nat → Nat} {a : gI} {n : gJ} (hK : KA T I J R ca a n) (h : (a 0 21).toInt < 12) {s : Int32} (hz9 : s = 0 ∨ s = 1) : Con l yX2_addBook wsX2_addBook ({ frames := 0, cells := 0, slots := 0, locals := 0 }) [.ref (ca 3), .int s] T I J R (gP (some (.int (a 0 21))) T (u2 (u2 I (ca 25) (a 0 21).toInt.toNat s) (ca 3) 0 (a 0 21 + 1)) J R) := by
  refine Con.mk (cc := cX2_addBook) (maxL := 2) (ret := (some .int)) (by decide) rfl (Nat.le_of_ble_eq_true rfl) ?_
  intro E hE C Z hnm
  subst hE
  change WP E 2 0 0 T I J R 0 [(0, .ref (ca 3)), (1, .int s)] []
  have kb := hK.2.2.2.2.2.1.ar
  have e21 : I (ca 3) 0 = a 0 21 := (i_eq _ _).mpr (by omega)
  refine wp_aload_n C 0 dX2_addBook_0 rfl rfl ?_
  refine wp_getR C dX2_addBook_1 fX2_addBook_15 (hK.1.ob 3 (by decide) rfl) (hK.1.rf 3 1 25 (by decide)) ?_
  refine wp_aload_n C 0 dX2_addBook_4 rfl rfl ?_
  refine wp_getI C dX2_addBook_5 fX2_addBook_9 (hK.1.ob 3 (by decide) rfl) ?_
  refine wp_eqi e21 ?_
  refine wp_iload_n C 1 dX2_addBook_8 rfl rfl ?_
  refine wp_zast C dX2_addBook_9 (hK.1.ar 25 (by decide) rfl) (j := (a 0 21).toInt.toNat) (nI_nat (by omega)) (by omega) (by decide) hz9 ?_
  refine wp_aload_n C 0 dX2_addBook_10 rfl rfl ?_
  refine wp_dup C dX2_addBook_11 rfl ?_
  refine wp_getI C dX2_addBook_12 fX2_addBook_9 (hK.1.ob 3 (by decide) rfl) ?_
  refine wp_eqi ((u2_a _ _ _ _ (hK.1.ne 3 25 (by decide) (by decide) (by decide)) _).trans e21) ?_
  refine wp_iconst C 1 dX2_addBook_15 (by decide) ?_
  refine wp_iadd C dX2_addBook_16 ?_
  refine wp_putI C dX2_addBook_17 pX2_addBook_9 (fun h => nomatch h) (hK.1.ob 3 (by decide) rfl) ?_
  refine wp_aload_n C 0 dX2_addBook_20 rfl rfl ?_
  refine wp_getI C dX2_addBook_21 fX2_addBook_9 (hK.1.ob 3 (by decide) rfl) ?_
  refine wp_eqi (u2_s _ _ _ _) ?_
  refine wp_iconst C 1 dX2_addBook_24 (by decide) ?_
  refine wp_isub C dX2_addBook_25 ?_
  exact wp_iret C Z dX2_addBook_26 (by decide) (by decide) (by rw [Int32.add_sub_cancel]; exact gP_rf)
set_option maxRecDepth 100000 in
set_option maxHeartbeats 4000000 in
theorem c_isOnList (l : Launch) {T : gSh} {I : gI} {J : gJ} {R : gR} {ca : Nat → Nat} {a : gI} {n : gJ} (hK : KA T I J R ca a n) {b e : Int32} (hb : 0 ≤ b.toInt ∧ b.toInt < 12) (he : 0 ≤ e.toInt ∧ e.toInt < 10) : Con l yX2_isOnList wsX2_isOnList ({ frames := 0, cells := 0, slots := 0, locals := 0 }) [.ref (ca 3), .int b, .int e] T I J R (gP (some (.int (a 27 (10 * b.toInt.toNat + e.toInt.toNat)))) T I J R) := by
  refine Con.mk (cc := cX2_isOnList) (maxL := 3) (ret := (some .boolean)) (by decide) rfl (Nat.le_of_ble_eq_true rfl) ?_
  intro E hE C Z hnm
  subst hE
  change WP E 3 0 0 T I J R 0 [(0, .ref (ca 3)), (1, .int b), (2, .int e)] []
  have hb01 := (hK.2.2.2.2.2.1.l (j := 10 * b.toInt.toNat + e.toInt.toNat) (by omega)).2
  refine wp_aload_n C 0 dX2_isOnList_0 rfl rfl ?_
  refine wp_getR C dX2_isOnList_1 fX2_isOnList_19 (hK.1.ob 3 (by decide) rfl) (hK.1.rf 3 2 26 (by decide)) ?_
  refine wp_iload_n C 1 dX2_isOnList_4 rfl rfl ?_
  refine wp_bipush C 10 dX2_isOnList_5 (by decide) ?_
  refine wp_imul C dX2_isOnList_7 ?_
  refine wp_iload_n C 2 dX2_isOnList_8 rfl rfl ?_
  refine wp_iadd C dX2_isOnList_9 ?_
  refine wp_zald C dX2_isOnList_10 (hK.1.ar 26 (by decide) rfl) (j := 10 * b.toInt.toNat + e.toInt.toNat) (ix10' (by omega) (by omega)) (by omega) (by decide) ?_
  refine wp_eqi (hK.2.2.2.2.2.1.l (by omega)).1 ?_
  exact wp_zret C Z dX2_isOnList_11 (by decide) (by decide) hb01 gP_rf
set_option maxRecDepth 100000 in
set_option maxHeartbeats 4000000 in
theorem c_putOnList (l : Launch) {T : gSh} {I : gI} {J : gJ} {R : gR} {ca : Nat → Nat} (hC : CO T R ca) {b e s : Int32} (hb : 0 ≤ b.toInt ∧ b.toInt < 12) (he : 0 ≤ e.toInt ∧ e.toInt < 10) (hz11 : s = 0 ∨ s = 1) : Con l yX2_putOnList wsX2_putOnList ({ frames := 0, cells := 0, slots := 0, locals := 0 }) [.ref (ca 3), .int b, .int e, .int s] T I J R (gP none T (u2 I (ca 26) (10 * b.toInt.toNat + e.toInt.toNat) s) J R) := by
  refine Con.mk (cc := cX2_putOnList) (maxL := 4) (ret := none) (by decide) rfl (Nat.le_of_ble_eq_true rfl) ?_
  intro E hE C Z hnm
  subst hE
  change WP E 4 0 0 T I J R 0 [(0, .ref (ca 3)), (1, .int b), (2, .int e), (3, .int s)] []
  refine wp_aload_n C 0 dX2_putOnList_0 rfl rfl ?_
  refine wp_getR C dX2_putOnList_1 fX2_putOnList_19 (hC.ob 3 (by decide) rfl) (hC.rf 3 2 26 (by decide)) ?_
  refine wp_iload_n C 1 dX2_putOnList_4 rfl rfl ?_
  refine wp_bipush C 10 dX2_putOnList_5 (by decide) ?_
  refine wp_imul C dX2_putOnList_7 ?_
  refine wp_iload_n C 2 dX2_putOnList_8 rfl rfl ?_
  refine wp_iadd C dX2_putOnList_9 ?_
  refine wp_iload_n C 3 dX2_putOnList_10 rfl rfl ?_
  refine wp_zast C dX2_putOnList_11 (hC.ar 26 (by decide) rfl) (j := 10 * b.toInt.toNat + e.toInt.toNat) (ix10' (by omega) (by omega)) (by omega) (by decide) hz11 ?_
  exact wp_vret C Z dX2_putOnList_12 (by decide) (by decide) gP_rf
set_option maxRecDepth 100000 in
set_option maxHeartbeats 4000000 in
theorem c_isTold (l : Launch) {T : gSh} {I : gI} {J : gJ} {R : gR} {ca : Nat → Nat} {a : gI} {n : gJ} (hK : KA T I J R ca a n) {b e : Int32} (hb : 0 ≤ b.toInt ∧ b.toInt < 12) (he : 0 ≤ e.toInt ∧ e.toInt < 10) : Con l yX2_isTold wsX2_isTold ({ frames := 1, cells := 0, slots := 0, locals := 22 }) [.ref (ca 3), .int b, .int e] T I J R (gP (some (.int (nI (tld a b e)))) T I J R) := by
  refine Con.mk (cc := cX2_isTold) (maxL := 3) (ret := (some .boolean)) (by decide) rfl (Nat.le_of_ble_eq_true rfl) ?_
  intro E hE C Z hnm
  subst hE
  change WP E 3 0 0 T I J R 0 [(0, .ref (ca 3)), (1, .int b), (2, .int e)] []
  refine wp_aload_n C 0 dX2_isTold_0 rfl rfl ?_
  refine wp_getR C dX2_isTold_1 fX2_isTold_15 (hK.1.ob 3 (by decide) rfl) (hK.1.rf 3 1 25 (by decide)) ?_
  refine wp_iload_n C 1 dX2_isTold_4 rfl rfl ?_
  refine wp_zald C dX2_isTold_5 (hK.1.ar 25 (by decide) rfl) (j := b.toInt.toNat) (nI_nat (by omega)) (by omega) (by decide) ?_
  refine wp_eqi (hK.2.2.2.2.2.1.s (by omega)).1 ?_
  refine wp_if_eq C 18 dX2_isTold_6 (by decide) (fun c6 => ?_) (fun c6 => ?_)
  · have c6 : (a 26 b.toInt.toNat).toInt = 0 := by have hcv := p_eq c6; exact hcv
    refine wp_iconst C 1 dX2_isTold_18 (by decide) ?_
    refine wp_goto C 23 dX2_isTold_19 (by decide) ?_
    exact wp_zret C Z dX2_isTold_23 (by decide) (by decide) (by decide) (by rw [show tld a b e = 1 from by simp only [tld]; (repeat' split) <;> omega]; exact gP_rf)
  · have c6 : ¬ (a 26 b.toInt.toNat).toInt = 0 := by have hcv := n_eq c6; exact hcv
    refine wp_aload_n C 0 dX2_isTold_9 rfl rfl ?_
    refine wp_iload_n C 1 dX2_isTold_10 rfl rfl ?_
    refine wp_iload_n C 2 dX2_isTold_11 rfl rfl ?_
    refine wp_cVi C (As := [.int b, .int e]) (rest := []) dX2_isTold_12 kX2_isTold_40 (hK.1.ob 3 (by decide) rfl) (c_isOnList _ hK (by omega) (by omega)) rfl (Nat.le_of_ble_eq_true rfl) (by decide) (by decide) ?_
    refine wp_if_eq C 22 dX2_isTold_15 (by decide) (fun c15 => ?_) (fun c15 => ?_)
    · have c15 : (a 27 (10 * b.toInt.toNat + e.toInt.toNat)).toInt = 0 := by have hcv := p_eq c15; exact hcv
      refine wp_iconst C 0 dX2_isTold_22 (by decide) ?_
      exact wp_zret C Z dX2_isTold_23 (by decide) (by decide) (by decide) (by rw [show tld a b e = 0 from by simp only [tld]; (repeat' split) <;> omega]; exact gP_rf)
    · have c15 : ¬ (a 27 (10 * b.toInt.toNat + e.toInt.toNat)).toInt = 0 := by have hcv := n_eq c15; exact hcv
      refine wp_iconst C 1 dX2_isTold_18 (by decide) ?_
      refine wp_goto C 23 dX2_isTold_19 (by decide) ?_
      exact wp_zret C Z dX2_isTold_23 (by decide) (by decide) (by decide) (by rw [show tld a b e = 1 from by simp only [tld]; (repeat' split) <;> omega]; exact gP_rf)
set_option maxRecDepth 100000 in
set_option maxHeartbeats 4000000 in
theorem c_book (l : Launch) {T : gSh} {I : gI} {J : gJ} {R : gR} {ca : Nat → Nat} {a : gI} {n : gJ} (hK : KA T I J R ca a n) {s : Int32} (hs : s = 0 ∨ s = 1) : Con l yX11_book wsX11_book ({ frames := 1, cells := 0, slots := 0, locals := 21 }) [.ref (ca 0), .int s] T I J R (PQ T I J R ca (.int (if stBk a = 0 then a 0 21 else -1)) (aBk a s) n) := by
  refine Con.mk (cc := cX11_book) (maxL := 2) (ret := (some .int)) (by decide) rfl (Nat.le_of_ble_eq_true rfl) ?_
  intro E hE C Z hnm
  subst hE
  change WP E 2 0 0 T I J R 0 [(0, .ref (ca 0)), (1, .int s)] []
  have kb := hK.2.2.2.2.2.1.ar
  have e21 : I (ca 3) 0 = a 0 21 := (i_eq _ _).mpr (by omega)
  refine wp_aload_n C 0 dX11_book_0 rfl rfl ?_
  refine wp_aload_n C 0 dX11_book_1 rfl rfl ?_
  refine wp_getR C dX11_book_2 fX11_book_26 (hK.1.ob 0 (by decide) rfl) (hK.1.rf 0 2 3 (by decide)) ?_
  refine wp_getI C dX11_book_5 fX11_book_156 (hK.1.ob 3 (by decide) rfl) ?_
  refine wp_eqi e21 ?_
  refine wp_bipush C 12 dX11_book_8 (by decide) ?_
  refine wp_icmp_ge C 17 dX11_book_10 (by decide) (fun c10 => ?_) (fun c10 => ?_)
  · have c10 : 12 ≤ (a 0 21).toInt := by have hcv := p_le c10; exact hcv
    refine wp_bipush C 7 dX11_book_17 (by decide) ?_
    refine wp_putI C dX11_book_19 pX11_book_41 (fun h => nomatch h) (hK.1.ob 0 (by decide) rfl) ?_
    refine wp_aload_n C 0 dX11_book_22 rfl rfl ?_
    refine wp_getI C dX11_book_23 fX11_book_41 (hK.1.ob 0 (by decide) rfl) ?_
    refine wp_eqi (u2_s _ _ _ _) ?_
    refine wp_if_ne C 40 dX11_book_26 (by decide) (fun c26 => ?_) (fun c26 => ?_)
    · refine wp_iconst C (-1) dX11_book_40 (by decide) ?_
      have hst : stBk a = 7 := by simp only [stBk]; (repeat' split) <;> omega
      have hs0 : ¬ stBk a = 0 := by rw [hst]; decide
      exact wp_iret C Z dX11_book_41 (by decide) (by decide) ⟨by rw [if_neg hs0], (FrC.rf T I J R ca).pI (by decide) 5 _, by unfold aBk; rw [if_neg hs0, hst]; exact hK.st _⟩
    · exact absurd c26 (by decide)
  · have c10 : ¬ 12 ≤ (a 0 21).toInt := by have hcv := n_le c10; exact hcv
    refine wp_iconst C 0 dX11_book_13 (by decide) ?_
    refine wp_goto C 19 dX11_book_14 (by decide) ?_
    refine wp_putI C dX11_book_19 pX11_book_41 (fun h => nomatch h) (hK.1.ob 0 (by decide) rfl) ?_
    refine wp_aload_n C 0 dX11_book_22 rfl rfl ?_
    refine wp_getI C dX11_book_23 fX11_book_41 (hK.1.ob 0 (by decide) rfl) ?_
    refine wp_eqi (u2_s _ _ _ _) ?_
    refine wp_if_ne C 40 dX11_book_26 (by decide) (fun c26 => ?_) (fun c26 => ?_)
    · exact absurd (by decide) c26
    · refine wp_aload_n C 0 dX11_book_29 rfl rfl ?_
      refine wp_getR C dX11_book_30 fX11_book_26 (hK.1.ob 0 (by decide) rfl) (hK.1.rf 0 2 3 (by decide)) ?_
      refine wp_iload_n C 1 dX11_book_33 rfl rfl ?_
      refine wp_cVi C (As := [.int s]) (rest := []) dX11_book_34 kX11_book_159 (hK.1.ob 3 (by decide) rfl) (c_addBook _ (hK.st 0) (by rw [u2_k _ _ _ _ (by decide)]; omega) hs) rfl (Nat.le_of_ble_eq_true rfl) (by decide) (by decide) ?_
      refine wp_eqi (u2_k _ _ _ _ (by decide) _) ?_
      refine wp_goto C 41 dX11_book_37 (by decide) ?_
      have hs0 : stBk a = 0 := by simp only [stBk]; (repeat' split) <;> omega
      have hk := (hK.st 0).book (by rw [u2_k _ _ _ _ (by decide)]; omega) hs
      exact wp_iret C Z dX11_book_41 (by decide) (by decide) ⟨by rw [if_pos hs0], (((FrC.rf T I J R ca).pI (by decide) 5 _).pI (by decide) _ _).pI (by decide) 0 _, by unfold aBk; rw [if_pos hs0]; exact hk⟩
set_option maxRecDepth 100000 in
set_option maxHeartbeats 4000000 in
theorem c_statusOfListing (l : Launch) {T : gSh} {I : gI} {J : gJ} {R : gR} {ca : Nat → Nat} {a : gI} {n : gJ} (hK : KA T I J R ca a n) (b e s : Int32) : Con l yX11_statusOfListing wsX11_statusOfListing ({ frames := 1, cells := 0, slots := 0, locals := 22 }) [.ref (ca 0), .int b, .int e, .int s] T I J R (gP (some (.int (nI (stLi a b e s)))) T I J R) := by
  refine Con.mk (cc := cX11_statusOfListing) (maxL := 4) (ret := (some .int)) (by decide) rfl (Nat.le_of_ble_eq_true rfl) ?_
  intro E hE C Z hnm
  subst hE
  change WP E 4 0 0 T I J R 0 [(0, .ref (ca 0)), (1, .int b), (2, .int e), (3, .int s)] []
  have kn := hK.2.2.2.2.1.ar
  have kb := hK.2.2.2.2.2.1.ar
  refine wp_aload_n C 0 dX11_statusOfListing_0 rfl rfl ?_
  refine wp_iload_n C 1 dX11_statusOfListing_1 rfl rfl ?_
  refine wp_cVi C (As := [.int b]) (rest := []) dX11_statusOfListing_2 kX11_statusOfListing_171 (hK.1.ob 0 (by decide) rfl) (c_isBook _ hK.1 b) rfl (Nat.le_of_ble_eq_true rfl) (by decide) (by decide) ?_
  refine wp_if_eq C 16 dX11_statusOfListing_5 (by decide) (fun c5 => ?_) (fun c5 => ?_)
  · have c5 : ¬ (0 ≤ b.toInt ∧ b.toInt < (I (ca 3) 0).toInt) := fun z => absurd ((bI_t z).symm.trans c5) (by decide)
    refine wp_iconst C 1 dX11_statusOfListing_16 (by decide) ?_
    exact wp_iret C Z dX11_statusOfListing_17 (by decide) (by decide) (by rw [show stLi a b e s = 1 from by simp only [stLi]; (repeat' split) <;> omega]; exact gP_rf)
  · have c5 : (0 ≤ b.toInt ∧ b.toInt < (I (ca 3) 0).toInt) := Classical.byContradiction (fun z => c5 (bI_f z))
    refine wp_aload_n C 0 dX11_statusOfListing_8 rfl rfl ?_
    refine wp_iload_n C 2 dX11_statusOfListing_9 rfl rfl ?_
    refine wp_cVi C (As := [.int e]) (rest := []) dX11_statusOfListing_10 kX11_statusOfListing_122 (hK.1.ob 0 (by decide) rfl) (c_isEditor _ hK.1 e) rfl (Nat.le_of_ble_eq_true rfl) (by decide) (by decide) ?_
    refine wp_if_ne C 18 dX11_statusOfListing_13 (by decide) (fun c13 => ?_) (fun c13 => ?_)
    · have c13 : (0 ≤ e.toInt ∧ e.toInt < (I (ca 2) 1).toInt) := Classical.byContradiction (fun z => c13 (bI_f z))
      refine wp_aload_n C 0 dX11_statusOfListing_18 rfl rfl ?_
      refine wp_getR C dX11_statusOfListing_19 fX11_statusOfListing_26 (hK.1.ob 0 (by decide) rfl) (hK.1.rf 0 2 3 (by decide)) ?_
      refine wp_iload_n C 1 dX11_statusOfListing_22 rfl rfl ?_
      refine wp_iload_n C 2 dX11_statusOfListing_23 rfl rfl ?_
      refine wp_cVi C (As := [.int b, .int e]) (rest := []) dX11_statusOfListing_24 kX11_statusOfListing_174 (hK.1.ob 3 (by decide) rfl) (c_isOnList _ hK (by omega) (by omega)) rfl (Nat.le_of_ble_eq_true rfl) (by decide) (by decide) ?_
      refine wp_iload_n C 3 dX11_statusOfListing_27 rfl rfl ?_
      refine wp_icmp_ne C 36 dX11_statusOfListing_28 (by decide) (fun c28 => ?_) (fun c28 => ?_)
      · have c28 : ¬ (a 27 (10 * b.toInt.toNat + e.toInt.toNat)).toInt = s.toInt := by have hcv := n_eq c28; exact hcv
        refine wp_iconst C 0 dX11_statusOfListing_36 (by decide) ?_
        exact wp_iret C Z dX11_statusOfListing_37 (by decide) (by decide) (by rw [show stLi a b e s = 0 from by simp only [stLi]; (repeat' split) <;> omega]; exact gP_rf)
      · have c28 : (a 27 (10 * b.toInt.toNat + e.toInt.toNat)).toInt = s.toInt := by have hcv := p_eq c28; exact hcv
        refine wp_bipush C 8 dX11_statusOfListing_31 (by decide) ?_
        refine wp_goto C 37 dX11_statusOfListing_33 (by decide) ?_
        exact wp_iret C Z dX11_statusOfListing_37 (by decide) (by decide) (by rw [show stLi a b e s = 8 from by simp only [stLi]; (repeat' split) <;> omega]; exact gP_rf)
    · have c13 : ¬ (0 ≤ e.toInt ∧ e.toInt < (I (ca 2) 1).toInt) := fun z => absurd ((bI_t z).symm.trans c13) (by decide)
      refine wp_iconst C 1 dX11_statusOfListing_16 (by decide) ?_
      exact wp_iret C Z dX11_statusOfListing_17 (by decide) (by decide) (by rw [show stLi a b e s = 1 from by simp only [stLi]; (repeat' split) <;> omega]; exact gP_rf)
set_option maxRecDepth 100000 in
set_option maxHeartbeats 4000000 in
theorem c_list (l : Launch) {T : gSh} {I : gI} {J : gJ} {R : gR} {ca : Nat → Nat} {a : gI} {n : gJ} (hK : KA T I J R ca a n) (b e : Int32) {s : Int32} (hs : s = 0 ∨ s = 1) : Con l yX11_list wsX11_list ({ frames := 2, cells := 0, slots := 0, locals := 45 }) [.ref (ca 0), .int b, .int e, .int s] T I J R (PQ T I J R ca (.int (bI (stLi a b e s = 0))) (aLi a b e s) n) := by
  refine Con.mk (cc := cX11_list) (maxL := 4) (ret := (some .boolean)) (by decide) rfl (Nat.le_of_ble_eq_true rfl) ?_
  intro E hE C Z hnm
  subst hE
  change WP E 4 0 0 T I J R 0 [(0, .ref (ca 0)), (1, .int b), (2, .int e), (3, .int s)] []
  have kn := hK.2.2.2.2.1.ar
  have kb := hK.2.2.2.2.2.1.ar
  refine wp_aload_n C 0 dX11_list_0 rfl rfl ?_
  refine wp_aload_n C 0 dX11_list_1 rfl rfl ?_
  refine wp_iload_n C 1 dX11_list_2 rfl rfl ?_
  refine wp_iload_n C 2 dX11_list_3 rfl rfl ?_
  refine wp_iload_n C 3 dX11_list_4 rfl rfl ?_
  refine wp_cVi C (As := [.int b, .int e, .int s]) (rest := [.ref (ca 0)]) dX11_list_5 kX11_list_163 (hK.1.ob 0 (by decide) rfl) (c_statusOfListing _ hK b e s) rfl (Nat.le_of_ble_eq_true rfl) (by decide) (by decide) ?_
  refine wp_putI C dX11_list_8 pX11_list_41 (fun h => nomatch h) (hK.1.ob 0 (by decide) rfl) ?_
  refine wp_aload_n C 0 dX11_list_11 rfl rfl ?_
  refine wp_getI C dX11_list_12 fX11_list_41 (hK.1.ob 0 (by decide) rfl) ?_
  refine wp_eqi (u2_s _ _ _ _) ?_
  refine wp_if_eq C 20 dX11_list_15 (by decide) (fun c15 => ?_) (fun c15 => ?_)
  · have c15 : stLi a b e s = 0 := by have hcv := p_eq c15; rw [nI_toInt (show stLi a b e s < 2 ^ 31 by have := stLi_le a b e s; omega)] at hcv; have hz0 : ((0 : Int32)).toInt = 0 := rfl; omega
    have hsu := stLi_ok c15
    refine wp_aload_n C 0 dX11_list_20 rfl rfl ?_
    refine wp_getR C dX11_list_21 fX11_list_26 (hK.1.ob 0 (by decide) rfl) (hK.1.rf 0 2 3 (by decide)) ?_
    refine wp_iload_n C 1 dX11_list_24 rfl rfl ?_
    refine wp_iload_n C 2 dX11_list_25 rfl rfl ?_
    refine wp_iload_n C 3 dX11_list_26 rfl rfl ?_
    refine wp_cVv C (As := [.int b, .int e, .int s]) (rest := []) dX11_list_27 kX11_list_167 (hK.1.ob 3 (by decide) rfl) (c_putOnList _ hK.1 (by omega) (by omega) hs) rfl (Nat.le_of_ble_eq_true rfl) (by decide) (by decide) ?_
    refine wp_iconst C 1 dX11_list_30 (by decide) ?_
    have e0 : nI (stLi a b e s) = 0 := by rw [c15]; rfl
    exact wp_zret C Z dX11_list_31 (by decide) (by decide) (by decide) ⟨by rw [bI_t c15], ((FrC.rf T I J R ca).pI (by decide) 5 _).pI (by decide) _ _, by unfold aLi; rw [if_pos c15, e0]; exact (hK.st 0).list hs⟩
  · have c15 : ¬ stLi a b e s = 0 := fun z => c15 (by rw [z]; rfl)
    refine wp_iconst C 0 dX11_list_18 (by decide) ?_
    exact wp_zret C Z dX11_list_19 (by decide) (by decide) (by decide) ⟨by rw [bI_f c15], (FrC.rf T I J R ca).pI (by decide) 5 _, by unfold aLi; rw [if_neg c15]; exact hK.st _⟩
theorem ite_zero {p : Prop} [Decidable p] {x : Nat} (h : p → x = 0) : some (Value.int (if p then nI x else 0)) = some (Value.int 0) := by
  by_cases z : p
  · rw [if_pos z, h z]; rfl
  · rw [if_neg z]
set_option maxRecDepth 100000 in
set_option maxHeartbeats 4000000 in
theorem c_hears (l : Launch) {T : gSh} {I : gI} {J : gJ} {R : gR} {ca : Nat → Nat} {a : gI} {n : gJ} (hK : KA T I J R ca a n) (b e : Int32) : Con l yX11_hears wsX11_hears ({ frames := 2, cells := 0, slots := 0, locals := 44 }) [.ref (ca 0), .int b, .int e] T I J R (PQ T I J R ca (.int (vHe a b e)) (u2 a 0 0 (nI (stHe a e))) n) := by
  refine Con.mk (cc := cX11_hears) (maxL := 3) (ret := (some .int)) (by decide) rfl (Nat.le_of_ble_eq_true rfl) ?_
  intro E hE C Z hnm
  subst hE
  change WP E 3 0 0 T I J R 0 [(0, .ref (ca 0)), (1, .int b), (2, .int e)] []
  have kn := hK.2.2.2.2.1.ar
  have kb := hK.2.2.2.2.2.1.ar
  have htl := tld_le a b e
  have hK1 := hK.st 0
  have e30 : u2 I (ca 0) 5 0 (ca 3) 0 = I (ca 3) 0 := u2_a _ _ _ _ (hK.1.ne 3 0 (by decide) (by decide) (by decide)) _
  refine wp_aload_n C 0 dX11_hears_0 rfl rfl ?_
  refine wp_aload_n C 0 dX11_hears_1 rfl rfl ?_
  refine wp_iload_n C 2 dX11_hears_2 rfl rfl ?_
  refine wp_cVi C (As := [.int e]) (rest := [.ref (ca 0)]) dX11_hears_3 kX11_hears_122 (hK.1.ob 0 (by decide) rfl) (c_isEditor _ hK.1 e) rfl (Nat.le_of_ble_eq_true rfl) (by decide) (by decide) ?_
  refine wp_if_eq C 13 dX11_hears_6 (by decide) (fun c6 => ?_) (fun c6 => ?_)
  · have c6 : ¬ (0 ≤ e.toInt ∧ e.toInt < (I (ca 2) 1).toInt) := fun z => absurd ((bI_t z).symm.trans c6) (by decide)
    refine wp_iconst C 1 dX11_hears_13 (by decide) ?_
    refine wp_putI C dX11_hears_14 pX11_hears_41 (fun h => nomatch h) (hK.1.ob 0 (by decide) rfl) ?_
    refine wp_aload_n C 0 dX11_hears_17 rfl rfl ?_
    refine wp_getI C dX11_hears_18 fX11_hears_41 (hK.1.ob 0 (by decide) rfl) ?_
    refine wp_eqi (u2_s _ _ _ _) ?_
    refine wp_if_eq C 26 dX11_hears_21 (by decide) (fun c21 => ?_) (fun c21 => ?_)
    · exact absurd c21 (by decide)
    · refine wp_iconst C (-1) dX11_hears_24 (by decide) ?_
      have hst : stHe a e = 1 := by simp only [stHe]; (repeat' split) <;> omega
      exact wp_iret C Z dX11_hears_25 (by decide) (by decide) ⟨by unfold vHe; rw [if_neg (by rw [hst]; decide)], (FrC.rf T I J R ca).pI (by decide) 5 _, by rw [hst]; exact hK.st _⟩
  · have c6 : (0 ≤ e.toInt ∧ e.toInt < (I (ca 2) 1).toInt) := Classical.byContradiction (fun z => c6 (bI_f z))
    refine wp_iconst C 0 dX11_hears_9 (by decide) ?_
    refine wp_goto C 14 dX11_hears_10 (by decide) ?_
    refine wp_putI C dX11_hears_14 pX11_hears_41 (fun h => nomatch h) (hK.1.ob 0 (by decide) rfl) ?_
    refine wp_aload_n C 0 dX11_hears_17 rfl rfl ?_
    refine wp_getI C dX11_hears_18 fX11_hears_41 (hK.1.ob 0 (by decide) rfl) ?_
    refine wp_eqi (u2_s _ _ _ _) ?_
    refine wp_if_eq C 26 dX11_hears_21 (by decide) (fun c21 => ?_) (fun c21 => ?_)
    · refine wp_aload_n C 0 dX11_hears_26 rfl rfl ?_
      refine wp_iload_n C 1 dX11_hears_27 rfl rfl ?_
      refine wp_cVi C (As := [.int b]) (rest := []) dX11_hears_28 kX11_hears_171 (hK.1.ob 0 (by decide) rfl) (c_isBook _ hK.1 b) rfl (Nat.le_of_ble_eq_true rfl) (by decide) (by decide) ?_
      refine wp_eqi (congrArg (fun z : Int32 => bI (0 ≤ b.toInt ∧ b.toInt < z.toInt)) e30) ?_
      refine wp_if_eq C 50 dX11_hears_31 (by decide) (fun c31 => ?_) (fun c31 => ?_)
      · have c31 : ¬ (0 ≤ b.toInt ∧ b.toInt < (I (ca 3) 0).toInt) := fun z => absurd ((bI_t z).symm.trans c31) (by decide)
        refine wp_iconst C 0 dX11_hears_50 (by decide) ?_
        have hst : stHe a e = 0 := by simp only [stHe]; (repeat' split) <;> omega
        exact wp_iret C Z dX11_hears_51 (by decide) (by decide) ⟨by unfold vHe; rw [if_pos hst]; exact (ite_zero (fun z => by omega)).symm, (FrC.rf T I J R ca).pI (by decide) 5 _, by rw [hst]; exact hK.st _⟩
      · have c31 : (0 ≤ b.toInt ∧ b.toInt < (I (ca 3) 0).toInt) := Classical.byContradiction (fun z => c31 (bI_f z))
        refine wp_aload_n C 0 dX11_hears_34 rfl rfl ?_
        refine wp_getR C dX11_hears_35 fX11_hears_26 (hK.1.ob 0 (by decide) rfl) (hK.1.rf 0 2 3 (by decide)) ?_
        refine wp_iload_n C 1 dX11_hears_38 rfl rfl ?_
        refine wp_iload_n C 2 dX11_hears_39 rfl rfl ?_
        refine wp_cVi C (As := [.int b, .int e]) (rest := []) dX11_hears_40 kX11_hears_177 (hK.1.ob 3 (by decide) rfl) (c_isTold _ hK1 (by omega) (by omega)) rfl (Nat.le_of_ble_eq_true rfl) (by decide) (by decide) ?_
        refine wp_eqi (show nI (tld (u2 a 0 0 0) b e) = nI (tld a b e) from rfl) ?_
        refine wp_if_eq C 50 dX11_hears_43 (by decide) (fun c43 => ?_) (fun c43 => ?_)
        · have c43 : ((tld a b e : Nat) : Int) = 0 := by have hcv := p_eq c43; rw [nI_toInt (show tld a b e < 2 ^ 31 by omega)] at hcv; exact hcv
          refine wp_iconst C 0 dX11_hears_50 (by decide) ?_
          have hst : stHe a e = 0 := by simp only [stHe]; (repeat' split) <;> omega
          exact wp_iret C Z dX11_hears_51 (by decide) (by decide) ⟨by unfold vHe; rw [if_pos hst]; exact (ite_zero (fun z => by omega)).symm, (FrC.rf T I J R ca).pI (by decide) 5 _, by rw [hst]; exact hK.st _⟩
        · have c43 : ¬ ((tld a b e : Nat) : Int) = 0 := by have hcv := n_eq c43; rw [nI_toInt (show tld a b e < 2 ^ 31 by omega)] at hcv; exact hcv
          refine wp_iconst C 1 dX11_hears_46 (by decide) ?_
          refine wp_goto C 51 dX11_hears_47 (by decide) ?_
          have hst : stHe a e = 0 := by simp only [stHe]; (repeat' split) <;> omega
          exact wp_iret C Z dX11_hears_51 (by decide) (by decide) ⟨by unfold vHe; rw [if_pos hst, if_pos (by omega), show tld a b e = 1 by omega]; rfl, (FrC.rf T I J R ca).pI (by decide) 5 _, by rw [hst]; exact hK.st _⟩
    · exact absurd (by decide) c21
set_option maxRecDepth 100000 in
set_option maxHeartbeats 4000000 in
theorem m_book (l : Launch) {T : gSh} {I : gI} {J : gJ} {R : gR} {m : Nat} {ad : Nat → Nat} (hM : MO T R m ad) {a : gI} {n : gJ} (hA : MA I J m ad a n) (hB : okB a) {s : Int32} (hz35 : s = 0 ∨ s = 1) : Con l yX12_book wsX12_book ({ frames := 1, cells := 0, slots := 0, locals := 21 }) [.ref m, .int s] T I J R (PZ T I J R m ad (.int (if stBk a = 0 then a 0 21 else -1)) (aBk a s) n) := by
  refine Con.mk (cc := cX12_book) (maxL := 2) (ret := (some .int)) (by decide) rfl (Nat.le_of_ble_eq_true rfl) ?_
  intro E hE C Z hnm
  subst hE
  change WP E 2 0 0 T I J R 0 [(0, .ref m), (1, .int s)] []
  unfold okB at hB
  refine wp_aload_n C 0 dX12_book_0 rfl rfl ?_
  refine wp_iconst C 0 dX12_book_1 (by decide) ?_
  refine wp_putI C dX12_book_2 pX12_book_134 (fun h => nomatch h) hM.ob ?_
  refine wp_aload_n C 0 dX12_book_5 rfl rfl ?_
  refine wp_iconst C 0 dX12_book_6 (by decide) ?_
  refine wp_putI C dX12_book_7 pX12_book_137 (fun h => nomatch h) hM.ob ?_
  refine wp_aload_n C 0 dX12_book_10 rfl rfl ?_
  refine wp_getI C dX12_book_11 fX12_book_198 hM.ob ?_
  refine wp_eqi (((u2_k _ _ _ _ (by decide) _).trans (u2_k _ _ _ _ (by decide) _)).trans (hA.1 21 (by decide))) ?_
  refine wp_bipush C 12 dX12_book_14 (by decide) ?_
  refine wp_icmp_ne C 26 dX12_book_16 (by decide) (fun c16 => ?_) (fun c16 => ?_)
  · have c16 : ¬ (a 0 21).toInt = 12 := by have hcv := n_eq c16; exact hcv
    refine wp_aload_n C 0 dX12_book_26 rfl rfl ?_
    refine wp_getR C dX12_book_27 fX12_book_62 hM.ob (hM.rf 26 rfl) ?_
    refine wp_aload_n C 0 dX12_book_30 rfl rfl ?_
    refine wp_getI C dX12_book_31 fX12_book_198 hM.ob ?_
    refine wp_eqi (((u2_k _ _ _ _ (by decide) _).trans (u2_k _ _ _ _ (by decide) _)).trans (hA.1 21 (by decide))) ?_
    refine wp_iload_n C 1 dX12_book_34 rfl rfl ?_
    refine wp_zast C dX12_book_35 (hM.ar 26 rfl rfl) (j := (a 0 21).toInt.toNat) (nI_nat (by omega)) (by omega) (by decide) hz35 ?_
    refine wp_aload_n C 0 dX12_book_36 rfl rfl ?_
    refine wp_dup C dX12_book_37 rfl ?_
    refine wp_getI C dX12_book_38 fX12_book_198 hM.ob ?_
    refine wp_eqi (((u2_a _ _ _ _ (Ne.symm (hM.nm 26 rfl)) _).trans ((u2_k _ _ _ _ (by decide) _).trans (u2_k _ _ _ _ (by decide) _))).trans (hA.1 21 (by decide))) ?_
    refine wp_iconst C 1 dX12_book_41 (by decide) ?_
    refine wp_iadd C dX12_book_42 ?_
    refine wp_putI C dX12_book_43 pX12_book_198 (fun h => nomatch h) hM.ob ?_
    refine wp_aload_n C 0 dX12_book_46 rfl rfl ?_
    refine wp_getI C dX12_book_47 fX12_book_198 hM.ob ?_
    refine wp_eqi (u2_s _ _ _ _) ?_
    refine wp_iconst C 1 dX12_book_50 (by decide) ?_
    refine wp_isub C dX12_book_51 ?_
    have hs0 : stBk a = 0 := by simp only [stBk]; (repeat' split) <;> omega
    exact wp_iret C Z dX12_book_52 (by decide) (by decide) ⟨by rw [if_pos hs0, Int32.add_sub_cancel], rfl, rfl, by unfold aBk; rw [if_pos hs0]; exact (((((MX.i hA).t hM 0).f hM 0 0).r hM 26 (by unfold mR; omega) ((a 0 21).toInt.toNat) s).f hM 21 ((a 0 21) + 1))⟩
  · have c16 : (a 0 21).toInt = 12 := by have hcv := p_eq c16; exact hcv
    refine wp_aload_n C 0 dX12_book_19 rfl rfl ?_
    refine wp_bipush C 7 dX12_book_20 (by decide) ?_
    refine wp_cVi C (As := [.int 7]) (rest := []) dX12_book_22 kX12_book_164 hM.ob (m_refuse _ hM 7) rfl (Nat.le_of_ble_eq_true rfl) (by decide) (by decide) ?_
    have hst : stBk a = 7 := by simp only [stBk]; (repeat' split) <;> omega
    have hs0 : ¬ stBk a = 0 := by rw [hst]; decide
    exact wp_iret C Z dX12_book_25 (by decide) (by decide) ⟨by rw [if_neg hs0], rfl, rfl, by unfold aBk; rw [if_neg hs0, hst]; exact MX.no hA hM 7⟩
set_option maxRecDepth 100000 in
set_option maxHeartbeats 4000000 in
theorem m_list (l : Launch) {T : gSh} {I : gI} {J : gJ} {R : gR} {m : Nat} {ad : Nat → Nat} (hM : MO T R m ad) {a : gI} {n : gJ} (hA : MA I J m ad a n) (hN : okN a) (hB : okB a) (b e : Int32) {s : Int32} (hz65 : s = 0 ∨ s = 1) : Con l yX12_list wsX12_list ({ frames := 1, cells := 0, slots := 0, locals := 21 }) [.ref m, .int b, .int e, .int s] T I J R (PZ T I J R m ad (.int (bI (stLi a b e s = 0))) (aLi a b e s) n) := by
  refine Con.mk (cc := cX12_list) (maxL := 4) (ret := (some .boolean)) (by decide) rfl (Nat.le_of_ble_eq_true rfl) ?_
  intro E hE C Z hnm
  subst hE
  change WP E 4 0 0 T I J R 0 [(0, .ref m), (1, .int b), (2, .int e), (3, .int s)] []
  unfold okN at hN
  unfold okB at hB
  refine wp_aload_n C 0 dX12_list_0 rfl rfl ?_
  refine wp_iconst C 0 dX12_list_1 (by decide) ?_
  refine wp_putI C dX12_list_2 pX12_list_134 (fun h => nomatch h) hM.ob ?_
  refine wp_aload_n C 0 dX12_list_5 rfl rfl ?_
  refine wp_iconst C 0 dX12_list_6 (by decide) ?_
  refine wp_putI C dX12_list_7 pX12_list_137 (fun h => nomatch h) hM.ob ?_
  refine wp_aload_n C 0 dX12_list_10 rfl rfl ?_
  refine wp_iload_n C 1 dX12_list_11 rfl rfl ?_
  refine wp_cVi C (As := [.int b]) (rest := []) dX12_list_12 kX12_list_209 hM.ob (m_isBook _ hM b) rfl (Nat.le_of_ble_eq_true rfl) (by decide) (by decide) ?_
  refine wp_eqi (congrArg (fun z : Int32 => bI (0 ≤ b.toInt ∧ b.toInt < z.toInt)) (((u2_k _ _ _ _ (by decide) _).trans (u2_k _ _ _ _ (by decide) _)).trans (hA.1 21 (by decide)))) ?_
  refine wp_if_eq C 26 dX12_list_15 (by decide) (fun c15 => ?_) (fun c15 => ?_)
  · have c15 : ¬ (0 ≤ b.toInt ∧ b.toInt < (a 0 21).toInt) := fun z => absurd ((bI_t z).symm.trans c15) (by decide)
    refine wp_aload_n C 0 dX12_list_26 rfl rfl ?_
    refine wp_iconst C 1 dX12_list_27 (by decide) ?_
    refine wp_cVi C (As := [.int 1]) (rest := []) dX12_list_28 kX12_list_140 hM.ob (m_no _ hM 1) rfl (Nat.le_of_ble_eq_true rfl) (by decide) (by decide) ?_
    have hst : stLi a b e s = 1 := by simp only [stLi]; (repeat' split) <;> omega
    have hs0 : ¬ stLi a b e s = 0 := by rw [hst]; decide
    exact wp_zret C Z dX12_list_31 (by decide) (by decide) (by decide) ⟨by rw [bI_f hs0], rfl, rfl, by unfold aLi; rw [if_neg hs0, hst]; exact MX.no hA hM 1⟩
  · have c15 : (0 ≤ b.toInt ∧ b.toInt < (a 0 21).toInt) := Classical.byContradiction (fun z => c15 (bI_f z))
    refine wp_aload_n C 0 dX12_list_18 rfl rfl ?_
    refine wp_iload_n C 2 dX12_list_19 rfl rfl ?_
    refine wp_cVi C (As := [.int e]) (rest := []) dX12_list_20 kX12_list_170 hM.ob (m_isEditor _ hM e) rfl (Nat.le_of_ble_eq_true rfl) (by decide) (by decide) ?_
    refine wp_eqi (congrArg (fun z : Int32 => bI (0 ≤ e.toInt ∧ e.toInt < z.toInt)) (((u2_k _ _ _ _ (by decide) _).trans (u2_k _ _ _ _ (by decide) _)).trans (hA.1 8 (by decide)))) ?_
    refine wp_if_ne C 32 dX12_list_23 (by decide) (fun c23 => ?_) (fun c23 => ?_)
    · have c23 : (0 ≤ e.toInt ∧ e.toInt < (a 0 8).toInt) := Classical.byContradiction (fun z => c23 (bI_f z))
      refine wp_aload_n C 0 dX12_list_32 rfl rfl ?_
      refine wp_getR C dX12_list_33 fX12_list_65 hM.ob (hM.rf 27 rfl) ?_
      refine wp_bipush C 10 dX12_list_36 (by decide) ?_
      refine wp_iload_n C 1 dX12_list_38 rfl rfl ?_
      refine wp_imul C dX12_list_39 ?_
      refine wp_iload_n C 2 dX12_list_40 rfl rfl ?_
      refine wp_iadd C dX12_list_41 ?_
      refine wp_zald C dX12_list_42 (hM.ar 27 rfl rfl) (j := 10 * b.toInt.toNat + e.toInt.toNat) (ix10 (by omega) (by omega)) (by omega) (by decide) ?_
      refine wp_eqi (((u2_a _ _ _ _ (hM.nm 27 rfl) _).trans (u2_a _ _ _ _ (hM.nm 27 rfl) _)).trans (congrFun (hA.2.1 27 (by unfold mR; omega)) _)) ?_
      refine wp_iload_n C 3 dX12_list_43 rfl rfl ?_
      refine wp_icmp_ne C 54 dX12_list_44 (by decide) (fun c44 => ?_) (fun c44 => ?_)
      · have c44 : ¬ (a 27 (10 * b.toInt.toNat + e.toInt.toNat)).toInt = s.toInt := by have hcv := n_eq c44; exact hcv
        refine wp_aload_n C 0 dX12_list_54 rfl rfl ?_
        refine wp_getR C dX12_list_55 fX12_list_65 hM.ob (hM.rf 27 rfl) ?_
        refine wp_bipush C 10 dX12_list_58 (by decide) ?_
        refine wp_iload_n C 1 dX12_list_60 rfl rfl ?_
        refine wp_imul C dX12_list_61 ?_
        refine wp_iload_n C 2 dX12_list_62 rfl rfl ?_
        refine wp_iadd C dX12_list_63 ?_
        refine wp_iload_n C 3 dX12_list_64 rfl rfl ?_
        refine wp_zast C dX12_list_65 (hM.ar 27 rfl rfl) (j := 10 * b.toInt.toNat + e.toInt.toNat) (ix10 (by omega) (by omega)) (by omega) (by decide) hz65 ?_
        refine wp_iconst C 1 dX12_list_66 (by decide) ?_
        have hs0 : stLi a b e s = 0 := by simp only [stLi]; (repeat' split) <;> omega
        exact wp_zret C Z dX12_list_67 (by decide) (by decide) (by decide) ⟨by rw [bI_t hs0], rfl, rfl, by unfold aLi; rw [if_pos hs0]; exact ((((MX.i hA).t hM 0).f hM 0 0).r hM 27 (by unfold mR; omega) (10 * b.toInt.toNat + e.toInt.toNat) s)⟩
      · have c44 : (a 27 (10 * b.toInt.toNat + e.toInt.toNat)).toInt = s.toInt := by have hcv := p_eq c44; exact hcv
        refine wp_aload_n C 0 dX12_list_47 rfl rfl ?_
        refine wp_bipush C 8 dX12_list_48 (by decide) ?_
        refine wp_cVi C (As := [.int 8]) (rest := []) dX12_list_50 kX12_list_140 hM.ob (m_no _ hM 8) rfl (Nat.le_of_ble_eq_true rfl) (by decide) (by decide) ?_
        have hst : stLi a b e s = 8 := by simp only [stLi]; (repeat' split) <;> omega
        have hs0 : ¬ stLi a b e s = 0 := by rw [hst]; decide
        exact wp_zret C Z dX12_list_53 (by decide) (by decide) (by decide) ⟨by rw [bI_f hs0], rfl, rfl, by unfold aLi; rw [if_neg hs0, hst]; exact MX.no hA hM 8⟩
    · have c23 : ¬ (0 ≤ e.toInt ∧ e.toInt < (a 0 8).toInt) := fun z => absurd ((bI_t z).symm.trans c23) (by decide)
      refine wp_aload_n C 0 dX12_list_26 rfl rfl ?_
      refine wp_iconst C 1 dX12_list_27 (by decide) ?_
      refine wp_cVi C (As := [.int 1]) (rest := []) dX12_list_28 kX12_list_140 hM.ob (m_no _ hM 1) rfl (Nat.le_of_ble_eq_true rfl) (by decide) (by decide) ?_
      have hst : stLi a b e s = 1 := by simp only [stLi]; (repeat' split) <;> omega
      have hs0 : ¬ stLi a b e s = 0 := by rw [hst]; decide
      exact wp_zret C Z dX12_list_31 (by decide) (by decide) (by decide) ⟨by rw [bI_f hs0], rfl, rfl, by unfold aLi; rw [if_neg hs0, hst]; exact MX.no hA hM 1⟩
set_option maxRecDepth 100000 in
set_option maxHeartbeats 4000000 in
theorem m_isOpenTo (l : Launch) {T : gSh} {I : gI} {J : gJ} {R : gR} {m : Nat} {ad : Nat → Nat} (hM : MO T R m ad) {a : gI} {n : gJ} (hA : MA I J m ad a n) {b e : Int32} (hb : 0 ≤ b.toInt ∧ b.toInt < 12) (he : 0 ≤ e.toInt ∧ e.toInt < 10) : Con l yX12_isOpenTo wsX12_isOpenTo ({ frames := 0, cells := 0, slots := 0, locals := 0 }) [.ref m, .int b, .int e] T I J R (gP (some (.int (nI (tld a b e)))) T I J R) := by
  refine Con.mk (cc := cX12_isOpenTo) (maxL := 3) (ret := (some .boolean)) (by decide) rfl (Nat.le_of_ble_eq_true rfl) ?_
  intro E hE C Z hnm
  subst hE
  change WP E 3 0 0 T I J R 0 [(0, .ref m), (1, .int b), (2, .int e)] []
  refine wp_aload_n C 0 dX12_isOpenTo_0 rfl rfl ?_
  refine wp_getR C dX12_isOpenTo_1 fX12_isOpenTo_62 hM.ob (hM.rf 26 rfl) ?_
  refine wp_iload_n C 1 dX12_isOpenTo_4 rfl rfl ?_
  refine wp_zald C dX12_isOpenTo_5 (hM.ar 26 rfl rfl) (j := b.toInt.toNat) (nI_nat (by omega)) (by omega) (by decide) ?_
  refine wp_eqi (congrFun (hA.2.1 26 (by unfold mR; omega)) _) ?_
  refine wp_if_eq C 23 dX12_isOpenTo_6 (by decide) (fun c6 => ?_) (fun c6 => ?_)
  · have c6 : (a 26 b.toInt.toNat).toInt = 0 := by have hcv := p_eq c6; exact hcv
    refine wp_iconst C 1 dX12_isOpenTo_23 (by decide) ?_
    refine wp_goto C 28 dX12_isOpenTo_24 (by decide) ?_
    exact wp_zret C Z dX12_isOpenTo_28 (by decide) (by decide) (by decide) (by rw [show tld a b e = 1 from by simp only [tld]; (repeat' split) <;> omega]; exact gP_rf)
  · have c6 : ¬ (a 26 b.toInt.toNat).toInt = 0 := by have hcv := n_eq c6; exact hcv
    refine wp_aload_n C 0 dX12_isOpenTo_9 rfl rfl ?_
    refine wp_getR C dX12_isOpenTo_10 fX12_isOpenTo_65 hM.ob (hM.rf 27 rfl) ?_
    refine wp_bipush C 10 dX12_isOpenTo_13 (by decide) ?_
    refine wp_iload_n C 1 dX12_isOpenTo_15 rfl rfl ?_
    refine wp_imul C dX12_isOpenTo_16 ?_
    refine wp_iload_n C 2 dX12_isOpenTo_17 rfl rfl ?_
    refine wp_iadd C dX12_isOpenTo_18 ?_
    refine wp_zald C dX12_isOpenTo_19 (hM.ar 27 rfl rfl) (j := 10 * b.toInt.toNat + e.toInt.toNat) (ix10 (by omega) (by omega)) (by omega) (by decide) ?_
    refine wp_eqi (congrFun (hA.2.1 27 (by unfold mR; omega)) _) ?_
    refine wp_if_eq C 27 dX12_isOpenTo_20 (by decide) (fun c20 => ?_) (fun c20 => ?_)
    · have c20 : (a 27 (10 * b.toInt.toNat + e.toInt.toNat)).toInt = 0 := by have hcv := p_eq c20; exact hcv
      refine wp_iconst C 0 dX12_isOpenTo_27 (by decide) ?_
      exact wp_zret C Z dX12_isOpenTo_28 (by decide) (by decide) (by decide) (by rw [show tld a b e = 0 from by simp only [tld]; (repeat' split) <;> omega]; exact gP_rf)
    · have c20 : ¬ (a 27 (10 * b.toInt.toNat + e.toInt.toNat)).toInt = 0 := by have hcv := n_eq c20; exact hcv
      refine wp_iconst C 1 dX12_isOpenTo_23 (by decide) ?_
      refine wp_goto C 28 dX12_isOpenTo_24 (by decide) ?_
      exact wp_zret C Z dX12_isOpenTo_28 (by decide) (by decide) (by decide) (by rw [show tld a b e = 1 from by simp only [tld]; (repeat' split) <;> omega]; exact gP_rf)
set_option maxRecDepth 100000 in
set_option maxHeartbeats 4000000 in
theorem m_hears (l : Launch) {T : gSh} {I : gI} {J : gJ} {R : gR} {m : Nat} {ad : Nat → Nat} (hM : MO T R m ad) {a : gI} {n : gJ} (hA : MA I J m ad a n) (hN : okN a) (hB : okB a) (b e : Int32) : Con l yX12_hears wsX12_hears ({ frames := 1, cells := 0, slots := 0, locals := 22 }) [.ref m, .int b, .int e] T I J R (PZ T I J R m ad (.int (vHe a b e)) (u2 a 0 0 (nI (stHe a e))) n) := by
  refine Con.mk (cc := cX12_hears) (maxL := 3) (ret := (some .int)) (by decide) rfl (Nat.le_of_ble_eq_true rfl) ?_
  intro E hE C Z hnm
  subst hE
  change WP E 3 0 0 T I J R 0 [(0, .ref m), (1, .int b), (2, .int e)] []
  unfold okN at hN
  unfold okB at hB
  have hX1 := ((MX.i hA).t hM 0).f hM 0 0
  have htl := tld_le a b e
  refine wp_aload_n C 0 dX12_hears_0 rfl rfl ?_
  refine wp_iconst C 0 dX12_hears_1 (by decide) ?_
  refine wp_putI C dX12_hears_2 pX12_hears_134 (fun h => nomatch h) hM.ob ?_
  refine wp_aload_n C 0 dX12_hears_5 rfl rfl ?_
  refine wp_iconst C 0 dX12_hears_6 (by decide) ?_
  refine wp_putI C dX12_hears_7 pX12_hears_137 (fun h => nomatch h) hM.ob ?_
  refine wp_aload_n C 0 dX12_hears_10 rfl rfl ?_
  refine wp_iload_n C 2 dX12_hears_11 rfl rfl ?_
  refine wp_cVi C (As := [.int e]) (rest := []) dX12_hears_12 kX12_hears_170 hM.ob (m_isEditor _ hM e) rfl (Nat.le_of_ble_eq_true rfl) (by decide) (by decide) ?_
  refine wp_eqi (congrArg (fun z : Int32 => bI (0 ≤ e.toInt ∧ e.toInt < z.toInt)) (((u2_k _ _ _ _ (by decide) _).trans (u2_k _ _ _ _ (by decide) _)).trans (hA.1 8 (by decide)))) ?_
  refine wp_if_ne C 24 dX12_hears_15 (by decide) (fun c15 => ?_) (fun c15 => ?_)
  · have c15 : (0 ≤ e.toInt ∧ e.toInt < (a 0 8).toInt) := Classical.byContradiction (fun z => c15 (bI_f z))
    refine wp_aload_n C 0 dX12_hears_24 rfl rfl ?_
    refine wp_iload_n C 1 dX12_hears_25 rfl rfl ?_
    refine wp_cVi C (As := [.int b]) (rest := []) dX12_hears_26 kX12_hears_209 hM.ob (m_isBook _ hM b) rfl (Nat.le_of_ble_eq_true rfl) (by decide) (by decide) ?_
    refine wp_eqi (congrArg (fun z : Int32 => bI (0 ≤ b.toInt ∧ b.toInt < z.toInt)) (((u2_k _ _ _ _ (by decide) _).trans (u2_k _ _ _ _ (by decide) _)).trans (hA.1 21 (by decide)))) ?_
    refine wp_if_eq C 45 dX12_hears_29 (by decide) (fun c29 => ?_) (fun c29 => ?_)
    · have c29 : ¬ (0 ≤ b.toInt ∧ b.toInt < (a 0 21).toInt) := fun z => absurd ((bI_t z).symm.trans c29) (by decide)
      refine wp_iconst C 0 dX12_hears_45 (by decide) ?_
      have hst : stHe a e = 0 := by simp only [stHe]; (repeat' split) <;> omega
      exact wp_iret C Z dX12_hears_46 (by decide) (by decide) ⟨by unfold vHe; rw [if_pos hst]; exact (ite_zero (fun z => by omega)).symm, rfl, rfl, by rw [hst]; exact hX1⟩
    · have c29 : (0 ≤ b.toInt ∧ b.toInt < (a 0 21).toInt) := Classical.byContradiction (fun z => c29 (bI_f z))
      refine wp_aload_n C 0 dX12_hears_32 rfl rfl ?_
      refine wp_iload_n C 1 dX12_hears_33 rfl rfl ?_
      refine wp_iload_n C 2 dX12_hears_34 rfl rfl ?_
      refine wp_cVi C (As := [.int b, .int e]) (rest := []) dX12_hears_35 kX12_hears_212 hM.ob (m_isOpenTo _ hM hX1.2 (by omega) (by omega)) rfl (Nat.le_of_ble_eq_true rfl) (by decide) (by decide) ?_
      refine wp_eqi (show nI (tld (u2 a 0 0 0) b e) = nI (tld a b e) from rfl) ?_
      refine wp_if_eq C 45 dX12_hears_38 (by decide) (fun c38 => ?_) (fun c38 => ?_)
      · have c38 : ((tld a b e : Nat) : Int) = 0 := by have hcv := p_eq c38; rw [nI_toInt (show tld a b e < 2 ^ 31 by omega)] at hcv; exact hcv
        refine wp_iconst C 0 dX12_hears_45 (by decide) ?_
        have hst : stHe a e = 0 := by simp only [stHe]; (repeat' split) <;> omega
        exact wp_iret C Z dX12_hears_46 (by decide) (by decide) ⟨by unfold vHe; rw [if_pos hst]; exact (ite_zero (fun z => by omega)).symm, rfl, rfl, by rw [hst]; exact hX1⟩
      · have c38 : ¬ ((tld a b e : Nat) : Int) = 0 := by have hcv := n_eq c38; rw [nI_toInt (show tld a b e < 2 ^ 31 by omega)] at hcv; exact hcv
        refine wp_iconst C 1 dX12_hears_41 (by decide) ?_
        refine wp_goto C 46 dX12_hears_42 (by decide) ?_
        have hst : stHe a e = 0 := by simp only [stHe]; (repeat' split) <;> omega
        exact wp_iret C Z dX12_hears_46 (by decide) (by decide) ⟨by unfold vHe; rw [if_pos hst, if_pos (by omega), show tld a b e = 1 by omega]; rfl, rfl, rfl, by rw [hst]; exact hX1⟩
  · have c15 : ¬ (0 ≤ e.toInt ∧ e.toInt < (a 0 8).toInt) := fun z => absurd ((bI_t z).symm.trans c15) (by decide)
    refine wp_aload_n C 0 dX12_hears_18 rfl rfl ?_
    refine wp_iconst C 1 dX12_hears_19 (by decide) ?_
    refine wp_cVi C (As := [.int 1]) (rest := []) dX12_hears_20 kX12_hears_164 hM.ob (m_refuse _ hM 1) rfl (Nat.le_of_ble_eq_true rfl) (by decide) (by decide) ?_
    have hst : stHe a e = 1 := by simp only [stHe]; (repeat' split) <;> omega
    exact wp_iret C Z dX12_hears_23 (by decide) (by decide) ⟨by unfold vHe; rw [if_neg (by rw [hst]; decide)], rfl, rfl, by rw [hst]; exact MX.no hA hM 1⟩
