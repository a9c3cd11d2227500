/-! ===== option, may ===== -/
def oN_ (a : gI) : Nat := (a 0 23).toInt.toNat
/-- 1 if an option bars -/
def brN (a : gI) (b e mi : Int32) : Nat := if ff (barN a b e mi) (oN_ a) < oN_ a then 1 else 0
theorem brN_le (a : gI) (b e mi : Int32) : brN a b e mi ≤ 1 := by unfold brN; split <;> omega
theorem barN_le (a : gI) (b e mi : Int32) (i : Nat) : barN a b e mi i ≤ 1 := by unfold barN; split <;> omega
theorem bar_T {a : gI} {b e mi : Int32} {i : Nat} : barN a b e mi i = 0 ↔ ((a 36 i).toInt = b.toInt ∧ ¬ (a 37 i).toInt = e.toInt ∧ (a 38 i).toInt ≤ mi.toInt ∧ mi.toInt ≤ (a 39 i).toInt) := by
  unfold barN
  rw [← i_eq, ← i_eq]
  by_cases h : a 36 i = b ∧ a 37 i ≠ e ∧ (a 38 i).toInt ≤ mi.toInt ∧ mi.toInt ≤ (a 39 i).toInt
  · rw [if_pos h]; exact ⟨fun _ => h, fun _ => rfl⟩
  · rw [if_neg h]; exact ⟨fun z => absurd z (by decide), fun z => absurd z h⟩
/-- 1 if it may be offered -/
def mbN (a : gI) (b e : Int32) (v : Nat → Int32) (mi : Int32) : Nat := if tld a b e = 1 then (if brN a b e mi = 0 then (if clN a b v = 0 then 1 else 0) else 0) else 0
theorem mbN_le (a : gI) (b e : Int32) (v : Nat → Int32) (mi : Int32) : mbN a b e v mi ≤ 1 := by simp only [mbN]; (repeat' split) <;> omega
theorem brN_st (a : gI) (s b e mi : Int32) : brN (u2 a 0 0 s) b e mi = brN a b e mi := rfl
theorem mbN_st (a : gI) (s b e : Int32) (v : Nat → Int32) (mi : Int32) : mbN (u2 a 0 0 s) b e v mi = mbN a b e v mi := by
  unfold mbN
  rw [(clN_st a s b v).1, brN_st]
  rfl
def stOp (a : gI) (b e x y : Int32) : Nat := if (0 ≤ b.toInt ∧ b.toInt < (a 0 21).toInt) ∧ (0 ≤ e.toInt ∧ e.toInt < (a 0 8).toInt) then (if (0 ≤ x.toInt ∧ x.toInt ≤ 100000) ∧ (0 ≤ y.toInt ∧ y.toInt ≤ 100000) ∧ x.toInt ≤ y.toInt then (if (a 0 23).toInt < 30 then 0 else 7) else 2) else 1
theorem stOp_le (a : gI) (b e x y : Int32) : stOp a b e x y ≤ 7 := by simp only [stOp]; (repeat' split) <;> omega
theorem stOp_ok {a : gI} {b e x y : Int32} (z : stOp a b e x y = 0) : (a 0 23).toInt < 30 := by
  simp only [stOp] at z; (repeat' split at z) <;> omega
/-- an option more -/
def aO (a : gI) (b e x y : Int32) : gI := u2 (u2 (u2 (u2 (u2 a 36 (oN_ a) b) 37 (oN_ a) e) 38 (oN_ a) x) 39 (oN_ a) y) 0 23 (a 0 23 + 1)
def aOp (a : gI) (b e x y : Int32) : gI := if stOp a b e x y = 0 then aO (u2 a 0 0 0) b e x y else u2 a 0 0 (nI (stOp a b e x y))
def stMa (a : gI) (b e : Int32) (v : Nat → Int32) (mi : Int32) : Nat := if (0 ≤ b.toInt ∧ b.toInt < (a 0 21).toInt) ∧ (0 ≤ e.toInt ∧ e.toInt < (a 0 8).toInt) then (if can v = 1 ∧ (0 ≤ mi.toInt ∧ mi.toInt ≤ 100000) then 0 else 2) else 1
theorem stMa_le (a : gI) (b e : Int32) (v : Nat → Int32) (mi : Int32) : stMa a b e v mi ≤ 2 := by simp only [stMa]; (repeat' split) <;> omega
theorem stMa_ok {a : gI} {b e : Int32} {v : Nat → Int32} {mi : Int32} (z : stMa a b e v mi = 0) : (0 ≤ b.toInt ∧ b.toInt < (a 0 21).toInt) ∧ (0 ≤ e.toInt ∧ e.toInt < (a 0 8).toInt) ∧ can v = 1 ∧ (0 ≤ mi.toInt ∧ mi.toInt ≤ 100000) := by
  simp only [stMa] at z; (repeat' split at z) <;> omega
def vMa (a : gI) (b e : Int32) (v : Nat → Int32) (mi : Int32) : Int32 := if stMa a b e v mi = 0 then nI (mbN a b e v mi) else -1
def okO (a : gI) : Prop := 0 ≤ (a 0 23).toInt ∧ (a 0 23).toInt ≤ 30
theorem KO.ar {T : gSh} {I : gI} {R : gR} {ca : Nat → Nat} {a : gI} (k : KO T I R ca a) : I (ca 3) 5 = a 0 23 ∧ 0 ≤ (a 0 23).toInt ∧ (a 0 23).toInt ≤ 30 := by
  obtain ⟨o, k1, k2, k3, -⟩ := k
  exact ⟨k2.trans k3.symm, by rw [k3, nI_toInt (by omega)]; omega, by rw [k3, nI_toInt (by omega)]; omega⟩
theorem KA.addO {T : gSh} {I : gI} {J : gJ} {R : gR} {ca : Nat → Nat} {a : gI} {n : gJ} (k : KA T I J R ca a n) {q : Nat} {b e x y : Int32} (h30 : (a 0 23).toInt < 30) (ho : OB T q 7) (hq : I q 0 = b ∧ I q 1 = e ∧ I q 2 = x ∧ I q 3 = y) : KA T (u2 I (ca 3) 5 (a 0 23 + 1)) J (u2 R (ca 28) (oN_ a) (some q)) ca (aO a b e x y) n := by
  have hC := k.1
  have n328 := hC.ne 3 28 (by omega) (by omega) (by omega)
  have n273 := hC.ne 27 28 (by omega) (by omega) (by omega)
  obtain ⟨o, k1, k2, k3, oa, k4⟩ := k.2.2.2.2.2.2.2.1
  have eo : oN_ a = o := by unfold oN_; rw [k3, nI_toInt (by omega)]; rfl
  have o30 : o < 30 := by rw [k3, nI_toInt (by omega)] at h30; omega
  have hx : ExL T T I (u2 I (ca 3) 5 (a 0 23 + 1)) J J R (u2 R (ca 28) (oN_ a) (some q)) ca [3, 28] := ((ExL.rf (by decide)).pI (i := 3) (by decide) 5 _).pR (i := 28) (by decide) _ _
  have rr : ∀ r, r ≠ 0 → r < 36 ∨ 39 < r → aO a b e x y r = a r := fun r h0 hr => by
    unfold aO
    rw [u2_rown _ _ _ _ h0, u2_rown _ _ _ _ (by omega), u2_rown _ _ _ _ (by omega), u2_rown _ _ _ _ (by omega), u2_rown _ _ _ _ (by omega)]
  have r0 : ∀ i, i ≠ 23 → aO a b e x y 0 i = a 0 i := fun i hi => by
    unfold aO
    rw [u2_k _ _ _ _ hi, u2_a _ _ _ _ (by decide), u2_a _ _ _ _ (by decide), u2_a _ _ _ _ (by decide), u2_a _ _ _ _ (by decide)]
  have rn : ∀ r i, r ≠ 0 → i ≠ o → aO a b e x y r i = a r i := fun r i h0 hi => by
    unfold aO
    rw [eo, u2_a _ _ _ _ h0, u2_k _ _ _ _ hi, u2_k _ _ _ _ hi, u2_k _ _ _ _ hi, u2_k _ _ _ _ hi]
  have e3 : ∀ i, i ≠ 5 → u2 I (ca 3) 5 (a 0 23 + 1) (ca 3) i = I (ca 3) i := fun i hi => u2_k _ _ _ _ hi _
  refine k.onB hx (by decide) (u2_rown _ _ _ _ n328) (k.2.2.2.2.2.1.ex hC hx (by decide) (e3 0 (by decide)) (r0 21 (by decide)) (rr 26 (by decide) (by omega)) (rr 27 (by decide) (by omega))) (k.2.2.2.2.2.2.1.ex hC hx (by decide) (e3 3 (by decide)) (r0 22 (by decide)) (fun r h1 h2 => rr r (by omega) (by omega))) ?_ (fun i hi => r0 i (by omega)) (fun r h1 h2 => rr r h1 (by omega))
  refine ⟨o + 1, by omega, by rw [u2_s, k3, nI_1], by unfold aO; rw [u2_s, k3, nI_1], va_up oa o q, fun i hi => ?_⟩
  rw [eo]
  by_cases z : i = o
  · subst z
    rw [vu_s, u2_s]
    refine ⟨rfl, ho, fun k hk => ?_⟩
    rw [u2_rown _ _ _ _ (hC.nd ho (by unfold dyn; omega) (by omega))]
    rcases (show k = 0 ∨ k = 1 ∨ k = 2 ∨ k = 3 by omega) with rfl | rfl | rfl | rfl <;> (unfold aO; rw [eo]; simp [u2, hq.1, hq.2.1, hq.2.2.1, hq.2.2.2])
  · obtain ⟨p1, p2, p3⟩ := k4 i (by omega)
    rw [vu_n _ _ z, u2_k _ _ _ _ z]
    exact ⟨p1, p2, fun k hk => by rw [u2_rown _ _ _ _ (hC.nd p2 (by unfold dyn; omega) (by omega)), rn _ i (by omega) z]; exact p3 k hk⟩
theorem newO {T : gSh} {I : gI} {J : gJ} {R : gR} {ca : Nat → Nat} {a : gI} {n : gJ} (k : KA T I J R ca a n) {q : Nat} (hq : q ∉ T.1) (b e x y : Int32) : KA (T.1 ++ [q], va_up T.2.1 q 7, va_up T.2.2 q 0) (u2 (u2 (u2 (u2 (va_up I q (fun _ => 0)) q 0 b) q 1 e) q 2 x) q 3 y) (va_up J q (fun _ => 0)) (va_up R q (fun _ => none)) ca a n ∧ OB (T.1 ++ [q], va_up T.2.1 q 7, va_up T.2.2 q 0) q 7 ∧ ((u2 (u2 (u2 (u2 (va_up I q (fun _ => 0)) q 0 b) q 1 e) q 2 x) q 3 y) q 0 = b ∧ (u2 (u2 (u2 (u2 (va_up I q (fun _ => 0)) q 0 b) q 1 e) q 2 x) q 3 y) q 1 = e ∧ (u2 (u2 (u2 (u2 (va_up I q (fun _ => 0)) q 0 b) q 1 e) q 2 x) q 3 y) q 2 = x ∧ (u2 (u2 (u2 (u2 (va_up I q (fun _ => 0)) q 0 b) q 1 e) q 2 x) q 3 y) q 3 = y) ∧ ExL T (T.1 ++ [q], va_up T.2.1 q 7, va_up T.2.2 q 0) I (u2 (u2 (u2 (u2 (va_up I q (fun _ => 0)) q 0 b) q 1 e) q 2 x) q 3 y) J (va_up J q (fun _ => 0)) R (va_up R q (fun _ => none)) ca [] := by
  have hx : ExL T (T.1 ++ [q], va_up T.2.1 q 7, va_up T.2.2 q 0) I (u2 (u2 (u2 (u2 (va_up I q (fun _ => 0)) q 0 b) q 1 e) q 2 x) q 3 y) J (va_up J q (fun _ => 0)) R (va_up R q (fun _ => none)) ca [] := (((((ExL.rf (fun i hi => by cases hi)).push hq).nI hq 0 b).nI hq 1 e).nI hq 2 x).nI hq 3 y
  exact ⟨k.grow hx, OB.new, by simp [u2], hx⟩
set_option maxRecDepth 100000 in
set_option maxHeartbeats 4000000 in
theorem c_Option (l : Launch) {T : gSh} {I : gI} {J : gJ} {R : gR} {o : Nat} (ho : OB T o 7) (b e x y : Int32) : Con l yX7_init wsX7_init ({ frames := 1, cells := 0, slots := 0, locals := 20 }) [.ref o, .int b, .int e, .int x, .int y] T I J R (gP none T (u2 (u2 (u2 (u2 I o 0 b) o 1 e) o 2 x) o 3 y) J R) := by
  refine Con.mk (cc := cX7_init) (maxL := 5) (ret := none) (by decide) rfl (Nat.le_of_ble_eq_true rfl) ?_
  intro E hE C Z hnm
  subst hE
  change WP E 5 0 0 T I J R 0 [(0, .ref o), (1, .int b), (2, .int e), (3, .int x), (4, .int y)] []
  refine wp_aload_n C 0 dX7_init_0 rfl rfl ?_
  refine wp_objInit C dX7_init_1 (by decide +kernel) (by decide +kernel) (by decide +kernel) (Nat.le_of_ble_eq_true rfl) (by decide) ?_
  refine wp_aload_n C 0 dX7_init_4 rfl rfl ?_
  refine wp_iload_n C 1 dX7_init_5 rfl rfl ?_
  refine wp_putI C dX7_init_6 pX7_init_7 (fun _ => hnm) ho ?_
  refine wp_aload_n C 0 dX7_init_9 rfl rfl ?_
  refine wp_iload_n C 2 dX7_init_10 rfl rfl ?_
  refine wp_putI C dX7_init_11 pX7_init_13 (fun _ => hnm) ho ?_
  refine wp_aload_n C 0 dX7_init_14 rfl rfl ?_
  refine wp_iload_n C 3 dX7_init_15 rfl rfl ?_
  refine wp_putI C dX7_init_16 pX7_init_16 (fun _ => hnm) ho ?_
  refine wp_aload_n C 0 dX7_init_19 rfl rfl ?_
  refine wp_iload C 4 dX7_init_20 rfl ?_
  refine wp_putI C dX7_init_22 pX7_init_19 (fun _ => hnm) ho ?_
  exact wp_vret C Z dX7_init_25 (by decide) (by decide) gP_rf
set_option maxRecDepth 100000 in
set_option maxHeartbeats 4000000 in
theorem c_bars (l : Launch) {T : gSh} {I : gI} {J : gJ} {R : gR} {o : Nat} (ho : OB T o 7) {a : gI} {i : Nat} (hk : ∀ k, k < 4 → I o k = a (36 + k) i) (b e mi : Int32) : Con l yX7_bars wsX7_bars ({ frames := 0, cells := 0, slots := 0, locals := 0 }) [.ref o, .int b, .int e, .int mi] T I J R (gP (some (.int (nI (1 - barN a b e mi i)))) T I J R) := by
  refine Con.mk (cc := cX7_bars) (maxL := 4) (ret := (some .boolean)) (by decide) rfl (Nat.le_of_ble_eq_true rfl) ?_
  intro E hE C Z hnm
  subst hE
  change WP E 4 0 0 T I J R 0 [(0, .ref o), (1, .int b), (2, .int e), (3, .int mi)] []
  have hb := bar_T (a := a) (b := b) (e := e) (mi := mi) (i := i)
  have hl := barN_le a b e mi i
  refine wp_aload_n C 0 dX7_bars_0 rfl rfl ?_
  refine wp_getI C dX7_bars_1 fX7_bars_7 ho ?_
  refine wp_eqi (show I o 0 = a 36 i from hk 0 (by decide)) ?_
  refine wp_iload_n C 1 dX7_bars_4 rfl rfl ?_
  refine wp_icmp_ne C 36 dX7_bars_5 (by decide) (fun c5 => ?_) (fun c5 => ?_)
  · have c5 : ¬ (a 36 i).toInt = b.toInt := by have hcv := n_eq c5; exact hcv
    refine wp_iconst C 0 dX7_bars_36 (by decide) ?_
    exact wp_zret C Z dX7_bars_37 (by decide) (by decide) (by decide) (by rw [show barN a b e mi i = 1 by omega]; exact gP_rf)
  · have c5 : (a 36 i).toInt = b.toInt := by have hcv := p_eq c5; exact hcv
    refine wp_aload_n C 0 dX7_bars_8 rfl rfl ?_
    refine wp_getI C dX7_bars_9 fX7_bars_13 ho ?_
    refine wp_eqi (show I o 1 = a 37 i from hk 1 (by decide)) ?_
    refine wp_iload_n C 2 dX7_bars_12 rfl rfl ?_
    refine wp_icmp_eq C 36 dX7_bars_13 (by decide) (fun c13 => ?_) (fun c13 => ?_)
    · have c13 : (a 37 i).toInt = e.toInt := by have hcv := p_eq c13; exact hcv
      refine wp_iconst C 0 dX7_bars_36 (by decide) ?_
      exact wp_zret C Z dX7_bars_37 (by decide) (by decide) (by decide) (by rw [show barN a b e mi i = 1 by omega]; exact gP_rf)
    · have c13 : ¬ (a 37 i).toInt = e.toInt := by have hcv := n_eq c13; exact hcv
      refine wp_aload_n C 0 dX7_bars_16 rfl rfl ?_
      refine wp_getI C dX7_bars_17 fX7_bars_16 ho ?_
      refine wp_eqi (show I o 2 = a 38 i from hk 2 (by decide)) ?_
      refine wp_iload_n C 3 dX7_bars_20 rfl rfl ?_
      refine wp_icmp_gt C 36 dX7_bars_21 (by decide) (fun c21 => ?_) (fun c21 => ?_)
      · have c21 : mi.toInt < (a 38 i).toInt := by have hcv := p_lt c21; exact hcv
        refine wp_iconst C 0 dX7_bars_36 (by decide) ?_
        exact wp_zret C Z dX7_bars_37 (by decide) (by decide) (by decide) (by rw [show barN a b e mi i = 1 by omega]; exact gP_rf)
      · have c21 : ¬ mi.toInt < (a 38 i).toInt := by have hcv := n_lt c21; exact hcv
        refine wp_iload_n C 3 dX7_bars_24 rfl rfl ?_
        refine wp_aload_n C 0 dX7_bars_25 rfl rfl ?_
        refine wp_getI C dX7_bars_26 fX7_bars_19 ho ?_
        refine wp_eqi (show I o 3 = a 39 i from hk 3 (by decide)) ?_
        refine wp_icmp_gt C 36 dX7_bars_29 (by decide) (fun c29 => ?_) (fun c29 => ?_)
        · have c29 : (a 39 i).toInt < mi.toInt := by have hcv := p_lt c29; exact hcv
          refine wp_iconst C 0 dX7_bars_36 (by decide) ?_
          exact wp_zret C Z dX7_bars_37 (by decide) (by decide) (by decide) (by rw [show barN a b e mi i = 1 by omega]; exact gP_rf)
        · have c29 : ¬ (a 39 i).toInt < mi.toInt := by have hcv := n_lt c29; exact hcv
          refine wp_iconst C 1 dX7_bars_32 (by decide) ?_
          refine wp_goto C 37 dX7_bars_33 (by decide) ?_
          exact wp_zret C Z dX7_bars_37 (by decide) (by decide) (by decide) (by rw [show barN a b e mi i = 0 by omega]; exact gP_rf)
set_option maxRecDepth 100000 in
set_option maxHeartbeats 4000000 in
theorem c_isBarred (l : Launch) {T : gSh} {I : gI} {J : gJ} {R : gR} {ca : Nat → Nat} {a : gI} {n : gJ} (hK : KA T I J R ca a n) (b e mi : Int32) : Con l yX2_isBarred wsX2_isBarred ({ frames := 1, cells := 0, slots := 0, locals := 23 }) [.ref (ca 3), .int b, .int e, .int mi] T I J R (gP (some (.int (nI (brN a b e mi)))) T I J R) := by
  refine Con.mk (cc := cX2_isBarred) (maxL := 5) (ret := (some .boolean)) (by decide) rfl (Nat.le_of_ble_eq_true rfl) ?_
  intro E hE C Z hnm
  subst hE
  change WP E 5 0 0 T I J R 0 [(0, .ref (ca 3)), (1, .int b), (2, .int e), (3, .int mi)] []
  obtain ⟨o, o30, e35, e23, oa, k4⟩ := hK.2.2.2.2.2.2.2.1
  have eo : oN_ a = o := by unfold oN_; rw [e23, nI_toInt (by omega)]; rfl
  have loop : ∀ i, i ≤ o → (∀ j, j < i → barN a b e mi j ≠ 0) → ∀ lv, lv_pick lv [0, 1, 2, 3, 4] = [(0, .ref (ca 3)), (1, .int b), (2, .int e), (3, .int mi), (4, .int (nI i))] → WP E 5 0 0 T I J R 3 lv [] := by
    refine loopN o (fun i hi ih => ?_)
    intro hno lv hlv
    refine wp_lv [0, 1, 2, 3, 4] hlv ?_
    have hl := barN_le a b e mi i
    refine wp_iload C 4 dX2_isBarred_3 rfl ?_
    refine wp_aload_n C 0 dX2_isBarred_5 rfl rfl ?_
    refine wp_getI C dX2_isBarred_6 fX2_isBarred_31 (hK.1.ob 3 (by decide) rfl) ?_
    refine wp_eqi e35 ?_
    refine wp_icmp_ge C 36 dX2_isBarred_9 (by decide) (fun c9 => ?_) (fun c9 => ?_)
    · have c9 : ((o : Nat) : Int) ≤ ((i : Nat) : Int) := by have hcv := p_le c9; rw [nI_toInt (show o < 2 ^ 31 by omega), nI_toInt (show i < 2 ^ 31 by omega)] at hcv; exact hcv
      refine wp_iconst C 0 dX2_isBarred_36 (by decide) ?_
      have e9 : o = i := by omega
      exact wp_zret C Z dX2_isBarred_37 (by decide) (by decide) (by decide) (by rw [show brN a b e mi = 0 from by unfold brN; rw [eo, ff_none (fun j hj => hno j (by omega)), if_neg (Nat.lt_irrefl _)]]; exact gP_rf)
    · have c9 : ¬ ((o : Nat) : Int) ≤ ((i : Nat) : Int) := by have hcv := n_le c9; rw [nI_toInt (show o < 2 ^ 31 by omega), nI_toInt (show i < 2 ^ 31 by omega)] at hcv; exact hcv
      refine wp_aload_n C 0 dX2_isBarred_12 rfl rfl ?_
      refine wp_getR C dX2_isBarred_13 fX2_isBarred_36 (hK.1.ob 3 (by decide) rfl) (hK.1.rf 3 6 28 (by decide)) ?_
      refine wp_iload C 4 dX2_isBarred_16 rfl ?_
      refine wp_aald C RX7 dX2_isBarred_18 (hK.1.ar 28 (by decide) rfl) (by decide) rfl (j := i) rfl (by omega) (by decide) (k4 i (by omega)).1 ?_
      refine wp_iload_n C 1 dX2_isBarred_19 rfl rfl ?_
      refine wp_iload_n C 2 dX2_isBarred_20 rfl rfl ?_
      refine wp_iload_n C 3 dX2_isBarred_21 rfl rfl ?_
      refine wp_cVi C (As := [.int b, .int e, .int mi]) (rest := []) dX2_isBarred_22 kX2_isBarred_68 (k4 i (by omega)).2.1 (c_bars _ (k4 i (by omega)).2.1 (k4 i (by omega)).2.2 b e mi) rfl (Nat.le_of_ble_eq_true rfl) (by decide) (by decide) ?_
      refine wp_if_eq C 30 dX2_isBarred_25 (by decide) (fun c25 => ?_) (fun c25 => ?_)
      · have c25 : (((1 - barN a b e mi i) : Nat) : Int) = 0 := by have hcv := p_eq c25; rw [nI_toInt (show (1 - barN a b e mi i) < 2 ^ 31 by omega)] at hcv; exact hcv
        refine wp_iinc C 4 (nI (i + 1)) [(4, .int (nI (i + 1))), (0, .ref (ca 3)), (1, .int b), (2, .int e), (3, .int mi)] dX2_isBarred_30 rfl (nI_1 i) (by decide) rfl ?_
        refine wp_goto C 3 dX2_isBarred_33 (by decide) ?_
        refine wp_lv [1, 2, 3, 4, 0] rfl ?_
        refine ih (i + 1) (by omega) (by omega) (fun j hj => ?_) _ rfl
        by_cases z : j = i
        · rw [z]; omega
        · exact hno j (by omega)
      · have c25 : ¬ (((1 - barN a b e mi i) : Nat) : Int) = 0 := by have hcv := n_eq c25; rw [nI_toInt (show (1 - barN a b e mi i) < 2 ^ 31 by omega)] at hcv; exact hcv
        refine wp_iconst C 1 dX2_isBarred_28 (by decide) ?_
        have hfi : ff (barN a b e mi) o = i := ff_eq (by omega) (by omega) hno
        exact wp_zret C Z dX2_isBarred_29 (by decide) (by decide) (by decide) (by rw [show brN a b e mi = 1 from by unfold brN; rw [eo, hfi, if_pos (by omega)]]; exact gP_rf)
  refine wp_iconst C 0 dX2_isBarred_0 (by decide) ?_
  refine wp_istore C [(4, .int 0), (0, .ref (ca 3)), (1, .int b), (2, .int e), (3, .int mi)] dX2_isBarred_1 (by decide) rfl ?_
  refine wp_lv [1, 2, 3, 4, 0] rfl ?_
  exact loop 0 (by omega) (fun j hj => by omega) _ rfl
set_option maxRecDepth 100000 in
set_option maxHeartbeats 4000000 in
theorem c_mayBeOffered (l : Launch) {T : gSh} {I : gI} {J : gJ} {R : gR} {ca : Nat → Nat} {a : gI} {n : gJ} (hK : KA T I J R ca a n) {b e : Int32} (hb : 0 ≤ b.toInt ∧ b.toInt < 12) (he : 0 ≤ e.toInt ∧ e.toInt < 10) {s : Nat} {v : Nat → Int32} (hs : RI T I s v) (hv : vB v) (mi : Int32) : Con l yX2_mayBeOffered wsX2_mayBeOffered ({ frames := 5, cells := 0, slots := 0, locals := 110 }) [.ref (ca 3), .int b, .int e, .ref s, .int mi] T I J R (gP (some (.int (nI (mbN a b e v mi)))) T I J R) := by
  refine Con.mk (cc := cX2_mayBeOffered) (maxL := 5) (ret := (some .boolean)) (by decide) rfl (Nat.le_of_ble_eq_true rfl) ?_
  intro E hE C Z hnm
  subst hE
  change WP E 5 0 0 T I J R 0 [(0, .ref (ca 3)), (1, .int b), (2, .int e), (3, .ref s), (4, .int mi)] []
  have q1 := tld_le a b e
  have q2 := brN_le a b e mi
  have q3 := clN_le a b v
  refine wp_aload_n C 0 dX2_mayBeOffered_0 rfl rfl ?_
  refine wp_iload_n C 1 dX2_mayBeOffered_1 rfl rfl ?_
  refine wp_iload_n C 2 dX2_mayBeOffered_2 rfl rfl ?_
  refine wp_cVi C (As := [.int b, .int e]) (rest := []) dX2_mayBeOffered_3 kX2_mayBeOffered_57 (hK.1.ob 3 (by decide) rfl) (c_isTold _ hK hb he) rfl (Nat.le_of_ble_eq_true rfl) (by decide) (by decide) ?_
  refine wp_if_eq C 33 dX2_mayBeOffered_6 (by decide) (fun c6 => ?_) (fun c6 => ?_)
  · have c6 : ((tld a b e : Nat) : Int) = 0 := by have hcv := p_eq c6; rw [nI_toInt (show tld a b e < 2 ^ 31 by omega)] at hcv; exact hcv
    refine wp_iconst C 0 dX2_mayBeOffered_33 (by decide) ?_
    exact wp_zret C Z dX2_mayBeOffered_34 (by decide) (by decide) (by decide) (by rw [show mbN a b e v mi = 0 from by simp only [mbN]; (repeat' split) <;> omega]; exact gP_rf)
  · have c6 : ¬ ((tld a b e : Nat) : Int) = 0 := by have hcv := n_eq c6; rw [nI_toInt (show tld a b e < 2 ^ 31 by omega)] at hcv; exact hcv
    refine wp_aload_n C 0 dX2_mayBeOffered_9 rfl rfl ?_
    refine wp_iload_n C 1 dX2_mayBeOffered_10 rfl rfl ?_
    refine wp_iload_n C 2 dX2_mayBeOffered_11 rfl rfl ?_
    refine wp_iload C 4 dX2_mayBeOffered_12 rfl ?_
    refine wp_cVi C (As := [.int b, .int e, .int mi]) (rest := []) dX2_mayBeOffered_14 kX2_mayBeOffered_60 (hK.1.ob 3 (by decide) rfl) (c_isBarred _ hK b e mi) rfl (Nat.le_of_ble_eq_true rfl) (by decide) (by decide) ?_
    refine wp_if_ne C 33 dX2_mayBeOffered_17 (by decide) (fun c17 => ?_) (fun c17 => ?_)
    · have c17 : ¬ ((brN a b e mi : Nat) : Int) = 0 := by have hcv := n_eq c17; rw [nI_toInt (show brN a b e mi < 2 ^ 31 by omega)] at hcv; exact hcv
      refine wp_iconst C 0 dX2_mayBeOffered_33 (by decide) ?_
      exact wp_zret C Z dX2_mayBeOffered_34 (by decide) (by decide) (by decide) (by rw [show mbN a b e v mi = 0 from by simp only [mbN]; (repeat' split) <;> omega]; exact gP_rf)
    · have c17 : ((brN a b e mi : Nat) : Int) = 0 := by have hcv := p_eq c17; rw [nI_toInt (show brN a b e mi < 2 ^ 31 by omega)] at hcv; exact hcv
      refine wp_aload_n C 0 dX2_mayBeOffered_20 rfl rfl ?_
      refine wp_iload_n C 1 dX2_mayBeOffered_21 rfl rfl ?_
      refine wp_aload_n C 3 dX2_mayBeOffered_22 rfl rfl ?_
      refine wp_cVi C (As := [.int b, .ref s]) (rest := []) dX2_mayBeOffered_23 kX2_mayBeOffered_64 (hK.1.ob 3 (by decide) rfl) (c_wouldClash _ hK hs hv b) rfl (Nat.le_of_ble_eq_true rfl) (by decide) (by decide) ?_
      refine wp_if_ne C 33 dX2_mayBeOffered_26 (by decide) (fun c26 => ?_) (fun c26 => ?_)
      · have c26 : ¬ ((clN a b v : Nat) : Int) = 0 := by have hcv := n_eq c26; rw [nI_toInt (show clN a b v < 2 ^ 31 by omega)] at hcv; exact hcv
        refine wp_iconst C 0 dX2_mayBeOffered_33 (by decide) ?_
        exact wp_zret C Z dX2_mayBeOffered_34 (by decide) (by decide) (by decide) (by rw [show mbN a b e v mi = 0 from by simp only [mbN]; (repeat' split) <;> omega]; exact gP_rf)
      · have c26 : ((clN a b v : Nat) : Int) = 0 := by have hcv := p_eq c26; rw [nI_toInt (show clN a b v < 2 ^ 31 by omega)] at hcv; exact hcv
        refine wp_iconst C 1 dX2_mayBeOffered_29 (by decide) ?_
        refine wp_goto C 34 dX2_mayBeOffered_30 (by decide) ?_
        exact wp_zret C Z dX2_mayBeOffered_34 (by decide) (by decide) (by decide) (by rw [show mbN a b e v mi = 1 from by simp only [mbN]; (repeat' split) <;> omega]; exact gP_rf)
set_option maxRecDepth 100000 in
set_option maxHeartbeats 4000000 in
theorem c_statusOfOption (l : Launch) {T : gSh} {I : gI} {J : gJ} {R : gR} {ca : Nat → Nat} {a : gI} {n : gJ} (hK : KA T I J R ca a n) (b e x y : Int32) : Con l yX11_statusOfOption wsX11_statusOfOption ({ frames := 1, cells := 0, slots := 0, locals := 21 }) [.ref (ca 0), .int b, .int e, .int x, .int y] T I J R (gP (some (.int (nI (stOp a b e x y)))) T I J R) := by
  refine Con.mk (cc := cX11_statusOfOption) (maxL := 5) (ret := (some .int)) (by decide) rfl (Nat.le_of_ble_eq_true rfl) ?_
  intro E hE C Z hnm
  subst hE
  change WP E 5 0 0 T I J R 0 [(0, .ref (ca 0)), (1, .int b), (2, .int e), (3, .int x), (4, .int y)] []
  have kn := hK.2.2.2.2.1.ar
  have kb := hK.2.2.2.2.2.1.ar
  have ko := hK.2.2.2.2.2.2.2.1.ar
  refine wp_aload_n C 0 dX11_statusOfOption_0 rfl rfl ?_
  refine wp_iload_n C 1 dX11_statusOfOption_1 rfl rfl ?_
  refine wp_cVi C (As := [.int b]) (rest := []) dX11_statusOfOption_2 kX11_statusOfOption_171 (hK.1.ob 0 (by decide) rfl) (c_isBook _ hK.1 b) rfl (Nat.le_of_ble_eq_true rfl) (by decide) (by decide) ?_
  refine wp_if_eq C 16 dX11_statusOfOption_5 (by decide) (fun c5 => ?_) (fun c5 => ?_)
  · have c5 : ¬ (0 ≤ b.toInt ∧ b.toInt < (I (ca 3) 0).toInt) := fun z => absurd ((bI_t z).symm.trans c5) (by decide)
    refine wp_iconst C 1 dX11_statusOfOption_16 (by decide) ?_
    exact wp_iret C Z dX11_statusOfOption_17 (by decide) (by decide) (by rw [show stOp a b e x y = 1 from by simp only [stOp]; (repeat' split) <;> omega]; exact gP_rf)
  · have c5 : (0 ≤ b.toInt ∧ b.toInt < (I (ca 3) 0).toInt) := Classical.byContradiction (fun z => c5 (bI_f z))
    refine wp_aload_n C 0 dX11_statusOfOption_8 rfl rfl ?_
    refine wp_iload_n C 2 dX11_statusOfOption_9 rfl rfl ?_
    refine wp_cVi C (As := [.int e]) (rest := []) dX11_statusOfOption_10 kX11_statusOfOption_122 (hK.1.ob 0 (by decide) rfl) (c_isEditor _ hK.1 e) rfl (Nat.le_of_ble_eq_true rfl) (by decide) (by decide) ?_
    refine wp_if_ne C 18 dX11_statusOfOption_13 (by decide) (fun c13 => ?_) (fun c13 => ?_)
    · have c13 : (0 ≤ e.toInt ∧ e.toInt < (I (ca 2) 1).toInt) := Classical.byContradiction (fun z => c13 (bI_f z))
      refine wp_iload_n C 3 dX11_statusOfOption_18 rfl rfl ?_
      refine wp_cSi C (As := [.int x]) (rest := []) dX11_statusOfOption_19 kX11_statusOfOption_255 (c_isMinute _ x) rfl (Nat.le_of_ble_eq_true rfl) (by decide) (by decide) ?_
      refine wp_if_eq C 39 dX11_statusOfOption_22 (by decide) (fun c22 => ?_) (fun c22 => ?_)
      · have c22 : ¬ (0 ≤ x.toInt ∧ x.toInt ≤ 100000) := fun z => absurd ((bI_t z).symm.trans c22) (by decide)
        refine wp_iconst C 2 dX11_statusOfOption_39 (by decide) ?_
        exact wp_iret C Z dX11_statusOfOption_40 (by decide) (by decide) (by rw [show stOp a b e x y = 2 from by simp only [stOp]; (repeat' split) <;> omega]; exact gP_rf)
      · have c22 : (0 ≤ x.toInt ∧ x.toInt ≤ 100000) := Classical.byContradiction (fun z => c22 (bI_f z))
        refine wp_iload C 4 dX11_statusOfOption_25 rfl ?_
        refine wp_cSi C (As := [.int y]) (rest := []) dX11_statusOfOption_27 kX11_statusOfOption_255 (c_isMinute _ y) rfl (Nat.le_of_ble_eq_true rfl) (by decide) (by decide) ?_
        refine wp_if_eq C 39 dX11_statusOfOption_30 (by decide) (fun c30 => ?_) (fun c30 => ?_)
        · have c30 : ¬ (0 ≤ y.toInt ∧ y.toInt ≤ 100000) := fun z => absurd ((bI_t z).symm.trans c30) (by decide)
          refine wp_iconst C 2 dX11_statusOfOption_39 (by decide) ?_
          exact wp_iret C Z dX11_statusOfOption_40 (by decide) (by decide) (by rw [show stOp a b e x y = 2 from by simp only [stOp]; (repeat' split) <;> omega]; exact gP_rf)
        · have c30 : (0 ≤ y.toInt ∧ y.toInt ≤ 100000) := Classical.byContradiction (fun z => c30 (bI_f z))
          refine wp_iload_n C 3 dX11_statusOfOption_33 rfl rfl ?_
          refine wp_iload C 4 dX11_statusOfOption_34 rfl ?_
          refine wp_icmp_le C 41 dX11_statusOfOption_36 (by decide) (fun c36 => ?_) (fun c36 => ?_)
          · have c36 : x.toInt ≤ y.toInt := by have hcv := p_le c36; exact hcv
            refine wp_aload_n C 0 dX11_statusOfOption_41 rfl rfl ?_
            refine wp_getR C dX11_statusOfOption_42 fX11_statusOfOption_26 (hK.1.ob 0 (by decide) rfl) (hK.1.rf 0 2 3 (by decide)) ?_
            refine wp_getI C dX11_statusOfOption_45 fX11_statusOfOption_258 (hK.1.ob 3 (by decide) rfl) ?_
            refine wp_eqi ko.1 ?_
            refine wp_bipush C 30 dX11_statusOfOption_48 (by decide) ?_
            refine wp_icmp_ge C 57 dX11_statusOfOption_50 (by decide) (fun c50 => ?_) (fun c50 => ?_)
            · have c50 : 30 ≤ (a 0 23).toInt := by have hcv := p_le c50; exact hcv
              refine wp_bipush C 7 dX11_statusOfOption_57 (by decide) ?_
              exact wp_iret C Z dX11_statusOfOption_59 (by decide) (by decide) (by rw [show stOp a b e x y = 7 from by simp only [stOp]; (repeat' split) <;> omega]; exact gP_rf)
            · have c50 : ¬ 30 ≤ (a 0 23).toInt := by have hcv := n_le c50; exact hcv
              refine wp_iconst C 0 dX11_statusOfOption_53 (by decide) ?_
              refine wp_goto C 59 dX11_statusOfOption_54 (by decide) ?_
              exact wp_iret C Z dX11_statusOfOption_59 (by decide) (by decide) (by rw [show stOp a b e x y = 0 from by simp only [stOp]; (repeat' split) <;> omega]; exact gP_rf)
          · have c36 : ¬ x.toInt ≤ y.toInt := by have hcv := n_le c36; exact hcv
            refine wp_iconst C 2 dX11_statusOfOption_39 (by decide) ?_
            exact wp_iret C Z dX11_statusOfOption_40 (by decide) (by decide) (by rw [show stOp a b e x y = 2 from by simp only [stOp]; (repeat' split) <;> omega]; exact gP_rf)
    · have c13 : ¬ (0 ≤ e.toInt ∧ e.toInt < (I (ca 2) 1).toInt) := fun z => absurd ((bI_t z).symm.trans c13) (by decide)
      refine wp_iconst C 1 dX11_statusOfOption_16 (by decide) ?_
      exact wp_iret C Z dX11_statusOfOption_17 (by decide) (by decide) (by rw [show stOp a b e x y = 1 from by simp only [stOp]; (repeat' split) <;> omega]; exact gP_rf)
set_option maxRecDepth 100000 in
set_option maxHeartbeats 4000000 in
theorem c_addOption (l : Launch) {T : gSh} {I : gI} {J : gJ} {R : gR} {ca : Nat → Nat} {a : gI} {n : gJ} (hK : KA T I J R ca a n) (h30 : (a 0 23).toInt < 30) {q : Nat} (ho : OB T q 7) : Con l yX2_addOption wsX2_addOption ({ frames := 0, cells := 0, slots := 0, locals := 0 }) [.ref (ca 3), .ref q] T I J R (gP none T (u2 I (ca 3) 5 (a 0 23 + 1)) J (u2 R (ca 28) (oN_ a) (some q))) := by
  refine Con.mk (cc := cX2_addOption) (maxL := 2) (ret := none) (by decide) rfl (Nat.le_of_ble_eq_true rfl) ?_
  intro E hE C Z hnm
  subst hE
  change WP E 2 0 0 T I J R 0 [(0, .ref (ca 3)), (1, .ref q)] []
  have ko := hK.2.2.2.2.2.2.2.1.ar
  refine wp_aload_n C 0 dX2_addOption_0 rfl rfl ?_
  refine wp_getR C dX2_addOption_1 fX2_addOption_36 (hK.1.ob 3 (by decide) rfl) (hK.1.rf 3 6 28 (by decide)) ?_
  refine wp_aload_n C 0 dX2_addOption_4 rfl rfl ?_
  refine wp_getI C dX2_addOption_5 fX2_addOption_31 (hK.1.ob 3 (by decide) rfl) ?_
  refine wp_eqi ko.1 ?_
  refine wp_aload_n C 1 dX2_addOption_8 rfl rfl ?_
  refine wp_aast C (RX7, TX7, 4) dX2_addOption_9 (hK.1.ar 28 (by decide) rfl) (by decide) rfl ho (by decide) rfl (j := oN_ a) (nI_nat (by omega)) (by unfold oN_; omega) (by decide) ?_
  refine wp_aload_n C 0 dX2_addOption_10 rfl rfl ?_
  refine wp_dup C dX2_addOption_11 rfl ?_
  refine wp_getI C dX2_addOption_12 fX2_addOption_31 (hK.1.ob 3 (by decide) rfl) ?_
  refine wp_eqi ko.1 ?_
  refine wp_iconst C 1 dX2_addOption_15 (by decide) ?_
  refine wp_iadd C dX2_addOption_16 ?_
  refine wp_putI C dX2_addOption_17 pX2_addOption_31 (fun h => nomatch h) (hK.1.ob 3 (by decide) rfl) ?_
  exact wp_vret C Z dX2_addOption_20 (by decide) (by decide) gP_rf
set_option maxRecDepth 100000 in
set_option maxHeartbeats 4000000 in
theorem c_option (l : Launch) {T : gSh} {I : gI} {J : gJ} {R : gR} {ca : Nat → Nat} {a : gI} {n : gJ} (hK : KA T I J R ca a n) (b e x y : Int32) : Con l yX11_option wsX11_option ({ frames := 2, cells := 1, slots := 4, locals := 45 }) [.ref (ca 0), .int b, .int e, .int x, .int y] T I J R (PQ T I J R ca (.int (bI (stOp a b e x y = 0))) (aOp a b e x y) n) := by
  refine Con.mk (cc := cX11_option) (maxL := 5) (ret := (some .boolean)) (by decide) rfl (Nat.le_of_ble_eq_true rfl) ?_
  intro E hE C Z hnm
  subst hE
  change WP E 5 0 0 T I J R 0 [(0, .ref (ca 0)), (1, .int b), (2, .int e), (3, .int x), (4, .int y)] []
  refine wp_aload_n C 0 dX11_option_0 rfl rfl ?_
  refine wp_aload_n C 0 dX11_option_1 rfl rfl ?_
  refine wp_iload_n C 1 dX11_option_2 rfl rfl ?_
  refine wp_iload_n C 2 dX11_option_3 rfl rfl ?_
  refine wp_iload_n C 3 dX11_option_4 rfl rfl ?_
  refine wp_iload C 4 dX11_option_5 rfl ?_
  refine wp_cVi C (As := [.int b, .int e, .int x, .int y]) (rest := [.ref (ca 0)]) dX11_option_7 kX11_option_242 (hK.1.ob 0 (by decide) rfl) (c_statusOfOption _ hK b e x y) rfl (Nat.le_of_ble_eq_true rfl) (by decide) (by decide) ?_
  refine wp_putI C dX11_option_10 pX11_option_41 (fun h => nomatch h) (hK.1.ob 0 (by decide) rfl) ?_
  refine wp_aload_n C 0 dX11_option_13 rfl rfl ?_
  refine wp_getI C dX11_option_14 fX11_option_41 (hK.1.ob 0 (by decide) rfl) ?_
  refine wp_eqi (u2_s _ _ _ _) ?_
  refine wp_if_eq C 22 dX11_option_17 (by decide) (fun c17 => ?_) (fun c17 => ?_)
  · have c17 : stOp a b e x y = 0 := by have hcv := p_eq c17; rw [nI_toInt (show stOp a b e x y < 2 ^ 31 by have := stOp_le a b e x y; omega)] at hcv; have hz0 : ((0 : Int32)).toInt = 0 := rfl; omega
    refine wp_eI (show _ = u2 I (ca 0) 5 0 by rw [c17]; rfl) ?_
    refine wp_aload_n C 0 dX11_option_22 rfl rfl ?_
    refine wp_getR C dX11_option_23 fX11_option_26 (hK.1.ob 0 (by decide) rfl) (hK.1.rf 0 2 3 (by decide)) ?_
    refine wp_new C dX11_option_26 nX11_option_246 (by decide) (by decide) ?_
    intro q hq
    refine wp_dup C dX11_option_29 rfl ?_
    refine wp_iload_n C 1 dX11_option_30 rfl rfl ?_
    refine wp_iload_n C 2 dX11_option_31 rfl rfl ?_
    refine wp_iload_n C 3 dX11_option_32 rfl rfl ?_
    refine wp_iload C 4 dX11_option_33 rfl ?_
    refine wp_cIv C (As := [.int b, .int e, .int x, .int y]) (rest := [.ref q, .ref (ca 3)]) dX11_option_35 kX11_option_248 (c_Option _ OB.new b e x y) rfl (Nat.le_of_ble_eq_true rfl) (by decide) (by decide) ?_
    refine wp_gen (fun T1 I1 J1 R1 => KA T1 I1 J1 R1 ca (u2 a 0 0 0) n ∧ OB T1 q 7 ∧ (I1 q 0 = b ∧ I1 q 1 = e ∧ I1 q 2 = x ∧ I1 q 3 = y) ∧ ExL T T1 (u2 I (ca 0) 5 0) I1 J J1 R R1 ca []) (newO (hK.st 0) hq b e x y) ?_
    intro T1 I1 J1 R1 hp
    refine wp_cVv C (As := [.ref q]) (rest := []) dX11_option_38 kX11_option_251 (hp.1.1.ob 3 (by decide) rfl) (c_addOption _ hp.1 (by rw [u2_k _ _ _ _ (by decide)]; exact stOp_ok c17) hp.2.1) rfl (Nat.le_of_ble_eq_true rfl) (by decide) (by decide) ?_
    refine wp_iconst C 1 dX11_option_41 (by decide) ?_
    have hk := hp.1.addO (b := b) (e := e) (x := x) (y := y) (by rw [u2_k _ _ _ _ (by decide)]; exact stOp_ok c17) hp.2.1 hp.2.2.1
    exact wp_zret C Z dX11_option_42 (by decide) (by decide) (by decide) ⟨by rw [bI_t c17], ((((FrC.rf T I J R ca).pI (i := 0) (by decide) 5 0).tr hp.2.2.2.frc).pI (i := 3) (by decide) 5 _).pR (i := 28) (by decide) _ _, by unfold aOp; rw [if_pos c17]; exact hk⟩
  · have c17 : ¬ stOp a b e x y = 0 := fun z => c17 (by rw [z]; rfl)
    refine wp_iconst C 0 dX11_option_20 (by decide) ?_
    exact wp_zret C Z dX11_option_21 (by decide) (by decide) (by decide) ⟨by rw [bI_f c17], (FrC.rf T I J R ca).pI (by decide) 5 _, by unfold aOp; rw [if_neg c17]; exact hK.st _⟩
set_option maxRecDepth 100000 in
set_option maxHeartbeats 4000000 in
theorem c_statusOfMay (l : Launch) {T : gSh} {I : gI} {J : gJ} {R : gR} {ca : Nat → Nat} {a : gI} {n : gJ} (hK : KA T I J R ca a n) {s : Nat} {v : Nat → Int32} (hs : RI T I s v) (b e mi : Int32) : Con l yX11_statusOfMay wsX11_statusOfMay ({ frames := 2, cells := 0, slots := 0, locals := 40 }) [.ref (ca 0), .int b, .int e, .ref s, .int mi] T I J R (gP (some (.int (nI (stMa a b e v mi)))) T I J R) := by
  refine Con.mk (cc := cX11_statusOfMay) (maxL := 5) (ret := (some .int)) (by decide) rfl (Nat.le_of_ble_eq_true rfl) ?_
  intro E hE C Z hnm
  subst hE
  change WP E 5 0 0 T I J R 0 [(0, .ref (ca 0)), (1, .int b), (2, .int e), (3, .ref s), (4, .int mi)] []
  have kn := hK.2.2.2.2.1.ar
  have kb := hK.2.2.2.2.2.1.ar
  have hca := can_le v
  refine wp_aload_n C 0 dX11_statusOfMay_0 rfl rfl ?_
  refine wp_iload_n C 1 dX11_statusOfMay_1 rfl rfl ?_
  refine wp_cVi C (As := [.int b]) (rest := []) dX11_statusOfMay_2 kX11_statusOfMay_171 (hK.1.ob 0 (by decide) rfl) (c_isBook _ hK.1 b) rfl (Nat.le_of_ble_eq_true rfl) (by decide) (by decide) ?_
  refine wp_if_eq C 16 dX11_statusOfMay_5 (by decide) (fun c5 => ?_) (fun c5 => ?_)
  · have c5 : ¬ (0 ≤ b.toInt ∧ b.toInt < (I (ca 3) 0).toInt) := fun z => absurd ((bI_t z).symm.trans c5) (by decide)
    refine wp_iconst C 1 dX11_statusOfMay_16 (by decide) ?_
    exact wp_iret C Z dX11_statusOfMay_17 (by decide) (by decide) (by rw [show stMa a b e v mi = 1 from by simp only [stMa]; (repeat' split) <;> omega]; exact gP_rf)
  · have c5 : (0 ≤ b.toInt ∧ b.toInt < (I (ca 3) 0).toInt) := Classical.byContradiction (fun z => c5 (bI_f z))
    refine wp_aload_n C 0 dX11_statusOfMay_8 rfl rfl ?_
    refine wp_iload_n C 2 dX11_statusOfMay_9 rfl rfl ?_
    refine wp_cVi C (As := [.int e]) (rest := []) dX11_statusOfMay_10 kX11_statusOfMay_122 (hK.1.ob 0 (by decide) rfl) (c_isEditor _ hK.1 e) rfl (Nat.le_of_ble_eq_true rfl) (by decide) (by decide) ?_
    refine wp_if_ne C 18 dX11_statusOfMay_13 (by decide) (fun c13 => ?_) (fun c13 => ?_)
    · have c13 : (0 ≤ e.toInt ∧ e.toInt < (I (ca 2) 1).toInt) := Classical.byContradiction (fun z => c13 (bI_f z))
      refine wp_aload_n C 3 dX11_statusOfMay_18 rfl rfl ?_
      refine wp_cVi C (As := []) (rest := []) dX11_statusOfMay_19 kX11_statusOfMay_192 hs.1 (c_canBe _ hs) rfl (Nat.le_of_ble_eq_true rfl) (by decide) (by decide) ?_
      refine wp_if_eq C 37 dX11_statusOfMay_22 (by decide) (fun c22 => ?_) (fun c22 => ?_)
      · have c22 : ((can v : Nat) : Int) = 0 := by have hcv := p_eq c22; rw [nI_toInt (show can v < 2 ^ 31 by omega)] at hcv; exact hcv
        refine wp_iconst C 2 dX11_statusOfMay_37 (by decide) ?_
        exact wp_iret C Z dX11_statusOfMay_38 (by decide) (by decide) (by rw [show stMa a b e v mi = 2 from by simp only [stMa]; (repeat' split) <;> omega]; exact gP_rf)
      · have c22 : ¬ ((can v : Nat) : Int) = 0 := by have hcv := n_eq c22; rw [nI_toInt (show can v < 2 ^ 31 by omega)] at hcv; exact hcv
        refine wp_iload C 4 dX11_statusOfMay_25 rfl ?_
        refine wp_cSi C (As := [.int mi]) (rest := []) dX11_statusOfMay_27 kX11_statusOfMay_255 (c_isMinute _ mi) rfl (Nat.le_of_ble_eq_true rfl) (by decide) (by decide) ?_
        refine wp_if_eq C 37 dX11_statusOfMay_30 (by decide) (fun c30 => ?_) (fun c30 => ?_)
        · have c30 : ¬ (0 ≤ mi.toInt ∧ mi.toInt ≤ 100000) := fun z => absurd ((bI_t z).symm.trans c30) (by decide)
          refine wp_iconst C 2 dX11_statusOfMay_37 (by decide) ?_
          exact wp_iret C Z dX11_statusOfMay_38 (by decide) (by decide) (by rw [show stMa a b e v mi = 2 from by simp only [stMa]; (repeat' split) <;> omega]; exact gP_rf)
        · have c30 : (0 ≤ mi.toInt ∧ mi.toInt ≤ 100000) := Classical.byContradiction (fun z => c30 (bI_f z))
          refine wp_iconst C 0 dX11_statusOfMay_33 (by decide) ?_
          refine wp_goto C 38 dX11_statusOfMay_34 (by decide) ?_
          exact wp_iret C Z dX11_statusOfMay_38 (by decide) (by decide) (by rw [show stMa a b e v mi = 0 from by simp only [stMa]; (repeat' split) <;> omega]; exact gP_rf)
    · have c13 : ¬ (0 ≤ e.toInt ∧ e.toInt < (I (ca 2) 1).toInt) := fun z => absurd ((bI_t z).symm.trans c13) (by decide)
      refine wp_iconst C 1 dX11_statusOfMay_16 (by decide) ?_
      exact wp_iret C Z dX11_statusOfMay_17 (by decide) (by decide) (by rw [show stMa a b e v mi = 1 from by simp only [stMa]; (repeat' split) <;> omega]; exact gP_rf)
set_option maxRecDepth 100000 in
set_option maxHeartbeats 4000000 in
theorem c_may (l : Launch) {T : gSh} {I : gI} {J : gJ} {R : gR} {ca : Nat → Nat} {a : gI} {n : gJ} (hK : KA T I J R ca a n) (b e p t f d u mi : Int32) : Con l yX11_may wsX11_may ({ frames := 6, cells := 1, slots := 5, locals := 134 }) [.ref (ca 0), .int b, .int e, .int p, .int t, .int f, .int d, .int u, .int mi] T I J R (PQ T I J R ca (.int (vMa a b e (rv p t f d u) mi)) (u2 a 0 0 (nI (stMa a b e (rv p t f d u) mi))) n) := by
  refine Con.mk (cc := cX11_may) (maxL := 10) (ret := (some .int)) (by decide) rfl (Nat.le_of_ble_eq_true rfl) ?_
  intro E hE C Z hnm
  subst hE
  change WP E 10 0 0 T I J R 0 [(0, .ref (ca 0)), (1, .int b), (2, .int e), (3, .int p), (4, .int t), (5, .int f), (6, .int d), (7, .int u), (8, .int mi)] []
  have kb := hK.2.2.2.2.2.1.ar
  have kn := hK.2.2.2.2.1.ar
  refine wp_new C dX11_may_0 nX11_may_180 (by decide) (by decide) ?_
  intro q hq
  refine wp_dup C dX11_may_3 rfl ?_
  refine wp_iload_n C 3 dX11_may_4 rfl rfl ?_
  refine wp_iload C 4 dX11_may_5 rfl ?_
  refine wp_iload C 5 dX11_may_7 rfl ?_
  refine wp_iload C 6 dX11_may_9 rfl ?_
  refine wp_iload C 7 dX11_may_11 rfl ?_
  refine wp_cIv C (As := [.int p, .int t, .int f, .int d, .int u]) (rest := [.ref q]) dX11_may_13 kX11_may_182 (c_Rights _ OB.new p t f d u) rfl (Nat.le_of_ble_eq_true rfl) (by decide) (by decide) ?_
  refine wp_gen (fun T1 I1 J1 R1 => KA T1 I1 J1 R1 ca a n ∧ RI T1 I1 q (rv p t f d u) ∧ ExL T T1 I I1 J J1 R R1 ca []) (newR hK hq p t f d u) ?_
  intro T1 I1 J1 R1 hp
  refine wp_astore C [(9, .ref q), (0, .ref (ca 0)), (1, .int b), (2, .int e), (3, .int p), (4, .int t), (5, .int f), (6, .int d), (7, .int u), (8, .int mi)] dX11_may_16 (by decide) rfl ?_
  refine wp_aload_n C 1 dX11_may_18 rfl rfl ?_
  refine wp_aload_n C 1 dX11_may_19 rfl rfl ?_
  refine wp_iload_n C 2 dX11_may_20 rfl rfl ?_
  refine wp_iload_n C 3 dX11_may_21 rfl rfl ?_
  refine wp_aload C 0 dX11_may_22 rfl ?_
  refine wp_iload C 9 dX11_may_24 rfl ?_
  refine wp_cVi C (As := [.int b, .int e, .ref q, .int mi]) (rest := [.ref (ca 0)]) dX11_may_26 kX11_may_261 (hp.1.1.ob 0 (by decide) rfl) (c_statusOfMay _ hp.1 hp.2.1 b e mi) rfl (Nat.le_of_ble_eq_true rfl) (by decide) (by decide) ?_
  refine wp_putI C dX11_may_29 pX11_may_41 (fun h => nomatch h) (hp.1.1.ob 0 (by decide) rfl) ?_
  refine wp_aload_n C 1 dX11_may_32 rfl rfl ?_
  refine wp_getI C dX11_may_33 fX11_may_41 (hp.1.1.ob 0 (by decide) rfl) ?_
  refine wp_eqi (u2_s _ _ _ _) ?_
  refine wp_if_eq C 41 dX11_may_36 (by decide) (fun c36 => ?_) (fun c36 => ?_)
  · have c36 : stMa a b e (rv p t f d u) mi = 0 := by have hcv := p_eq c36; rw [nI_toInt (show stMa a b e (rv p t f d u) mi < 2 ^ 31 by have := stMa_le a b e (rv p t f d u) mi; omega)] at hcv; have hz0 : ((0 : Int32)).toInt = 0 := rfl; omega
    have hsu := stMa_ok c36
    have hml := mbN_le a b e (rv p t f d u) mi
    refine wp_eI (show _ = u2 I1 (ca 0) 5 0 by rw [c36]; rfl) ?_
    refine wp_aload_n C 1 dX11_may_41 rfl rfl ?_
    refine wp_getR C dX11_may_42 fX11_may_26 (hp.1.1.ob 0 (by decide) rfl) (hp.1.1.rf 0 2 3 (by decide)) ?_
    refine wp_iload_n C 2 dX11_may_45 rfl rfl ?_
    refine wp_iload_n C 3 dX11_may_46 rfl rfl ?_
    refine wp_aload C 0 dX11_may_47 rfl ?_
    refine wp_iload C 9 dX11_may_49 rfl ?_
    refine wp_cVi C (As := [.int b, .int e, .ref q, .int mi]) (rest := []) dX11_may_51 kX11_may_265 (hp.1.1.ob 3 (by decide) rfl) (c_mayBeOffered _ (hp.1.st 0) (by omega) (by omega) (hp.2.1.st hp.1.1 0) (can_1 hsu.2.2.1).b mi) rfl (Nat.le_of_ble_eq_true rfl) (by decide) (by decide) ?_
    refine wp_eqi (congrArg nI (mbN_st a 0 b e _ mi)) ?_
    refine wp_if_eq C 61 dX11_may_54 (by decide) (fun c54 => ?_) (fun c54 => ?_)
    · have c54 : ((mbN a b e (rv p t f d u) mi : Nat) : Int) = 0 := by have hcv := p_eq c54; rw [nI_toInt (show mbN a b e (rv p t f d u) mi < 2 ^ 31 by omega)] at hcv; exact hcv
      refine wp_iconst C 0 dX11_may_61 (by decide) ?_
      exact wp_iret C Z dX11_may_62 (by decide) (by decide) ⟨by unfold vMa; rw [if_pos c36, show mbN a b e (rv p t f d u) mi = 0 by omega]; rfl, hp.2.2.frc.pI (by decide) 5 _, by rw [c36]; exact hp.1.st 0⟩
    · have c54 : ¬ ((mbN a b e (rv p t f d u) mi : Nat) : Int) = 0 := by have hcv := n_eq c54; rw [nI_toInt (show mbN a b e (rv p t f d u) mi < 2 ^ 31 by omega)] at hcv; exact hcv
      refine wp_iconst C 1 dX11_may_57 (by decide) ?_
      refine wp_goto C 62 dX11_may_58 (by decide) ?_
      exact wp_iret C Z dX11_may_62 (by decide) (by decide) ⟨by unfold vMa; rw [if_pos c36, show mbN a b e (rv p t f d u) mi = 1 by omega]; rfl, hp.2.2.frc.pI (by decide) 5 _, by rw [c36]; exact hp.1.st 0⟩
  · have c36 : ¬ stMa a b e (rv p t f d u) mi = 0 := fun z => c36 (by rw [z]; rfl)
    refine wp_iconst C (-1) dX11_may_39 (by decide) ?_
    exact wp_iret C Z dX11_may_40 (by decide) (by decide) ⟨by unfold vMa; rw [if_neg c36], hp.2.2.frc.pI (by decide) 5 _, hp.1.st _⟩
set_option maxRecDepth 100000 in
set_option maxHeartbeats 4000000 in
theorem m_option (l : Launch) {T : gSh} {I : gI} {J : gJ} {R : gR} {m : Nat} {ad : Nat → Nat} (hM : MO T R m ad) {a : gI} {n : gJ} (hA : MA I J m ad a n) (hO : okO a) (b e x y : Int32) : Con l yX12_option wsX12_option ({ frames := 1, cells := 0, slots := 0, locals := 21 }) [.ref m, .int b, .int e, .int x, .int y] T I J R (PZ T I J R m ad (.int (bI (stOp a b e x y = 0))) (aOp a b e x y) n) := by
  refine Con.mk (cc := cX12_option) (maxL := 5) (ret := (some .boolean)) (by decide) rfl (Nat.le_of_ble_eq_true rfl) ?_
  intro E hE C Z hnm
  subst hE
  change WP E 5 0 0 T I J R 0 [(0, .ref m), (1, .int b), (2, .int e), (3, .int x), (4, .int y)] []
  unfold okO at hO
  refine wp_aload_n C 0 dX12_option_0 rfl rfl ?_
  refine wp_iconst C 0 dX12_option_1 (by decide) ?_
  refine wp_putI C dX12_option_2 pX12_option_134 (fun h => nomatch h) hM.ob ?_
  refine wp_aload_n C 0 dX12_option_5 rfl rfl ?_
  refine wp_iconst C 0 dX12_option_6 (by decide) ?_
  refine wp_putI C dX12_option_7 pX12_option_137 (fun h => nomatch h) hM.ob ?_
  refine wp_aload_n C 0 dX12_option_10 rfl rfl ?_
  refine wp_iload_n C 1 dX12_option_11 rfl rfl ?_
  refine wp_cVi C (As := [.int b]) (rest := []) dX12_option_12 kX12_option_209 hM.ob (m_isBook _ hM b) rfl (Nat.le_of_ble_eq_true rfl) (by decide) (by decide) ?_
  refine wp_eqi (congrArg (fun z : Int32 => bI (0 ≤ b.toInt ∧ b.toInt < z.toInt)) (((u2_k _ _ _ _ (by decide) _).trans (u2_k _ _ _ _ (by decide) _)).trans (hA.1 21 (by decide)))) ?_
  refine wp_if_eq C 26 dX12_option_15 (by decide) (fun c15 => ?_) (fun c15 => ?_)
  · have c15 : ¬ (0 ≤ b.toInt ∧ b.toInt < (a 0 21).toInt) := fun z => absurd ((bI_t z).symm.trans c15) (by decide)
    refine wp_aload_n C 0 dX12_option_26 rfl rfl ?_
    refine wp_iconst C 1 dX12_option_27 (by decide) ?_
    refine wp_cVi C (As := [.int 1]) (rest := []) dX12_option_28 kX12_option_140 hM.ob (m_no _ hM 1) rfl (Nat.le_of_ble_eq_true rfl) (by decide) (by decide) ?_
    have hst : stOp a b e x y = 1 := by simp only [stOp]; (repeat' split) <;> omega
    have hs0 : ¬ stOp a b e x y = 0 := by rw [hst]; decide
    exact wp_zret C Z dX12_option_31 (by decide) (by decide) (by decide) ⟨by rw [bI_f hs0], rfl, rfl, by unfold aOp; rw [if_neg hs0, hst]; exact MX.no hA hM 1⟩
  · have c15 : (0 ≤ b.toInt ∧ b.toInt < (a 0 21).toInt) := Classical.byContradiction (fun z => c15 (bI_f z))
    refine wp_aload_n C 0 dX12_option_18 rfl rfl ?_
    refine wp_iload_n C 2 dX12_option_19 rfl rfl ?_
    refine wp_cVi C (As := [.int e]) (rest := []) dX12_option_20 kX12_option_170 hM.ob (m_isEditor _ hM e) rfl (Nat.le_of_ble_eq_true rfl) (by decide) (by decide) ?_
    refine wp_eqi (congrArg (fun z : Int32 => bI (0 ≤ e.toInt ∧ e.toInt < z.toInt)) (((u2_k _ _ _ _ (by decide) _).trans (u2_k _ _ _ _ (by decide) _)).trans (hA.1 8 (by decide)))) ?_
    refine wp_if_ne C 32 dX12_option_23 (by decide) (fun c23 => ?_) (fun c23 => ?_)
    · have c23 : (0 ≤ e.toInt ∧ e.toInt < (a 0 8).toInt) := Classical.byContradiction (fun z => c23 (bI_f z))
      refine wp_iload_n C 3 dX12_option_32 rfl rfl ?_
      refine wp_cSi C (As := [.int x]) (rest := []) dX12_option_33 kX12_option_251 (m_isMinute _ x) rfl (Nat.le_of_ble_eq_true rfl) (by decide) (by decide) ?_
      refine wp_if_eq C 53 dX12_option_36 (by decide) (fun c36 => ?_) (fun c36 => ?_)
      · have c36 : ¬ (0 ≤ x.toInt ∧ x.toInt ≤ 100000) := fun z => absurd ((bI_t z).symm.trans c36) (by decide)
        refine wp_aload_n C 0 dX12_option_53 rfl rfl ?_
        refine wp_iconst C 2 dX12_option_54 (by decide) ?_
        refine wp_cVi C (As := [.int 2]) (rest := []) dX12_option_55 kX12_option_140 hM.ob (m_no _ hM 2) rfl (Nat.le_of_ble_eq_true rfl) (by decide) (by decide) ?_
        have hst : stOp a b e x y = 2 := by simp only [stOp]; (repeat' split) <;> omega
        have hs0 : ¬ stOp a b e x y = 0 := by rw [hst]; decide
        exact wp_zret C Z dX12_option_58 (by decide) (by decide) (by decide) ⟨by rw [bI_f hs0], rfl, rfl, by unfold aOp; rw [if_neg hs0, hst]; exact MX.no hA hM 2⟩
      · have c36 : (0 ≤ x.toInt ∧ x.toInt ≤ 100000) := Classical.byContradiction (fun z => c36 (bI_f z))
        refine wp_iload C 4 dX12_option_39 rfl ?_
        refine wp_cSi C (As := [.int y]) (rest := []) dX12_option_41 kX12_option_251 (m_isMinute _ y) rfl (Nat.le_of_ble_eq_true rfl) (by decide) (by decide) ?_
        refine wp_if_eq C 53 dX12_option_44 (by decide) (fun c44 => ?_) (fun c44 => ?_)
        · have c44 : ¬ (0 ≤ y.toInt ∧ y.toInt ≤ 100000) := fun z => absurd ((bI_t z).symm.trans c44) (by decide)
          refine wp_aload_n C 0 dX12_option_53 rfl rfl ?_
          refine wp_iconst C 2 dX12_option_54 (by decide) ?_
          refine wp_cVi C (As := [.int 2]) (rest := []) dX12_option_55 kX12_option_140 hM.ob (m_no _ hM 2) rfl (Nat.le_of_ble_eq_true rfl) (by decide) (by decide) ?_
          have hst : stOp a b e x y = 2 := by simp only [stOp]; (repeat' split) <;> omega
          have hs0 : ¬ stOp a b e x y = 0 := by rw [hst]; decide
          exact wp_zret C Z dX12_option_58 (by decide) (by decide) (by decide) ⟨by rw [bI_f hs0], rfl, rfl, by unfold aOp; rw [if_neg hs0, hst]; exact MX.no hA hM 2⟩
        · have c44 : (0 ≤ y.toInt ∧ y.toInt ≤ 100000) := Classical.byContradiction (fun z => c44 (bI_f z))
          refine wp_iload_n C 3 dX12_option_47 rfl rfl ?_
          refine wp_iload C 4 dX12_option_48 rfl ?_
          refine wp_icmp_le C 59 dX12_option_50 (by decide) (fun c50 => ?_) (fun c50 => ?_)
          · have c50 : x.toInt ≤ y.toInt := by have hcv := p_le c50; exact hcv
            refine wp_aload_n C 0 dX12_option_59 rfl rfl ?_
            refine wp_getI C dX12_option_60 fX12_option_254 hM.ob ?_
            refine wp_eqi (((u2_k _ _ _ _ (by decide) _).trans (u2_k _ _ _ _ (by decide) _)).trans (hA.1 23 (by decide))) ?_
            refine wp_bipush C 30 dX12_option_63 (by decide) ?_
            refine wp_icmp_ne C 75 dX12_option_65 (by decide) (fun c65 => ?_) (fun c65 => ?_)
            · have c65 : ¬ (a 0 23).toInt = 30 := by have hcv := n_eq c65; exact hcv
              refine wp_aload_n C 0 dX12_option_75 rfl rfl ?_
              refine wp_getR C dX12_option_76 fX12_option_92 hM.ob (hM.rf 36 rfl) ?_
              refine wp_aload_n C 0 dX12_option_79 rfl rfl ?_
              refine wp_getI C dX12_option_80 fX12_option_254 hM.ob ?_
              refine wp_eqi (((u2_k _ _ _ _ (by decide) _).trans (u2_k _ _ _ _ (by decide) _)).trans (hA.1 23 (by decide))) ?_
              refine wp_iload_n C 1 dX12_option_83 rfl rfl ?_
              refine wp_iast C dX12_option_84 (hM.ar 36 rfl rfl) (j := oN_ a) (nI_nat (by omega)) (by unfold oN_; omega) (by decide) ?_
              refine wp_aload_n C 0 dX12_option_85 rfl rfl ?_
              refine wp_getR C dX12_option_86 fX12_option_95 hM.ob (hM.rf 37 rfl) ?_
              refine wp_aload_n C 0 dX12_option_89 rfl rfl ?_
              refine wp_getI C dX12_option_90 fX12_option_254 hM.ob ?_
              refine wp_eqi (((u2_a _ _ _ _ (Ne.symm (hM.nm 36 rfl)) _).trans ((u2_k _ _ _ _ (by decide) _).trans (u2_k _ _ _ _ (by decide) _))).trans (hA.1 23 (by decide))) ?_
              refine wp_iload_n C 2 dX12_option_93 rfl rfl ?_
              refine wp_iast C dX12_option_94 (hM.ar 37 rfl rfl) (j := oN_ a) (nI_nat (by omega)) (by unfold oN_; omega) (by decide) ?_
              refine wp_aload_n C 0 dX12_option_95 rfl rfl ?_
              refine wp_getR C dX12_option_96 fX12_option_98 hM.ob (hM.rf 38 rfl) ?_
              refine wp_aload_n C 0 dX12_option_99 rfl rfl ?_
              refine wp_getI C dX12_option_100 fX12_option_254 hM.ob ?_
              refine wp_eqi (((u2_a _ _ _ _ (Ne.symm (hM.nm 37 rfl)) _).trans ((u2_a _ _ _ _ (Ne.symm (hM.nm 36 rfl)) _).trans ((u2_k _ _ _ _ (by decide) _).trans (u2_k _ _ _ _ (by decide) _)))).trans (hA.1 23 (by decide))) ?_
              refine wp_iload_n C 3 dX12_option_103 rfl rfl ?_
              refine wp_iast C dX12_option_104 (hM.ar 38 rfl rfl) (j := oN_ a) (nI_nat (by omega)) (by unfold oN_; omega) (by decide) ?_
              refine wp_aload_n C 0 dX12_option_105 rfl rfl ?_
              refine wp_getR C dX12_option_106 fX12_option_101 hM.ob (hM.rf 39 rfl) ?_
              refine wp_aload_n C 0 dX12_option_109 rfl rfl ?_
              refine wp_getI C dX12_option_110 fX12_option_254 hM.ob ?_
              refine wp_eqi (((u2_a _ _ _ _ (Ne.symm (hM.nm 38 rfl)) _).trans ((u2_a _ _ _ _ (Ne.symm (hM.nm 37 rfl)) _).trans ((u2_a _ _ _ _ (Ne.symm (hM.nm 36 rfl)) _).trans ((u2_k _ _ _ _ (by decide) _).trans (u2_k _ _ _ _ (by decide) _))))).trans (hA.1 23 (by decide))) ?_
              refine wp_iload C 4 dX12_option_113 rfl ?_
              refine wp_iast C dX12_option_115 (hM.ar 39 rfl rfl) (j := oN_ a) (nI_nat (by omega)) (by unfold oN_; omega) (by decide) ?_
              refine wp_aload_n C 0 dX12_option_116 rfl rfl ?_
              refine wp_dup C dX12_option_117 rfl ?_
              refine wp_getI C dX12_option_118 fX12_option_254 hM.ob ?_
              refine wp_eqi (((u2_a _ _ _ _ (Ne.symm (hM.nm 39 rfl)) _).trans ((u2_a _ _ _ _ (Ne.symm (hM.nm 38 rfl)) _).trans ((u2_a _ _ _ _ (Ne.symm (hM.nm 37 rfl)) _).trans ((u2_a _ _ _ _ (Ne.symm (hM.nm 36 rfl)) _).trans ((u2_k _ _ _ _ (by decide) _).trans (u2_k _ _ _ _ (by decide) _)))))).trans (hA.1 23 (by decide))) ?_
              refine wp_iconst C 1 dX12_option_121 (by decide) ?_
              refine wp_iadd C dX12_option_122 ?_
              refine wp_putI C dX12_option_123 pX12_option_254 (fun h => nomatch h) hM.ob ?_
              refine wp_iconst C 1 dX12_option_126 (by decide) ?_
              have hs0 : stOp a b e x y = 0 := by simp only [stOp]; (repeat' split) <;> omega
              exact wp_zret C Z dX12_option_127 (by decide) (by decide) (by decide) ⟨by rw [bI_t hs0], rfl, rfl, by unfold aOp; rw [if_pos hs0]; exact ((((((((MX.i hA).t hM 0).f hM 0 0).r hM 36 (by unfold mR; omega) (oN_ a) b).r hM 37 (by unfold mR; omega) (oN_ a) e).r hM 38 (by unfold mR; omega) (oN_ a) x).r hM 39 (by unfold mR; omega) (oN_ a) y).f hM 23 ((a 0 23) + 1))⟩
            · have c65 : (a 0 23).toInt = 30 := by have hcv := p_eq c65; exact hcv
              refine wp_aload_n C 0 dX12_option_68 rfl rfl ?_
              refine wp_bipush C 7 dX12_option_69 (by decide) ?_
              refine wp_cVi C (As := [.int 7]) (rest := []) dX12_option_71 kX12_option_140 hM.ob (m_no _ hM 7) rfl (Nat.le_of_ble_eq_true rfl) (by decide) (by decide) ?_
              have hst : stOp a b e x y = 7 := by simp only [stOp]; (repeat' split) <;> omega
              have hs0 : ¬ stOp a b e x y = 0 := by rw [hst]; decide
              exact wp_zret C Z dX12_option_74 (by decide) (by decide) (by decide) ⟨by rw [bI_f hs0], rfl, rfl, by unfold aOp; rw [if_neg hs0, hst]; exact MX.no hA hM 7⟩
          · have c50 : ¬ x.toInt ≤ y.toInt := by have hcv := n_le c50; exact hcv
            refine wp_aload_n C 0 dX12_option_53 rfl rfl ?_
            refine wp_iconst C 2 dX12_option_54 (by decide) ?_
            refine wp_cVi C (As := [.int 2]) (rest := []) dX12_option_55 kX12_option_140 hM.ob (m_no _ hM 2) rfl (Nat.le_of_ble_eq_true rfl) (by decide) (by decide) ?_
            have hst : stOp a b e x y = 2 := by simp only [stOp]; (repeat' split) <;> omega
            have hs0 : ¬ stOp a b e x y = 0 := by rw [hst]; decide
            exact wp_zret C Z dX12_option_58 (by decide) (by decide) (by decide) ⟨by rw [bI_f hs0], rfl, rfl, by unfold aOp; rw [if_neg hs0, hst]; exact MX.no hA hM 2⟩
    · have c23 : ¬ (0 ≤ e.toInt ∧ e.toInt < (a 0 8).toInt) := fun z => absurd ((bI_t z).symm.trans c23) (by decide)
      refine wp_aload_n C 0 dX12_option_26 rfl rfl ?_
      refine wp_iconst C 1 dX12_option_27 (by decide) ?_
      refine wp_cVi C (As := [.int 1]) (rest := []) dX12_option_28 kX12_option_140 hM.ob (m_no _ hM 1) rfl (Nat.le_of_ble_eq_true rfl) (by decide) (by decide) ?_
      have hst : stOp a b e x y = 1 := by simp only [stOp]; (repeat' split) <;> omega
      have hs0 : ¬ stOp a b e x y = 0 := by rw [hst]; decide
      exact wp_zret C Z dX12_option_31 (by decide) (by decide) (by decide) ⟨by rw [bI_f hs0], rfl, rfl, by unfold aOp; rw [if_neg hs0, hst]; exact MX.no hA hM 1⟩
set_option maxRecDepth 100000 in
set_option maxHeartbeats 4000000 in
theorem m_mayBe (l : Launch) {T : gSh} {I : gI} {J : gJ} {R : gR} {m : Nat} {ad : Nat → Nat} (hM : MO T R m ad) {a : gI} {n : gJ} (hA : MA I J m ad a n) (hG : okG a) (hO : okO a) {b e : Int32} (hb12 : 0 ≤ b.toInt ∧ b.toInt < 12) (he10 : 0 ≤ e.toInt ∧ e.toInt < 10) (p t f d u mi : Int32) : Con l yX12_mayBe wsX12_mayBe ({ frames := 3, cells := 0, slots := 0, locals := 69 }) [.ref m, .int b, .int e, .int p, .int t, .int f, .int d, .int u, .int mi] T I J R (gP (some (.int (nI (mbN a b e (rv p t f d u) mi)))) T I J R) := by
  refine Con.mk (cc := cX12_mayBe) (maxL := 10) (ret := (some .boolean)) (by decide) rfl (Nat.le_of_ble_eq_true rfl) ?_
  intro E hE C Z hnm
  subst hE
  change WP E 10 0 0 T I J R 0 [(0, .ref m), (1, .int b), (2, .int e), (3, .int p), (4, .int t), (5, .int f), (6, .int d), (7, .int u), (8, .int mi)] []
  unfold okO at hO
  have q23 : (a 0 23).toInt = (oN_ a : Int) := by unfold oN_; omega
  have n23 : a 0 23 = nI (oN_ a) := nI_nat (by omega)
  have q1 := tld_le a b e
  have q2 := brN_le a b e mi
  have q3 := clN_le a b (rv p t f d u)
  have loop : tld a b e = 1 → ∀ i, i ≤ oN_ a → (∀ j, j < i → barN a b e mi j ≠ 0) → ∀ lv, lv_pick lv [0, 1, 2, 3, 4, 5, 6, 7, 8, 9] = [(0, .ref m), (1, .int b), (2, .int e), (3, .int p), (4, .int t), (5, .int f), (6, .int d), (7, .int u), (8, .int mi), (9, .int (nI i))] → WP E 10 0 0 T I J R 14 lv [] := by
    intro htl
    refine loopN (oN_ a) (fun i hi ih => ?_)
    intro hno lv hlv
    refine wp_lv [0, 1, 2, 3, 4, 5, 6, 7, 8, 9] hlv ?_
    have hb := bar_T (a := a) (b := b) (e := e) (mi := mi) (i := i)
    refine wp_iload C 9 dX12_mayBe_14 rfl ?_
    refine wp_aload_n C 0 dX12_mayBe_16 rfl rfl ?_
    refine wp_getI C dX12_mayBe_17 fX12_mayBe_254 hM.ob ?_
    refine wp_eqi ((hA.1 23 (by decide)).trans n23) ?_
    refine wp_icmp_ge C 77 dX12_mayBe_20 (by decide) (fun c20 => ?_) (fun c20 => ?_)
    · have c20 : (((oN_ a) : Nat) : Int) ≤ ((i : Nat) : Int) := by have hcv := p_le c20; rw [nI_toInt (show (oN_ a) < 2 ^ 31 by omega), nI_toInt (show i < 2 ^ 31 by omega)] at hcv; exact hcv
      refine wp_aload_n C 0 dX12_mayBe_77 rfl rfl ?_
      refine wp_iload_n C 1 dX12_mayBe_78 rfl rfl ?_
      refine wp_iload_n C 3 dX12_mayBe_79 rfl rfl ?_
      refine wp_iload C 4 dX12_mayBe_80 rfl ?_
      refine wp_iload C 5 dX12_mayBe_82 rfl ?_
      refine wp_iload C 6 dX12_mayBe_84 rfl ?_
      refine wp_iload C 7 dX12_mayBe_86 rfl ?_
      refine wp_cVi C (As := [.int b, .int p, .int t, .int f, .int d, .int u]) (rest := []) dX12_mayBe_88 kX12_mayBe_234 hM.ob (m_clashes _ hM hA hG b p t f d u) rfl (Nat.le_of_ble_eq_true rfl) (by decide) (by decide) ?_
      refine wp_if_ne C 98 dX12_mayBe_91 (by decide) (fun c91 => ?_) (fun c91 => ?_)
      · have c91 : ¬ ((clN a b (rv p t f d u) : Nat) : Int) = 0 := by have hcv := n_eq c91; rw [nI_toInt (show clN a b (rv p t f d u) < 2 ^ 31 by omega)] at hcv; exact hcv
        refine wp_iconst C 0 dX12_mayBe_98 (by decide) ?_
        have e9 : oN_ a = i := by omega
        have hbr : brN a b e mi = 0 := by unfold brN; rw [ff_none (fun j hj => hno j (by omega)), if_neg (Nat.lt_irrefl _)]
        exact wp_zret C Z dX12_mayBe_99 (by decide) (by decide) (by decide) (by rw [show mbN a b e (rv p t f d u) mi = 0 from by simp only [mbN]; (repeat' split) <;> omega]; exact gP_rf)
      · have c91 : ((clN a b (rv p t f d u) : Nat) : Int) = 0 := by have hcv := p_eq c91; rw [nI_toInt (show clN a b (rv p t f d u) < 2 ^ 31 by omega)] at hcv; exact hcv
        refine wp_iconst C 1 dX12_mayBe_94 (by decide) ?_
        refine wp_goto C 99 dX12_mayBe_95 (by decide) ?_
        have e9 : oN_ a = i := by omega
        have hbr : brN a b e mi = 0 := by unfold brN; rw [ff_none (fun j hj => hno j (by omega)), if_neg (Nat.lt_irrefl _)]
        exact wp_zret C Z dX12_mayBe_99 (by decide) (by decide) (by decide) (by rw [show mbN a b e (rv p t f d u) mi = 1 from by simp only [mbN]; (repeat' split) <;> omega]; exact gP_rf)
    · have c20 : ¬ (((oN_ a) : Nat) : Int) ≤ ((i : Nat) : Int) := by have hcv := n_le c20; rw [nI_toInt (show (oN_ a) < 2 ^ 31 by omega), nI_toInt (show i < 2 ^ 31 by omega)] at hcv; exact hcv
      refine wp_aload_n C 0 dX12_mayBe_23 rfl rfl ?_
      refine wp_getR C dX12_mayBe_24 fX12_mayBe_92 hM.ob (hM.rf 36 rfl) ?_
      refine wp_iload C 9 dX12_mayBe_27 rfl ?_
      refine wp_iald C dX12_mayBe_29 (hM.ar 36 rfl rfl) (j := i) rfl (by omega) (by decide) ?_
      refine wp_eqi (congrFun (hA.2.1 36 (by unfold mR; omega)) _) ?_
      refine wp_iload_n C 1 dX12_mayBe_30 rfl rfl ?_
      refine wp_icmp_ne C 71 dX12_mayBe_31 (by decide) (fun c31 => ?_) (fun c31 => ?_)
      · have c31 : ¬ (a 36 i).toInt = b.toInt := by have hcv := n_eq c31; exact hcv
        refine wp_iinc C 9 (nI (i + 1)) [(9, .int (nI (i + 1))), (0, .ref m), (1, .int b), (2, .int e), (3, .int p), (4, .int t), (5, .int f), (6, .int d), (7, .int u), (8, .int mi)] dX12_mayBe_71 rfl (nI_1 i) (by decide) rfl ?_
        refine wp_goto C 14 dX12_mayBe_74 (by decide) ?_
        refine wp_lv [1, 2, 3, 4, 5, 6, 7, 8, 9, 0] rfl ?_
        refine ih (i + 1) (by omega) (by omega) (fun j hj => ?_) _ rfl
        by_cases z : j = i
        · rw [z]; exact fun w9 => by have := hb.mp w9; omega
        · exact hno j (by omega)
      · have c31 : (a 36 i).toInt = b.toInt := by have hcv := p_eq c31; exact hcv
        refine wp_aload_n C 0 dX12_mayBe_34 rfl rfl ?_
        refine wp_getR C dX12_mayBe_35 fX12_mayBe_95 hM.ob (hM.rf 37 rfl) ?_
        refine wp_iload C 9 dX12_mayBe_38 rfl ?_
        refine wp_iald C dX12_mayBe_40 (hM.ar 37 rfl rfl) (j := i) rfl (by omega) (by decide) ?_
        refine wp_eqi (congrFun (hA.2.1 37 (by unfold mR; omega)) _) ?_
        refine wp_iload_n C 2 dX12_mayBe_41 rfl rfl ?_
        refine wp_icmp_eq C 71 dX12_mayBe_42 (by decide) (fun c42 => ?_) (fun c42 => ?_)
        · have c42 : (a 37 i).toInt = e.toInt := by have hcv := p_eq c42; exact hcv
          refine wp_iinc C 9 (nI (i + 1)) [(9, .int (nI (i + 1))), (0, .ref m), (1, .int b), (2, .int e), (3, .int p), (4, .int t), (5, .int f), (6, .int d), (7, .int u), (8, .int mi)] dX12_mayBe_71 rfl (nI_1 i) (by decide) rfl ?_
          refine wp_goto C 14 dX12_mayBe_74 (by decide) ?_
          refine wp_lv [1, 2, 3, 4, 5, 6, 7, 8, 9, 0] rfl ?_
          refine ih (i + 1) (by omega) (by omega) (fun j hj => ?_) _ rfl
          by_cases z : j = i
          · rw [z]; exact fun w9 => by have := hb.mp w9; omega
          · exact hno j (by omega)
        · have c42 : ¬ (a 37 i).toInt = e.toInt := by have hcv := n_eq c42; exact hcv
          refine wp_aload_n C 0 dX12_mayBe_45 rfl rfl ?_
          refine wp_getR C dX12_mayBe_46 fX12_mayBe_98 hM.ob (hM.rf 38 rfl) ?_
          refine wp_iload C 9 dX12_mayBe_49 rfl ?_
          refine wp_iald C dX12_mayBe_51 (hM.ar 38 rfl rfl) (j := i) rfl (by omega) (by decide) ?_
          refine wp_eqi (congrFun (hA.2.1 38 (by unfold mR; omega)) _) ?_
          refine wp_iload C 8 dX12_mayBe_52 rfl ?_
          refine wp_icmp_gt C 71 dX12_mayBe_54 (by decide) (fun c54 => ?_) (fun c54 => ?_)
          · have c54 : mi.toInt < (a 38 i).toInt := by have hcv := p_lt c54; exact hcv
            refine wp_iinc C 9 (nI (i + 1)) [(9, .int (nI (i + 1))), (0, .ref m), (1, .int b), (2, .int e), (3, .int p), (4, .int t), (5, .int f), (6, .int d), (7, .int u), (8, .int mi)] dX12_mayBe_71 rfl (nI_1 i) (by decide) rfl ?_
            refine wp_goto C 14 dX12_mayBe_74 (by decide) ?_
            refine wp_lv [1, 2, 3, 4, 5, 6, 7, 8, 9, 0] rfl ?_
            refine ih (i + 1) (by omega) (by omega) (fun j hj => ?_) _ rfl
            by_cases z : j = i
            · rw [z]; exact fun w9 => by have := hb.mp w9; omega
            · exact hno j (by omega)
          · have c54 : ¬ mi.toInt < (a 38 i).toInt := by have hcv := n_lt c54; exact hcv
            refine wp_iload C 8 dX12_mayBe_57 rfl ?_
            refine wp_aload_n C 0 dX12_mayBe_59 rfl rfl ?_
            refine wp_getR C dX12_mayBe_60 fX12_mayBe_101 hM.ob (hM.rf 39 rfl) ?_
            refine wp_iload C 9 dX12_mayBe_63 rfl ?_
            refine wp_iald C dX12_mayBe_65 (hM.ar 39 rfl rfl) (j := i) rfl (by omega) (by decide) ?_
            refine wp_eqi (congrFun (hA.2.1 39 (by unfold mR; omega)) _) ?_
            refine wp_icmp_gt C 71 dX12_mayBe_66 (by decide) (fun c66 => ?_) (fun c66 => ?_)
            · have c66 : (a 39 i).toInt < mi.toInt := by have hcv := p_lt c66; exact hcv
              refine wp_iinc C 9 (nI (i + 1)) [(9, .int (nI (i + 1))), (0, .ref m), (1, .int b), (2, .int e), (3, .int p), (4, .int t), (5, .int f), (6, .int d), (7, .int u), (8, .int mi)] dX12_mayBe_71 rfl (nI_1 i) (by decide) rfl ?_
              refine wp_goto C 14 dX12_mayBe_74 (by decide) ?_
              refine wp_lv [1, 2, 3, 4, 5, 6, 7, 8, 9, 0] rfl ?_
              refine ih (i + 1) (by omega) (by omega) (fun j hj => ?_) _ rfl
              by_cases z : j = i
              · rw [z]; exact fun w9 => by have := hb.mp w9; omega
              · exact hno j (by omega)
            · have c66 : ¬ (a 39 i).toInt < mi.toInt := by have hcv := n_lt c66; exact hcv
              refine wp_iconst C 0 dX12_mayBe_69 (by decide) ?_
              have hfi : ff (barN a b e mi) (oN_ a) = i := ff_eq (by omega) (hb.mpr (by omega)) hno
              have hbr : brN a b e mi = 1 := by unfold brN; rw [hfi, if_pos (by omega)]
              exact wp_zret C Z dX12_mayBe_70 (by decide) (by decide) (by decide) (by rw [show mbN a b e (rv p t f d u) mi = 0 from by simp only [mbN]; (repeat' split) <;> omega]; exact gP_rf)
  refine wp_aload_n C 0 dX12_mayBe_0 rfl rfl ?_
  refine wp_iload_n C 1 dX12_mayBe_1 rfl rfl ?_
  refine wp_iload_n C 2 dX12_mayBe_2 rfl rfl ?_
  refine wp_cVi C (As := [.int b, .int e]) (rest := []) dX12_mayBe_3 kX12_mayBe_212 hM.ob (m_isOpenTo _ hM hA hb12 he10) rfl (Nat.le_of_ble_eq_true rfl) (by decide) (by decide) ?_
  refine wp_if_ne C 11 dX12_mayBe_6 (by decide) (fun c6 => ?_) (fun c6 => ?_)
  · have c6 : ¬ ((tld a b e : Nat) : Int) = 0 := by have hcv := n_eq c6; rw [nI_toInt (show tld a b e < 2 ^ 31 by omega)] at hcv; exact hcv
    refine wp_iconst C 0 dX12_mayBe_11 (by decide) ?_
    refine wp_istore C [(9, .int 0), (0, .ref m), (1, .int b), (2, .int e), (3, .int p), (4, .int t), (5, .int f), (6, .int d), (7, .int u), (8, .int mi)] dX12_mayBe_12 (by decide) rfl ?_
    refine wp_lv [1, 2, 3, 4, 5, 6, 7, 8, 9, 0] rfl ?_
    exact loop (by omega) 0 (by omega) (fun j hj => by omega) _ rfl
  · have c6 : ((tld a b e : Nat) : Int) = 0 := by have hcv := p_eq c6; rw [nI_toInt (show tld a b e < 2 ^ 31 by omega)] at hcv; exact hcv
    refine wp_iconst C 0 dX12_mayBe_9 (by decide) ?_
    exact wp_zret C Z dX12_mayBe_10 (by decide) (by decide) (by decide) (by rw [show mbN a b e (rv p t f d u) mi = 0 from by simp only [mbN]; (repeat' split) <;> omega]; exact gP_rf)
set_option maxRecDepth 100000 in
set_option maxHeartbeats 4000000 in
theorem m_may (l : Launch) {T : gSh} {I : gI} {J : gJ} {R : gR} {m : Nat} {ad : Nat → Nat} (hM : MO T R m ad) {a : gI} {n : gJ} (hA : MA I J m ad a n) (hN : okN a) (hB : okB a) (hG : okG a) (hO : okO a) (b e p t f d u mi : Int32) : Con l yX12_may wsX12_may ({ frames := 4, cells := 0, slots := 0, locals := 98 }) [.ref m, .int b, .int e, .int p, .int t, .int f, .int d, .int u, .int mi] T I J R (PZ T I J R m ad (.int (vMa a b e (rv p t f d u) mi)) (u2 a 0 0 (nI (stMa a b e (rv p t f d u) mi))) n) := by
  refine Con.mk (cc := cX12_may) (maxL := 9) (ret := (some .int)) (by decide) rfl (Nat.le_of_ble_eq_true rfl) ?_
  intro E hE C Z hnm
  subst hE
  change WP E 9 0 0 T I J R 0 [(0, .ref m), (1, .int b), (2, .int e), (3, .int p), (4, .int t), (5, .int f), (6, .int d), (7, .int u), (8, .int mi)] []
  have hX1 := ((MX.i hA).t hM 0).f hM 0 0
  unfold okN at hN
  unfold okB at hB
  have hca := can_le (rv p t f d u)
  have hml := mbN_le a b e (rv p t f d u) mi
  refine wp_aload_n C 0 dX12_may_0 rfl rfl ?_
  refine wp_iconst C 0 dX12_may_1 (by decide) ?_
  refine wp_putI C dX12_may_2 pX12_may_134 (fun h => nomatch h) hM.ob ?_
  refine wp_aload_n C 0 dX12_may_5 rfl rfl ?_
  refine wp_iconst C 0 dX12_may_6 (by decide) ?_
  refine wp_putI C dX12_may_7 pX12_may_137 (fun h => nomatch h) hM.ob ?_
  refine wp_aload_n C 0 dX12_may_10 rfl rfl ?_
  refine wp_iload_n C 1 dX12_may_11 rfl rfl ?_
  refine wp_cVi C (As := [.int b]) (rest := []) dX12_may_12 kX12_may_209 hM.ob (m_isBook _ hM b) rfl (Nat.le_of_ble_eq_true rfl) (by decide) (by decide) ?_
  refine wp_eqi (congrArg (fun z : Int32 => bI (0 ≤ b.toInt ∧ b.toInt < z.toInt)) (((u2_k _ _ _ _ (by decide) _).trans (u2_k _ _ _ _ (by decide) _)).trans (hA.1 21 (by decide)))) ?_
  refine wp_if_eq C 26 dX12_may_15 (by decide) (fun c15 => ?_) (fun c15 => ?_)
  · have c15 : ¬ (0 ≤ b.toInt ∧ b.toInt < (a 0 21).toInt) := fun z => absurd ((bI_t z).symm.trans c15) (by decide)
    refine wp_aload_n C 0 dX12_may_26 rfl rfl ?_
    refine wp_iconst C 1 dX12_may_27 (by decide) ?_
    refine wp_cVi C (As := [.int 1]) (rest := []) dX12_may_28 kX12_may_164 hM.ob (m_refuse _ hM 1) rfl (Nat.le_of_ble_eq_true rfl) (by decide) (by decide) ?_
    have hst : stMa a b e (rv p t f d u) mi = 1 := by simp only [stMa]; (repeat' split) <;> omega
    exact wp_iret C Z dX12_may_31 (by decide) (by decide) ⟨by unfold vMa; rw [if_neg (by rw [hst]; decide)], rfl, rfl, by rw [hst]; exact MX.no hA hM 1⟩
  · have c15 : (0 ≤ b.toInt ∧ b.toInt < (a 0 21).toInt) := Classical.byContradiction (fun z => c15 (bI_f z))
    refine wp_aload_n C 0 dX12_may_18 rfl rfl ?_
    refine wp_iload_n C 2 dX12_may_19 rfl rfl ?_
    refine wp_cVi C (As := [.int e]) (rest := []) dX12_may_20 kX12_may_170 hM.ob (m_isEditor _ hM e) rfl (Nat.le_of_ble_eq_true rfl) (by decide) (by decide) ?_
    refine wp_eqi (congrArg (fun z : Int32 => bI (0 ≤ e.toInt ∧ e.toInt < z.toInt)) (((u2_k _ _ _ _ (by decide) _).trans (u2_k _ _ _ _ (by decide) _)).trans (hA.1 8 (by decide)))) ?_
    refine wp_if_ne C 32 dX12_may_23 (by decide) (fun c23 => ?_) (fun c23 => ?_)
    · have c23 : (0 ≤ e.toInt ∧ e.toInt < (a 0 8).toInt) := Classical.byContradiction (fun z => c23 (bI_f z))
      refine wp_iload_n C 3 dX12_may_32 rfl rfl ?_
      refine wp_iload C 4 dX12_may_33 rfl ?_
      refine wp_iload C 5 dX12_may_35 rfl ?_
      refine wp_iload C 6 dX12_may_37 rfl ?_
      refine wp_iload C 7 dX12_may_39 rfl ?_
      refine wp_cSi C (As := [.int p, .int t, .int f, .int d, .int u]) (rest := []) dX12_may_41 kX12_may_230 (m_areRights _ p t f d u) rfl (Nat.le_of_ble_eq_true rfl) (by decide) (by decide) ?_
      refine wp_if_eq C 55 dX12_may_44 (by decide) (fun c44 => ?_) (fun c44 => ?_)
      · have c44 : ((can (rv p t f d u) : Nat) : Int) = 0 := by have hcv := p_eq c44; rw [nI_toInt (show can (rv p t f d u) < 2 ^ 31 by omega)] at hcv; exact hcv
        refine wp_aload_n C 0 dX12_may_55 rfl rfl ?_
        refine wp_iconst C 2 dX12_may_56 (by decide) ?_
        refine wp_cVi C (As := [.int 2]) (rest := []) dX12_may_57 kX12_may_164 hM.ob (m_refuse _ hM 2) rfl (Nat.le_of_ble_eq_true rfl) (by decide) (by decide) ?_
        have hst : stMa a b e (rv p t f d u) mi = 2 := by simp only [stMa]; (repeat' split) <;> omega
        exact wp_iret C Z dX12_may_60 (by decide) (by decide) ⟨by unfold vMa; rw [if_neg (by rw [hst]; decide)], rfl, rfl, by rw [hst]; exact MX.no hA hM 2⟩
      · have c44 : ¬ ((can (rv p t f d u) : Nat) : Int) = 0 := by have hcv := n_eq c44; rw [nI_toInt (show can (rv p t f d u) < 2 ^ 31 by omega)] at hcv; exact hcv
        refine wp_iload C 8 dX12_may_47 rfl ?_
        refine wp_cSi C (As := [.int mi]) (rest := []) dX12_may_49 kX12_may_251 (m_isMinute _ mi) rfl (Nat.le_of_ble_eq_true rfl) (by decide) (by decide) ?_
        refine wp_if_ne C 61 dX12_may_52 (by decide) (fun c52 => ?_) (fun c52 => ?_)
        · have c52 : (0 ≤ mi.toInt ∧ mi.toInt ≤ 100000) := Classical.byContradiction (fun z => c52 (bI_f z))
          refine wp_aload_n C 0 dX12_may_61 rfl rfl ?_
          refine wp_iload_n C 1 dX12_may_62 rfl rfl ?_
          refine wp_iload_n C 2 dX12_may_63 rfl rfl ?_
          refine wp_iload_n C 3 dX12_may_64 rfl rfl ?_
          refine wp_iload C 4 dX12_may_65 rfl ?_
          refine wp_iload C 5 dX12_may_67 rfl ?_
          refine wp_iload C 6 dX12_may_69 rfl ?_
          refine wp_iload C 7 dX12_may_71 rfl ?_
          refine wp_iload C 8 dX12_may_73 rfl ?_
          refine wp_cVi C (As := [.int b, .int e, .int p, .int t, .int f, .int d, .int u, .int mi]) (rest := []) dX12_may_75 kX12_may_257 hM.ob (m_mayBe _ hM hX1.2 (hG.st 0) hO (by omega) (by omega) p t f d u mi) rfl (Nat.le_of_ble_eq_true rfl) (by decide) (by decide) ?_
          refine wp_eqi (congrArg nI (mbN_st a 0 b e _ mi)) ?_
          refine wp_if_eq C 85 dX12_may_78 (by decide) (fun c78 => ?_) (fun c78 => ?_)
          · have c78 : ((mbN a b e (rv p t f d u) mi : Nat) : Int) = 0 := by have hcv := p_eq c78; rw [nI_toInt (show mbN a b e (rv p t f d u) mi < 2 ^ 31 by omega)] at hcv; exact hcv
            refine wp_iconst C 0 dX12_may_85 (by decide) ?_
            have hst : stMa a b e (rv p t f d u) mi = 0 := by simp only [stMa]; (repeat' split) <;> omega
            exact wp_iret C Z dX12_may_86 (by decide) (by decide) ⟨by unfold vMa; rw [if_pos hst, show mbN a b e (rv p t f d u) mi = 0 by omega]; rfl, rfl, rfl, by rw [hst]; exact hX1⟩
          · have c78 : ¬ ((mbN a b e (rv p t f d u) mi : Nat) : Int) = 0 := by have hcv := n_eq c78; rw [nI_toInt (show mbN a b e (rv p t f d u) mi < 2 ^ 31 by omega)] at hcv; exact hcv
            refine wp_iconst C 1 dX12_may_81 (by decide) ?_
            refine wp_goto C 86 dX12_may_82 (by decide) ?_
            have hst : stMa a b e (rv p t f d u) mi = 0 := by simp only [stMa]; (repeat' split) <;> omega
            exact wp_iret C Z dX12_may_86 (by decide) (by decide) ⟨by unfold vMa; rw [if_pos hst, show mbN a b e (rv p t f d u) mi = 1 by omega]; rfl, rfl, rfl, by rw [hst]; exact hX1⟩
        · have c52 : ¬ (0 ≤ mi.toInt ∧ mi.toInt ≤ 100000) := fun z => absurd ((bI_t z).symm.trans c52) (by decide)
          refine wp_aload_n C 0 dX12_may_55 rfl rfl ?_
          refine wp_iconst C 2 dX12_may_56 (by decide) ?_
          refine wp_cVi C (As := [.int 2]) (rest := []) dX12_may_57 kX12_may_164 hM.ob (m_refuse _ hM 2) rfl (Nat.le_of_ble_eq_true rfl) (by decide) (by decide) ?_
          have hst : stMa a b e (rv p t f d u) mi = 2 := by simp only [stMa]; (repeat' split) <;> omega
          exact wp_iret C Z dX12_may_60 (by decide) (by decide) ⟨by unfold vMa; rw [if_neg (by rw [hst]; decide)], rfl, rfl, by rw [hst]; exact MX.no hA hM 2⟩
    · have c23 : ¬ (0 ≤ e.toInt ∧ e.toInt < (a 0 8).toInt) := fun z => absurd ((bI_t z).symm.trans c23) (by decide)
      refine wp_aload_n C 0 dX12_may_26 rfl rfl ?_
      refine wp_iconst C 1 dX12_may_27 (by decide) ?_
      refine wp_cVi C (As := [.int 1]) (rest := []) dX12_may_28 kX12_may_164 hM.ob (m_refuse _ hM 1) rfl (Nat.le_of_ble_eq_true rfl) (by decide) (by decide) ?_
      have hst : stMa a b e (rv p t f d u) mi = 1 := by simp only [stMa]; (repeat' split) <;> omega
      exact wp_iret C Z dX12_may_31 (by decide) (by decide) ⟨by unfold vMa; rw [if_neg (by rw [hst]; decide)], rfl, rfl, by rw [hst]; exact MX.no hA hM 1⟩
