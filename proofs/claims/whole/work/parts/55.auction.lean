/-! ===== one auction of the class ===== -/
/-- an auction with its best bid, holder and rounds put -/
def auI (I : gI) (u b : Nat) (h : Int32) (r : Nat) : gI := u2 (u2 (u2 I u 4 (nI b)) u 5 h) u 6 (nI r)
section AuI
variable {I : gI} {u b r : Nat} {h : Int32}
theorem auI_4 : auI I u b h r u 4 = nI b := by unfold auI; rw [u2_k _ _ _ _ (by decide), u2_k _ _ _ _ (by decide), u2_s]
theorem auI_5 : auI I u b h r u 5 = h := by unfold auI; rw [u2_k _ _ _ _ (by decide), u2_s]
theorem auI_6 : auI I u b h r u 6 = nI r := by unfold auI; rw [u2_s]
theorem auI_o {k : Nat} (h4 : k ≠ 4) (h5 : k ≠ 5) (h6 : k ≠ 6) : auI I u b h r u k = I u k := by unfold auI; rw [u2_k _ _ _ _ h6, u2_k _ _ _ _ h5, u2_k _ _ _ _ h4]
theorem auI_n {x : Nat} (hx : x ≠ u) : auI I u b h r x = I x := by unfold auI; rw [u2_rown _ _ _ _ hx, u2_rown _ _ _ _ hx, u2_rown _ _ _ _ hx]
theorem auI_p4 (c : Nat) : u2 (auI I u b h r) u 4 (nI c) = auI I u c h r := by
  funext x k; simp only [auI, u2]; (repeat' split) <;> first | rfl | (exfalso; omega)
theorem auI_p5 (g : Int32) : u2 (auI I u b h r) u 5 g = auI I u b g r := by
  funext x k; simp only [auI, u2]; (repeat' split) <;> first | rfl | (exfalso; omega)
theorem auI_p6 (q : Nat) : u2 (auI I u b h r) u 6 (nI q) = auI I u b h q := by
  funext x k; simp only [auI, u2]; (repeat' split) <;> first | rfl | (exfalso; omega)
theorem auI_id (h4 : I u 4 = nI b) (h5 : I u 5 = h) (h6 : I u 6 = nI r) : auI I u b h r = I := by
  funext x k
  by_cases hx : x = u
  · subst hx
    by_cases z4 : k = 4
    · subst z4; rw [auI_4, h4]
    · by_cases z5 : k = 5
      · subst z5; rw [auI_5, h5]
      · by_cases z6 : k = 6
        · subst z6; rw [auI_6, h6]
        · exact auI_o z4 z5 z6
  · rw [auI_n hx]
end AuI
/-- what an auction keeps -/
def AB (T : gSh) (I : gI) (R : gR) (u y : Nat) (L : Nat → Nat) (bx : Int32) (S B : Nat) : Prop := OB T u 0 ∧ AR T y 13 10 ∧ R u 1 = some y ∧ I u 0 = nI B ∧ I u 2 = bx ∧ I u 3 = nI S ∧ (∀ e, e < B → I y e = nI (L e)) ∧ B ≤ 10 ∧ (1 ≤ S ∧ S ≤ 100000) ∧ (∀ e, e < B → L e ≤ 1000000)
/-- full rounds that may be skipped -/
def skF (L : Nat → Nat) (bx : Int32) (S b : Nat) (h : Int32) (B : Nat) : Nat := if 2 ≤ ctN L bx S b B ∧ lsV L bx S b B = h then (lmN L bx S b B - b) / (ctN L bx S b B * S) else 0
theorem sk_s {L : Nat → Nat} {bx : Int32} {S b B : Nat} {h : Int32} (hB : B ≤ 10) (hS : 1 ≤ S) (hL : ∀ e, e < B → L e ≤ 1000000) (hb : b ≤ 1000000) {f c : Nat} (ef : f = skF L bx S b h B) (ec : c = b + f * (ctN L bx S b B * S)) : rdI L bx S B (b, h) f = (c, h) ∧ (∀ j, j < f → rdI L bx S B (b, h) (j + 1) ≠ rdI L bx S B (b, h) j) ∧ c ≤ 1000000 := by
  unfold skF at ef
  by_cases z : 2 ≤ ctN L bx S b B ∧ lsV L bx S b B = h
  · rw [if_pos z] at ef
    have hlm := lm_s (L := L) (bx := bx) (S := S) (b := b) B
    have hbl : b ≤ lmN L bx S b B := by
      rcases ls_s (L := L) (bx := bx) (S := S) (b := b) B with ⟨w, -⟩ | ⟨x, hx, w1, -⟩
      · omega
      · have h1 := gh_1.mp w1
        have h2 := hL x hx
        have h3 := hlm.2.2 (by omega)
        omega
    have hd := Nat.div_mul_le_self (lmN L bx S b B - b) (ctN L bx S b B * S)
    rw [← ef] at hd
    have hk := au_skip hB z.1 z.2 (f := f) (by omega)
    have hK : 1 ≤ ctN L bx S b B * S := Nat.mul_pos (by omega) (by omega)
    refine ⟨by rw [hk f (Nat.le_refl f), ec], fun j hj q => ?_, by omega⟩
    rw [hk j (by omega), hk (j + 1) (by omega)] at q
    have q1 : b + (j + 1) * (ctN L bx S b B * S) = b + j * (ctN L bx S b B * S) := congrArg Prod.fst q
    rw [Nat.add_mul, Nat.one_mul] at q1
    omega
  · rw [if_neg z] at ef
    subst ef
    rw [Nat.zero_mul, Nat.add_zero] at ec
    subst ec
    exact ⟨rfl, fun j hj => absurd hj (Nat.not_lt_zero j), hb⟩
def tpN (b P : Nat) : Nat := b + (b * P + 99) / 100
def isT (L : Nat → Nat) (bx : Int32) (b : Nat) (h : Int32) (P : Nat) : Nat := if 0 ≤ bx.toInt ∧ ¬ h.toInt = bx.toInt ∧ tpN b P ≤ L bx.toInt.toNat then 1 else 0
set_option maxRecDepth 100000 in
set_option maxHeartbeats 4000000 in
theorem c_goesHigher (l : Launch) {T : gSh} {I : gI} {J : gJ} {R : gR} {u y : Nat} {L : Nat → Nat} {bx : Int32} {S B : Nat} (hA : AB T I R u y L bx S B) {b r : Nat} {h : Int32} (hb : b ≤ 1000000) {e : Nat} (he : e < B) : Con l yX0_goesHigher wsX0_goesHigher ({ frames := 0, cells := 0, slots := 0, locals := 0 }) [.ref u, .int (nI e)] T (auI I u b h r) J R (gP (some (.int (nI (ghN L bx S b e)))) T (auI I u b h r) J R) := by
  refine Con.mk (cc := cX0_goesHigher) (maxL := 2) (ret := (some .boolean)) (by decide) rfl (Nat.le_of_ble_eq_true rfl) ?_
  intro E hE C Z hnm
  subst hE
  change WP E 2 0 0 T (auI I u b h r) J R 0 [(0, .ref u), (1, .int (nI e))] []
  have hB := hA.2.2.2.2.2.2.2.1
  have hS := hA.2.2.2.2.2.2.2.2.1
  have hL := hA.2.2.2.2.2.2.2.2.2
  have hLe := hL e he
  have hg := gh_1 (L := L) (bx := bx) (S := S) (b := b) (e := e)
  have hgl := gh_le L bx S b e
  refine wp_iload_n C 1 dX0_goesHigher_0 rfl rfl ?_
  refine wp_aload_n C 0 dX0_goesHigher_1 rfl rfl ?_
  refine wp_getI C dX0_goesHigher_2 fX0_goesHigher_29 hA.1 ?_
  refine wp_eqi ((auI_o (by decide) (by decide) (by decide)).trans hA.2.2.2.2.1) ?_
  refine wp_icmp_eq C 30 dX0_goesHigher_5 (by decide) (fun c5 => ?_) (fun c5 => ?_)
  · have c5 : ((e : Nat) : Int) = bx.toInt := by have hcv := p_eq c5; rw [nI_toInt (show e < 2 ^ 31 by omega)] at hcv; exact hcv
    refine wp_iconst C 0 dX0_goesHigher_30 (by decide) ?_
    exact wp_zret C Z dX0_goesHigher_31 (by decide) (by decide) (by decide) (by rw [show ghN L bx S b e = 0 by omega]; exact gP_rf)
  · have c5 : ¬ ((e : Nat) : Int) = bx.toInt := by have hcv := n_eq c5; rw [nI_toInt (show e < 2 ^ 31 by omega)] at hcv; exact hcv
    refine wp_aload_n C 0 dX0_goesHigher_8 rfl rfl ?_
    refine wp_getR C dX0_goesHigher_9 fX0_goesHigher_25 hA.1 hA.2.2.1 ?_
    refine wp_iload_n C 1 dX0_goesHigher_12 rfl rfl ?_
    refine wp_iald C dX0_goesHigher_13 hA.2.1 (j := e) rfl (by omega) (by decide) ?_
    refine wp_eqi ((congrFun (auI_n (AR.neO hA.2.1 hA.1 (by decide))) _).trans (hA.2.2.2.2.2.2.1 e (by omega))) ?_
    refine wp_aload_n C 0 dX0_goesHigher_14 rfl rfl ?_
    refine wp_getI C dX0_goesHigher_15 fX0_goesHigher_32 hA.1 ?_
    refine wp_eqi auI_4 ?_
    refine wp_aload_n C 0 dX0_goesHigher_18 rfl rfl ?_
    refine wp_getI C dX0_goesHigher_19 fX0_goesHigher_22 hA.1 ?_
    refine wp_eqi ((auI_o (by decide) (by decide) (by decide)).trans hA.2.2.2.2.2.1) ?_
    refine wp_iadd C dX0_goesHigher_22 ?_
    refine wp_eqi (nI_add b S) ?_
    refine wp_icmp_lt C 30 dX0_goesHigher_23 (by decide) (fun c23 => ?_) (fun c23 => ?_)
    · have c23 : (((L e) : Nat) : Int) < ((b + S : Nat) : Int) := by have hcv := p_lt c23; rw [nI_toInt (show (L e) < 2 ^ 31 by omega), nI_toInt (show b + S < 2 ^ 31 by omega)] at hcv; exact hcv
      refine wp_iconst C 0 dX0_goesHigher_30 (by decide) ?_
      exact wp_zret C Z dX0_goesHigher_31 (by decide) (by decide) (by decide) (by rw [show ghN L bx S b e = 0 by omega]; exact gP_rf)
    · have c23 : ¬ (((L e) : Nat) : Int) < ((b + S : Nat) : Int) := by have hcv := n_lt c23; rw [nI_toInt (show (L e) < 2 ^ 31 by omega), nI_toInt (show b + S < 2 ^ 31 by omega)] at hcv; exact hcv
      refine wp_iconst C 1 dX0_goesHigher_26 (by decide) ?_
      refine wp_goto C 31 dX0_goesHigher_27 (by decide) ?_
      exact wp_zret C Z dX0_goesHigher_31 (by decide) (by decide) (by decide) (by rw [show ghN L bx S b e = 1 by omega]; exact gP_rf)
set_option maxRecDepth 100000 in
set_option maxHeartbeats 4000000 in
theorem c_playRound (l : Launch) {T : gSh} {I : gI} {J : gJ} {R : gR} {u y : Nat} {L : Nat → Nat} {bx : Int32} {S B : Nat} (hA : AB T I R u y L bx S B) {b r : Nat} {h : Int32} (hb : b ≤ 1000000) : Con l yX0_playRound wsX0_playRound ({ frames := 1, cells := 0, slots := 0, locals := 21 }) [.ref u] T (auI I u b h r) J R (gP (some (.int (nI (if rdK L bx S (b, h) B = (b, h) then 0 else 1)))) T (auI I u (rdK L bx S (b, h) B).1 (rdK L bx S (b, h) B).2 (r + 1)) J R) := by
  refine Con.mk (cc := cX0_playRound) (maxL := 3) (ret := (some .boolean)) (by decide) rfl (Nat.le_of_ble_eq_true rfl) ?_
  intro E hE C Z hnm
  subst hE
  change WP E 3 0 0 T (auI I u b h r) J R 0 [(0, .ref u)] []
  have hB := hA.2.2.2.2.2.2.2.1
  have hS := hA.2.2.2.2.2.2.2.2.1
  have hL := hA.2.2.2.2.2.2.2.2.2
  have loop : ∀ e, e ≤ B → ∀ c g, rdK L bx S (b, h) e = (c, g) → ∀ lv, lv_pick lv [0, 1, 2] = [(0, .ref u), (1, .int (nI (if (c, g) = (b, h) then 0 else 1))), (2, .int (nI e))] → WP E 3 0 0 T (auI I u c g (r + 1)) J R 14 lv [] := by
    refine loopN B (fun e he ih => ?_)
    intro c g es lv hlv
    refine wp_lv [0, 1, 2] hlv ?_
    have hcM : c ≤ 1000000 := by have := rdK_le (bx := bx) (S := S) (s := (b, h)) hL hb e he; rw [es] at this; exact this
    have hcb : (c, g) = (b, h) ∨ b + S ≤ c := by have := rdK_or L bx S (b, h) e; rw [es] at this; exact this
    have hcb2 : b ≤ c := by rcases hcb with z | z; exact Nat.le_of_eq (congrArg Prod.fst z).symm; omega
    refine wp_iload_n C 2 dX0_playRound_14 rfl rfl ?_
    refine wp_aload_n C 0 dX0_playRound_15 rfl rfl ?_
    refine wp_getI C dX0_playRound_16 fX0_playRound_19 hA.1 ?_
    refine wp_eqi ((auI_o (by decide) (by decide) (by decide)).trans hA.2.2.2.1) ?_
    refine wp_icmp_ge C 64 dX0_playRound_19 (by decide) (fun c19 => ?_) (fun c19 => ?_)
    · have c19 : ((B : Nat) : Int) ≤ ((e : Nat) : Int) := by have hcv := p_le c19; rw [nI_toInt (show B < 2 ^ 31 by omega), nI_toInt (show e < 2 ^ 31 by omega)] at hcv; exact hcv
      refine wp_iload_n C 1 dX0_playRound_64 rfl rfl ?_
      have eB : B = e := by omega
      have hb01 : nI (if (c, g) = (b, h) then 0 else 1) = 0 ∨ nI (if (c, g) = (b, h) then 0 else 1) = 1 := by split; exact Or.inl rfl; exact Or.inr rfl
      exact wp_zret C Z dX0_playRound_65 (by decide) (by decide) hb01 (by rw [eB, es]; exact gP_rf)
    · have c19 : ¬ ((B : Nat) : Int) ≤ ((e : Nat) : Int) := by have hcv := n_le c19; rw [nI_toInt (show B < 2 ^ 31 by omega), nI_toInt (show e < 2 ^ 31 by omega)] at hcv; exact hcv
      refine wp_iload_n C 2 dX0_playRound_22 rfl rfl ?_
      refine wp_aload_n C 0 dX0_playRound_23 rfl rfl ?_
      refine wp_getI C dX0_playRound_24 fX0_playRound_35 hA.1 ?_
      refine wp_eqi auI_5 ?_
      refine wp_icmp_eq C 58 dX0_playRound_27 (by decide) (fun c27 => ?_) (fun c27 => ?_)
      · have c27 : ((e : Nat) : Int) = g.toInt := by have hcv := p_eq c27; rw [nI_toInt (show e < 2 ^ 31 by omega)] at hcv; exact hcv
        refine wp_iinc C 2 (nI (e + 1)) [(2, .int (nI (e + 1))), (0, .ref u), (1, .int (nI (if (c, g) = (b, h) then 0 else 1)))] dX0_playRound_58 rfl (nI_1 e) (by decide) rfl ?_
        refine wp_goto C 14 dX0_playRound_61 (by decide) ?_
        refine wp_lv [1, 2, 0] rfl ?_
        have es1 : rdK L bx S (b, h) (e + 1) = (c, g) := by
          show bdS L bx S (rdK L bx S (b, h) e) e = _
          rw [es]; unfold bdS; rw [if_pos]
          show (e : Int) = g.toInt ∨ (e : Int) = bx.toInt ∨ L e < c + S
          omega
        exact ih (e + 1) (by omega) (by omega) _ _ es1 _ rfl
      · have c27 : ¬ ((e : Nat) : Int) = g.toInt := by have hcv := n_eq c27; rw [nI_toInt (show e < 2 ^ 31 by omega)] at hcv; exact hcv
        refine wp_aload_n C 0 dX0_playRound_30 rfl rfl ?_
        refine wp_iload_n C 2 dX0_playRound_31 rfl rfl ?_
        have hg := gh_1 (L := L) (bx := bx) (S := S) (b := c) (e := e)
        have hgl := gh_le L bx S c e
        refine wp_cVi C (As := [.int (nI e)]) (rest := []) dX0_playRound_32 kX0_playRound_46 hA.1 (c_goesHigher _ hA (b := c) hcM (by omega)) rfl (Nat.le_of_ble_eq_true rfl) (by decide) (by decide) ?_
        refine wp_if_eq C 58 dX0_playRound_35 (by decide) (fun c35 => ?_) (fun c35 => ?_)
        · have c35 : ((ghN L bx S c e : Nat) : Int) = 0 := by have hcv := p_eq c35; rw [nI_toInt (show ghN L bx S c e < 2 ^ 31 by omega)] at hcv; exact hcv
          refine wp_iinc C 2 (nI (e + 1)) [(2, .int (nI (e + 1))), (0, .ref u), (1, .int (nI (if (c, g) = (b, h) then 0 else 1)))] dX0_playRound_58 rfl (nI_1 e) (by decide) rfl ?_
          refine wp_goto C 14 dX0_playRound_61 (by decide) ?_
          refine wp_lv [1, 2, 0] rfl ?_
          have es1 : rdK L bx S (b, h) (e + 1) = (c, g) := by
            show bdS L bx S (rdK L bx S (b, h) e) e = _
            rw [es]; unfold bdS; rw [if_pos]
            show (e : Int) = g.toInt ∨ (e : Int) = bx.toInt ∨ L e < c + S
            omega
          exact ih (e + 1) (by omega) (by omega) _ _ es1 _ rfl
        · have c35 : ¬ ((ghN L bx S c e : Nat) : Int) = 0 := by have hcv := n_eq c35; rw [nI_toInt (show ghN L bx S c e < 2 ^ 31 by omega)] at hcv; exact hcv
          refine wp_aload_n C 0 dX0_playRound_38 rfl rfl ?_
          refine wp_dup C dX0_playRound_39 rfl ?_
          refine wp_getI C dX0_playRound_40 fX0_playRound_32 hA.1 ?_
          refine wp_eqi auI_4 ?_
          refine wp_aload_n C 0 dX0_playRound_43 rfl rfl ?_
          refine wp_getI C dX0_playRound_44 fX0_playRound_22 hA.1 ?_
          refine wp_eqi ((auI_o (by decide) (by decide) (by decide)).trans hA.2.2.2.2.2.1) ?_
          refine wp_iadd C dX0_playRound_47 ?_
          refine wp_eqi (nI_add c S) ?_
          refine wp_putI C dX0_playRound_48 pX0_playRound_32 (fun h => nomatch h) hA.1 ?_
          refine wp_eI (auI_p4 _) ?_
          refine wp_aload_n C 0 dX0_playRound_51 rfl rfl ?_
          refine wp_iload_n C 2 dX0_playRound_52 rfl rfl ?_
          refine wp_putI C dX0_playRound_53 pX0_playRound_35 (fun h => nomatch h) hA.1 ?_
          refine wp_eI (auI_p5 _) ?_
          refine wp_iconst C 1 dX0_playRound_56 (by decide) ?_
          refine wp_istore_n C [(1, .int 1), (0, .ref u), (2, .int (nI e))] dX0_playRound_57 rfl (by decide) rfl ?_
          refine wp_iinc C 2 (nI (e + 1)) [(2, .int (nI (e + 1))), (1, .int 1), (0, .ref u)] dX0_playRound_58 rfl (nI_1 e) (by decide) rfl ?_
          refine wp_goto C 14 dX0_playRound_61 (by decide) ?_
          refine wp_lv [2, 1, 0] rfl ?_
          have es1 : rdK L bx S (b, h) (e + 1) = (c + S, nI e) := by
            show bdS L bx S (rdK L bx S (b, h) e) e = _
            rw [es]; unfold bdS; rw [if_neg]
            show ¬ ((e : Int) = g.toInt ∨ (e : Int) = bx.toInt ∨ L e < c + S)
            omega
          have hne : ¬ (c + S, nI e) = (b, h) := fun z => by have z1 : c + S = b := congrArg Prod.fst z; omega
          exact ih (e + 1) (by omega) (by omega) _ _ es1 _ (by rw [if_neg hne]; rfl)
  refine wp_iconst C 0 dX0_playRound_0 (by decide) ?_
  refine wp_istore_n C [(1, .int 0), (0, .ref u)] dX0_playRound_1 rfl (by decide) rfl ?_
  refine wp_aload_n C 1 dX0_playRound_2 rfl rfl ?_
  refine wp_dup C dX0_playRound_3 rfl ?_
  refine wp_getI C dX0_playRound_4 fX0_playRound_9 hA.1 ?_
  refine wp_eqi auI_6 ?_
  refine wp_iconst C 1 dX0_playRound_7 (by decide) ?_
  refine wp_iadd C dX0_playRound_8 ?_
  refine wp_eqi (nI_add r 1) ?_
  refine wp_putI C dX0_playRound_9 pX0_playRound_9 (fun h => nomatch h) hA.1 ?_
  refine wp_eI (auI_p6 _) ?_
  refine wp_iconst C 0 dX0_playRound_12 (by decide) ?_
  refine wp_istore_n C [(2, .int 0), (1, .int 0), (0, .ref u)] dX0_playRound_13 rfl (by decide) rfl ?_
  refine wp_lv [2, 1, 0] rfl ?_
  exact loop 0 (by omega) b h rfl _ (by rw [if_pos rfl]; rfl)
set_option maxRecDepth 100000 in
set_option maxHeartbeats 4000000 in
theorem c_skipFullRounds (l : Launch) {T : gSh} {I : gI} {J : gJ} {R : gR} {u y : Nat} {L : Nat → Nat} {bx : Int32} {S B : Nat} (hA : AB T I R u y L bx S B) {b r : Nat} {h : Int32} (hb : b ≤ 1000000) : Con l yX0_skipFullRounds wsX0_skipFullRounds ({ frames := 1, cells := 0, slots := 0, locals := 21 }) [.ref u] T (auI I u b h r) J R (gP none T (auI I u (b + skF L bx S b h B * (ctN L bx S b B * S)) h (r + skF L bx S b h B)) J R) := by
  refine Con.mk (cc := cX0_skipFullRounds) (maxL := 6) (ret := none) (by decide) rfl (Nat.le_of_ble_eq_true rfl) ?_
  intro E hE C Z hnm
  subst hE
  change WP E 6 0 0 T (auI I u b h r) J R 0 [(0, .ref u)] []
  have hB := hA.2.2.2.2.2.2.2.1
  have hS := hA.2.2.2.2.2.2.2.2.1
  have hL := hA.2.2.2.2.2.2.2.2.2
  have hct := ct_le L bx S b B
  have hlm := lm_s (L := L) (bx := bx) (S := S) (b := b) B
  have hpr : ctN L bx S b B * S ≤ 1000000 := Nat.le_trans (Nat.mul_le_mul (show ctN L bx S b B ≤ 10 by omega) hS.2) (by decide)
  have loop : ∀ e, e ≤ B → ∀ lv, lv_pick lv [0, 1, 2, 3, 4] = [(0, .ref u), (1, .int (nI (ctN L bx S b e))), (2, .int (lsV L bx S b e)), (3, .int (nI (lmN L bx S b e))), (4, .int (nI e))] → WP E 6 0 0 T (auI I u b h r) J R 10 lv [] := by
    refine loopN B (fun e he ih => ?_)
    intro lv hlv
    refine wp_lv [0, 1, 2, 3, 4] hlv ?_
    have hlme := lm_s (L := L) (bx := bx) (S := S) (b := b) e
    refine wp_iload C 4 dX0_skipFullRounds_10 rfl ?_
    refine wp_aload_n C 0 dX0_skipFullRounds_12 rfl rfl ?_
    refine wp_getI C dX0_skipFullRounds_13 fX0_skipFullRounds_19 hA.1 ?_
    refine wp_eqi ((auI_o (by decide) (by decide) (by decide)).trans hA.2.2.2.1) ?_
    refine wp_icmp_ge C 52 dX0_skipFullRounds_16 (by decide) (fun c16 => ?_) (fun c16 => ?_)
    · have c16 : ((B : Nat) : Int) ≤ ((e : Nat) : Int) := by have hcv := p_le c16; rw [nI_toInt (show B < 2 ^ 31 by omega), nI_toInt (show e < 2 ^ 31 by omega)] at hcv; exact hcv
      have eB : e = B := by omega
      rw [eB]
      refine wp_iload_n C 1 dX0_skipFullRounds_52 rfl rfl ?_
      refine wp_aload_n C 0 dX0_skipFullRounds_53 rfl rfl ?_
      refine wp_getI C dX0_skipFullRounds_54 fX0_skipFullRounds_22 hA.1 ?_
      refine wp_eqi ((auI_o (by decide) (by decide) (by decide)).trans hA.2.2.2.2.2.1) ?_
      refine wp_imul C dX0_skipFullRounds_57 ?_
      refine wp_eqi (pk_mul (ctN L bx S b B) S) ?_
      refine wp_istore C [(4, .int (nI ((ctN L bx S b B) * S))), (0, .ref u), (1, .int (nI (ctN L bx S b B))), (2, .int (lsV L bx S b B)), (3, .int (nI (lmN L bx S b B)))] dX0_skipFullRounds_58 (by decide) rfl ?_
      refine wp_iload_n C 2 dX0_skipFullRounds_60 rfl rfl ?_
      refine wp_iconst C 2 dX0_skipFullRounds_61 (by decide) ?_
      refine wp_icmp_lt C 79 dX0_skipFullRounds_62 (by decide) (fun c62 => ?_) (fun c62 => ?_)
      · have c62 : ((ctN L bx S b B : Nat) : Int) < 2 := by have hcv := p_lt c62; rw [nI_toInt (show ctN L bx S b B < 2 ^ 31 by omega)] at hcv; exact hcv
        have hsk : skF L bx S b h B = 0 := by
          unfold skF; rw [if_neg]
          rintro ⟨z1, z2⟩
          have z3 : (lsV L bx S b B).toInt = h.toInt := by rw [z2]
          have z4 := Nat.mul_le_mul z1 hS.1
          omega
        exact wp_vret C Z dX0_skipFullRounds_79 (by decide) (by decide) (by rw [hsk, Nat.zero_mul, Nat.add_zero, Nat.add_zero]; exact gP_rf)
      · have c62 : ¬ ((ctN L bx S b B : Nat) : Int) < 2 := by have hcv := n_lt c62; rw [nI_toInt (show ctN L bx S b B < 2 ^ 31 by omega)] at hcv; exact hcv
        refine wp_iload_n C 3 dX0_skipFullRounds_65 rfl rfl ?_
        refine wp_aload_n C 1 dX0_skipFullRounds_66 rfl rfl ?_
        refine wp_getI C dX0_skipFullRounds_67 fX0_skipFullRounds_35 hA.1 ?_
        refine wp_eqi auI_5 ?_
        refine wp_icmp_ne C 79 dX0_skipFullRounds_70 (by decide) (fun c70 => ?_) (fun c70 => ?_)
        · have c70 : ¬ (lsV L bx S b B).toInt = h.toInt := by have hcv := n_eq c70; exact hcv
          have hsk : skF L bx S b h B = 0 := by
            unfold skF; rw [if_neg]
            rintro ⟨z1, z2⟩
            have z3 : (lsV L bx S b B).toInt = h.toInt := by rw [z2]
            have z4 := Nat.mul_le_mul z1 hS.1
            omega
          exact wp_vret C Z dX0_skipFullRounds_79 (by decide) (by decide) (by rw [hsk, Nat.zero_mul, Nat.add_zero, Nat.add_zero]; exact gP_rf)
        · have c70 : (lsV L bx S b B).toInt = h.toInt := by have hcv := p_eq c70; exact hcv
          refine wp_iload C 0 dX0_skipFullRounds_73 rfl ?_
          refine wp_iconst C 1 dX0_skipFullRounds_75 (by decide) ?_
          refine wp_icmp_ge C 80 dX0_skipFullRounds_76 (by decide) (fun c76 => ?_) (fun c76 => ?_)
          · have c76 : 1 ≤ (((ctN L bx S b B) * S : Nat) : Int) := by have hcv := p_le c76; rw [nI_toInt (show (ctN L bx S b B) * S < 2 ^ 31 by omega)] at hcv; exact hcv
            refine wp_iload_n C 4 dX0_skipFullRounds_80 rfl rfl ?_
            refine wp_aload_n C 1 dX0_skipFullRounds_81 rfl rfl ?_
            refine wp_getI C dX0_skipFullRounds_82 fX0_skipFullRounds_32 hA.1 ?_
            refine wp_eqi auI_4 ?_
            refine wp_isub C dX0_skipFullRounds_85 ?_
            have hls : lsV L bx S b B = h := (i_eq _ _).mpr c70
            have hbl : b ≤ lmN L bx S b B := by
              rcases ls_s (L := L) (bx := bx) (S := S) (b := b) B with ⟨w, -⟩ | ⟨x, hx, w1, -⟩
              · omega
              · have h1 := gh_1.mp w1; have h2 := hL x hx; have h3 := hlm.2.2 (by omega); omega
            refine wp_eqi (pk_sub hbl) ?_
            have hne88 := nI_ne0 (n := ctN L bx S b B * S) (by omega) (by omega)
            refine wp_iload C 0 dX0_skipFullRounds_86 rfl ?_
            refine wp_idiv C dX0_skipFullRounds_88 hne88 ?_
            refine wp_eqi (pk_div (by omega) (by omega) (by omega) : _ = nI ((lmN L bx S b B - b) / ((ctN L bx S b B) * S))) ?_
            refine wp_istore C [(5, .int (nI ((lmN L bx S b B - b) / ((ctN L bx S b B) * S)))), (4, .int (nI ((ctN L bx S b B) * S))), (0, .ref u), (1, .int (nI (ctN L bx S b B))), (2, .int (lsV L bx S b B)), (3, .int (nI (lmN L bx S b B)))] dX0_skipFullRounds_89 (by decide) rfl ?_
            refine wp_aload_n C 2 dX0_skipFullRounds_91 rfl rfl ?_
            refine wp_dup C dX0_skipFullRounds_92 rfl ?_
            refine wp_getI C dX0_skipFullRounds_93 fX0_skipFullRounds_9 hA.1 ?_
            refine wp_eqi auI_6 ?_
            refine wp_iload C 0 dX0_skipFullRounds_96 rfl ?_
            refine wp_iadd C dX0_skipFullRounds_98 ?_
            refine wp_eqi (nI_add r ((lmN L bx S b B - b) / ((ctN L bx S b B) * S))) ?_
            refine wp_putI C dX0_skipFullRounds_99 pX0_skipFullRounds_9 (fun h => nomatch h) hA.1 ?_
            refine wp_eI (auI_p6 _) ?_
            refine wp_aload_n C 2 dX0_skipFullRounds_102 rfl rfl ?_
            refine wp_dup C dX0_skipFullRounds_103 rfl ?_
            refine wp_getI C dX0_skipFullRounds_104 fX0_skipFullRounds_32 hA.1 ?_
            refine wp_eqi auI_4 ?_
            refine wp_iload C 0 dX0_skipFullRounds_107 rfl ?_
            refine wp_iload C 1 dX0_skipFullRounds_109 rfl ?_
            refine wp_imul C dX0_skipFullRounds_111 ?_
            refine wp_eqi (pk_mul ((lmN L bx S b B - b) / ((ctN L bx S b B) * S)) ((ctN L bx S b B) * S)) ?_
            refine wp_iadd C dX0_skipFullRounds_112 ?_
            refine wp_eqi (nI_add b (((lmN L bx S b B - b) / ((ctN L bx S b B) * S)) * ((ctN L bx S b B) * S))) ?_
            refine wp_putI C dX0_skipFullRounds_113 pX0_skipFullRounds_32 (fun h => nomatch h) hA.1 ?_
            refine wp_eI (auI_p4 _) ?_
            have hsk : skF L bx S b h B = (lmN L bx S b B - b) / (ctN L bx S b B * S) := by unfold skF; rw [if_pos ⟨by omega, hls⟩]
            exact wp_vret C Z dX0_skipFullRounds_116 (by decide) (by decide) (by rw [hsk]; exact gP_rf)
          · have c76 : ¬ 1 ≤ (((ctN L bx S b B) * S : Nat) : Int) := by have hcv := n_le c76; rw [nI_toInt (show (ctN L bx S b B) * S < 2 ^ 31 by omega)] at hcv; exact hcv
            have hsk : skF L bx S b h B = 0 := by
              unfold skF; rw [if_neg]
              rintro ⟨z1, z2⟩
              have z3 : (lsV L bx S b B).toInt = h.toInt := by rw [z2]
              have z4 := Nat.mul_le_mul z1 hS.1
              omega
            exact wp_vret C Z dX0_skipFullRounds_79 (by decide) (by decide) (by rw [hsk, Nat.zero_mul, Nat.add_zero, Nat.add_zero]; exact gP_rf)
    · have c16 : ¬ ((B : Nat) : Int) ≤ ((e : Nat) : Int) := by have hcv := n_le c16; rw [nI_toInt (show B < 2 ^ 31 by omega), nI_toInt (show e < 2 ^ 31 by omega)] at hcv; exact hcv
      refine wp_aload_n C 0 dX0_skipFullRounds_19 rfl rfl ?_
      refine wp_iload C 4 dX0_skipFullRounds_20 rfl ?_
      have hg := gh_1 (L := L) (bx := bx) (S := S) (b := b) (e := e)
      have hgl := gh_le L bx S b e
      have hLe := hL e (by omega)
      refine wp_cVi C (As := [.int (nI e)]) (rest := []) dX0_skipFullRounds_22 kX0_skipFullRounds_46 hA.1 (c_goesHigher _ hA (b := b) hb (by omega)) rfl (Nat.le_of_ble_eq_true rfl) (by decide) (by decide) ?_
      refine wp_if_eq C 46 dX0_skipFullRounds_25 (by decide) (fun c25 => ?_) (fun c25 => ?_)
      · have c25 : ((ghN L bx S b e : Nat) : Int) = 0 := by have hcv := p_eq c25; rw [nI_toInt (show ghN L bx S b e < 2 ^ 31 by omega)] at hcv; exact hcv
        refine wp_iinc C 4 (nI (e + 1)) [(4, .int (nI (e + 1))), (0, .ref u), (1, .int (nI (ctN L bx S b e))), (2, .int (lsV L bx S b e)), (3, .int (nI (lmN L bx S b e)))] dX0_skipFullRounds_46 rfl (nI_1 e) (by decide) rfl ?_
        refine wp_goto C 10 dX0_skipFullRounds_49 (by decide) ?_
        refine wp_lv [1, 2, 3, 4, 0] rfl ?_
        have g0 : ghN L bx S b e = 0 := by omega
        have k1 : ctN L bx S b (e + 1) = ctN L bx S b e := by show ctN L bx S b e + ghN L bx S b e = _; rw [g0]; rfl
        have k2 : lsV L bx S b (e + 1) = lsV L bx S b e := if_neg (by omega)
        have k3 : lmN L bx S b (e + 1) = lmN L bx S b e := if_neg (by omega)
        exact ih (e + 1) (by omega) (by omega) _ (by rw [k1, k2, k3]; rfl)
      · have c25 : ¬ ((ghN L bx S b e : Nat) : Int) = 0 := by have hcv := n_eq c25; rw [nI_toInt (show ghN L bx S b e < 2 ^ 31 by omega)] at hcv; exact hcv
        refine wp_iinc C 1 (nI ((ctN L bx S b e) + 1)) [(1, .int (nI ((ctN L bx S b e) + 1))), (0, .ref u), (2, .int (lsV L bx S b e)), (3, .int (nI (lmN L bx S b e))), (4, .int (nI e))] dX0_skipFullRounds_28 rfl (nI_1 (ctN L bx S b e)) (by decide) rfl ?_
        refine wp_iload C 4 dX0_skipFullRounds_31 rfl ?_
        refine wp_istore_n C [(2, .int (nI e)), (1, .int (nI ((ctN L bx S b e) + 1))), (0, .ref u), (3, .int (nI (lmN L bx S b e))), (4, .int (nI e))] dX0_skipFullRounds_33 rfl (by decide) rfl ?_
        refine wp_iload_n C 3 dX0_skipFullRounds_34 rfl rfl ?_
        refine wp_aload_n C 2 dX0_skipFullRounds_35 rfl rfl ?_
        refine wp_getR C dX0_skipFullRounds_36 fX0_skipFullRounds_25 hA.1 hA.2.2.1 ?_
        refine wp_iload C 4 dX0_skipFullRounds_39 rfl ?_
        refine wp_iald C dX0_skipFullRounds_41 hA.2.1 (j := e) rfl (by omega) (by decide) ?_
        refine wp_eqi ((congrFun (auI_n (AR.neO hA.2.1 hA.1 (by decide))) _).trans (hA.2.2.2.2.2.2.1 e (by omega))) ?_
        have g1 : ghN L bx S b e = 1 := by omega
        refine wp_min C dX0_skipFullRounds_42 (by decide +kernel) (by decide +kernel) (by decide +kernel) (by decide +kernel) (Nat.le_of_ble_eq_true rfl) (by decide) (by decide) ?_
        refine wp_topi (fun mn hm => ?_)
        have hmn := mn_s hm
        rw [nI_toInt (show lmN L bx S b e < 2 ^ 31 by omega), nI_toInt (show L e < 2 ^ 31 by omega)] at hmn
        have k3 : lmN L bx S b (e + 1) = if L e < lmN L bx S b e then L e else lmN L bx S b e := if_pos g1
        refine wp_eqi (show mn = nI (lmN L bx S b (e + 1)) from (i_eq _ _).mpr (by rw [k3]; split <;> (rw [nI_toInt (by omega)]; omega))) ?_
        refine wp_istore_n C [(3, .int (nI (lmN L bx S b (e + 1)))), (2, .int (nI e)), (1, .int (nI ((ctN L bx S b e) + 1))), (0, .ref u), (4, .int (nI e))] dX0_skipFullRounds_45 rfl (by decide) rfl ?_
        refine wp_iinc C 4 (nI (e + 1)) [(4, .int (nI (e + 1))), (3, .int (nI (lmN L bx S b (e + 1)))), (2, .int (nI e)), (1, .int (nI ((ctN L bx S b e) + 1))), (0, .ref u)] dX0_skipFullRounds_46 rfl (nI_1 e) (by decide) rfl ?_
        refine wp_goto C 10 dX0_skipFullRounds_49 (by decide) ?_
        refine wp_lv [4, 3, 2, 1, 0] rfl ?_
        have k1 : ctN L bx S b (e + 1) = ctN L bx S b e + 1 := by show ctN L bx S b e + ghN L bx S b e = _; rw [g1]
        have k2 : lsV L bx S b (e + 1) = nI e := if_pos g1
        exact ih (e + 1) (by omega) (by omega) _ (by rw [k1, k2]; rfl)
  refine wp_iconst C 0 dX0_skipFullRounds_0 (by decide) ?_
  refine wp_istore_n C [(1, .int 0), (0, .ref u)] dX0_skipFullRounds_1 rfl (by decide) rfl ?_
  refine wp_iconst C (-1) dX0_skipFullRounds_2 (by decide) ?_
  refine wp_istore_n C [(2, .int (-1)), (1, .int 0), (0, .ref u)] dX0_skipFullRounds_3 rfl (by decide) rfl ?_
  refine wp_ldc C 1000000 dX0_skipFullRounds_4 (by decide +kernel) ?_
  refine wp_istore_n C [(3, .int 1000000), (2, .int (-1)), (1, .int 0), (0, .ref u)] dX0_skipFullRounds_6 rfl (by decide) rfl ?_
  refine wp_iconst C 0 dX0_skipFullRounds_7 (by decide) ?_
  refine wp_istore C [(4, .int 0), (3, .int 1000000), (2, .int (-1)), (1, .int 0), (0, .ref u)] dX0_skipFullRounds_8 (by decide) rfl ?_
  refine wp_lv [4, 3, 2, 1, 0] rfl ?_
  exact loop 0 (by omega) _ rfl
set_option maxRecDepth 100000 in
set_option maxHeartbeats 4000000 in
theorem c_playRounds (l : Launch) {T : gSh} {I : gI} {J : gJ} {R : gR} {u y : Nat} {L : Nat → Nat} {bx : Int32} {S B : Nat} (hA : AB T I R u y L bx S B) {b : Nat} {h : Int32} (hb : b ≤ 1000000) (hs : 1 ≤ b ∨ ((b, h) = ((0, -1) : Nat × Int32) ∧ bx = -1)) : Con l yX0_playRounds wsX0_playRounds ({ frames := 2, cells := 0, slots := 0, locals := 46 }) [.ref u] T (auI I u b h 0) J R (gP none T (auI I u (auT L bx S B (b, h)).1 (auT L bx S B (b, h)).2 (auN L bx S B (b, h) + 1)) J R) := by
  refine Con.mk (cc := cX0_playRounds) (maxL := 3) (ret := none) (by decide) rfl (Nat.le_of_ble_eq_true rfl) ?_
  intro E hE C Z hnm
  subst hE
  change WP E 3 0 0 T (auI I u b h 0) J R 0 [(0, .ref u)] []
  have hB := hA.2.2.2.2.2.2.2.1
  have hS := hA.2.2.2.2.2.2.2.2.1
  have hL := hA.2.2.2.2.2.2.2.2.2
  have hM := fun k => rdI_le (bx := bx) (S := S) (s := (b, h)) hL hb k
  have loop : ∀ i, i ≤ 1000000 → ∀ r c g, i ≤ r → rdI L bx S B (b, h) r = (c, g) → (∀ j, j < r → rdI L bx S B (b, h) (j + 1) ≠ rdI L bx S B (b, h) j) → ∀ lv, lv_pick lv [0, 1, 2] = [(0, .ref u), (1, .int 1), (2, .int (nI i))] → WP E 3 0 0 T (auI I u c g r) J R 4 lv [] := by
    refine loopN 1000000 (fun i hi ih => ?_)
    intro r c g hir hr hno lv hlv
    refine wp_lv [0, 1, 2] hlv ?_
    have hcM : c ≤ 1000000 := by have := hM r; rw [hr] at this; exact this
    have hi2 : i < 1000000 := by
      rcases au_Q hB hS.1 hs hno with z | z | z
      · omega
      · rw [hr] at z
        have z2 : r + 1 ≤ c := z
        omega
      · omega
    refine wp_iload_n C 1 dX0_playRounds_4 rfl rfl ?_
    refine wp_if_eq C 29 dX0_playRounds_5 (by decide) (fun c5 => ?_) (fun c5 => ?_)
    · exact absurd c5 (by decide)
    · refine wp_iload_n C 2 dX0_playRounds_8 rfl rfl ?_
      refine wp_ldc C 1000000 dX0_playRounds_9 (by decide +kernel) ?_
      refine wp_icmp_ge C 29 dX0_playRounds_11 (by decide) (fun c11 => ?_) (fun c11 => ?_)
      · have c11 : 1000000 ≤ ((i : Nat) : Int) := by have hcv := p_le c11; rw [nI_toInt (show i < 2 ^ 31 by omega)] at hcv; exact hcv
        exfalso; omega
      · have c11 : ¬ 1000000 ≤ ((i : Nat) : Int) := by have hcv := n_le c11; rw [nI_toInt (show i < 2 ^ 31 by omega)] at hcv; exact hcv
        refine wp_aload_n C 0 dX0_playRounds_14 rfl rfl ?_
        refine wp_cVv C (As := []) (rest := []) dX0_playRounds_15 kX0_playRounds_39 hA.1 (c_skipFullRounds _ hA (b := c) (h := g) (r := r) hcM) rfl (Nat.le_of_ble_eq_true rfl) (by decide) (by decide) ?_
        obtain ⟨f, ef⟩ : ∃ f, f = skF L bx S c g B := ⟨_, rfl⟩
        obtain ⟨c2, ec2⟩ : ∃ c2, c2 = c + f * (ctN L bx S c B * S) := ⟨_, rfl⟩
        rw [← ef, ← ec2]
        obtain ⟨hk1, hk2, hc2⟩ := sk_s hB hS.1 hL hcM ef ec2
        have hr2 : rdI L bx S B (b, h) (r + f) = (c2, g) := by rw [rdI_add, hr, hk1]
        have hno2 : ∀ j, j < r + f → rdI L bx S B (b, h) (j + 1) ≠ rdI L bx S B (b, h) j := by
          intro j hj
          by_cases z : j < r
          · exact hno j z
          · have q := hk2 (j - r) (by omega)
            rw [← hr, ← rdI_add, ← rdI_add, show r + (j - r + 1) = j + 1 by omega, show r + (j - r) = j by omega] at q
            exact q
        refine wp_aload_n C 0 dX0_playRounds_18 rfl rfl ?_
        refine wp_cVi C (As := []) (rest := []) dX0_playRounds_19 kX0_playRounds_42 hA.1 (c_playRound _ hA (b := c2) (h := g) (r := r + f) hc2) rfl (Nat.le_of_ble_eq_true rfl) (by decide) (by decide) ?_
        have hr3 : rdI L bx S B (b, h) (r + f + 1) = rdK L bx S (c2, g) B := by show rdK L bx S (rdI L bx S B (b, h) (r + f)) B = _; rw [hr2]
        by_cases hst : rdK L bx S (c2, g) B = (c2, g)
        · refine wp_eqi (show _ = (0 : Int32) by rw [if_pos hst]; rfl) ?_
          refine wp_eI (show _ = auI I u c2 g (r + f + 1) by rw [hst]) ?_
          refine wp_istore_n C [(1, .int 0), (0, .ref u), (2, .int (nI i))] dX0_playRounds_22 rfl (by decide) rfl ?_
          refine wp_iinc C 2 (nI (i + 1)) [(2, .int (nI (i + 1))), (1, .int 0), (0, .ref u)] dX0_playRounds_23 rfl (nI_1 i) (by decide) rfl ?_
          refine wp_goto C 4 dX0_playRounds_26 (by decide) ?_
          refine wp_iload_n C 1 dX0_playRounds_4 rfl rfl ?_
          refine wp_if_eq C 29 dX0_playRounds_5 (by decide) (fun c5 => ?_) (fun c5 => ?_)
          · have hgr := rdI_gr hS.1 hno2
            rw [hr2] at hgr
            have hgr2 : b + (r + f) ≤ c2 := hgr
            have hN : auN L bx S B (b, h) = r + f := auN_eq (by omega) (by rw [hr3, hr2, hst]) hno2
            exact wp_vret C Z dX0_playRounds_29 (by decide) (by decide) (by unfold auT; rw [hN, hr2]; exact gP_rf)
          · exact absurd (by decide) c5
        · refine wp_eqi (show _ = (1 : Int32) by rw [if_neg hst]; rfl) ?_
          obtain ⟨c3, g3, e3⟩ : ∃ c3 g3, rdK L bx S (c2, g) B = (c3, g3) := ⟨_, _, rfl⟩
          refine wp_eI (show _ = auI I u c3 g3 (r + f + 1) by rw [e3]) ?_
          refine wp_istore_n C [(1, .int 1), (0, .ref u), (2, .int (nI i))] dX0_playRounds_22 rfl (by decide) rfl ?_
          refine wp_iinc C 2 (nI (i + 1)) [(2, .int (nI (i + 1))), (1, .int 1), (0, .ref u)] dX0_playRounds_23 rfl (nI_1 i) (by decide) rfl ?_
          refine wp_goto C 4 dX0_playRounds_26 (by decide) ?_
          refine wp_lv [2, 1, 0] rfl ?_
          refine ih (i + 1) (by omega) (by omega) (r + f + 1) c3 g3 (by omega) (hr3.trans e3) (fun j hj => ?_) _ rfl
          by_cases z : j < r + f
          · exact hno2 j z
          · rw [show j = r + f by omega, hr3, hr2]; exact hst
  refine wp_iconst C 1 dX0_playRounds_0 (by decide) ?_
  refine wp_istore_n C [(1, .int 1), (0, .ref u)] dX0_playRounds_1 rfl (by decide) rfl ?_
  refine wp_iconst C 0 dX0_playRounds_2 (by decide) ?_
  refine wp_istore_n C [(2, .int 0), (1, .int 1), (0, .ref u)] dX0_playRounds_3 rfl (by decide) rfl ?_
  refine wp_lv [2, 1, 0] rfl ?_
  exact loop 0 (by omega) 0 b h (Nat.le_refl 0) rfl (fun j hj => absurd hj (Nat.not_lt_zero j)) _ rfl
set_option maxRecDepth 100000 in
set_option maxHeartbeats 4000000 in
theorem c_topWith (l : Launch) {T : gSh} {I : gI} {J : gJ} {R : gR} {u y : Nat} {L : Nat → Nat} {bx : Int32} {S B : Nat} (hA : AB T I R u y L bx S B) {b r : Nat} {h : Int32} (hb : b ≤ 1000000) (hbx : bx.toInt = -1 ∨ (0 ≤ bx.toInt ∧ bx.toInt < B)) {p : Int32} {P : Nat} (hp : p = nI P) (hP : P ≤ 50) : Con l yX0_topWith wsX0_topWith ({ frames := 0, cells := 0, slots := 0, locals := 0 }) [.ref u, .int p] T (auI I u b h r) J R (gP none T (if isT L bx b h P = 1 then u2 (auI I u (tpN b P) bx r) u 7 1 else auI I u b h r) J R) := by
  refine Con.mk (cc := cX0_topWith) (maxL := 3) (ret := none) (by decide) rfl (Nat.le_of_ble_eq_true rfl) ?_
  intro E hE C Z hnm
  subst hE
  change WP E 3 0 0 T (auI I u b h r) J R 0 [(0, .ref u), (1, .int p)] []
  have hB := hA.2.2.2.2.2.2.2.1
  have hS := hA.2.2.2.2.2.2.2.2.1
  have hL := hA.2.2.2.2.2.2.2.2.2
  have hPb : b * P ≤ 50000000 := Nat.le_trans (Nat.mul_le_mul hb hP) (by decide)
  have hd := Nat.div_le_self (b * P + 99) 100
  have hLb : 0 ≤ bx.toInt → L bx.toInt.toNat ≤ 1000000 := fun z => hL _ (by omega)
  refine wp_aload_n C 0 dX0_topWith_0 rfl rfl ?_
  refine wp_getI C dX0_topWith_1 fX0_topWith_29 hA.1 ?_
  refine wp_eqi ((auI_o (by decide) (by decide) (by decide)).trans hA.2.2.2.2.1) ?_
  refine wp_iconst C (-1) dX0_topWith_4 (by decide) ?_
  refine wp_icmp_eq C 19 dX0_topWith_5 (by decide) (fun c5 => ?_) (fun c5 => ?_)
  · have c5 : bx.toInt = (-1) := by have hcv := p_eq c5; exact hcv
    have ht : isT L bx b h P = 0 := by unfold isT tpN; rw [if_neg (by omega)]
    exact wp_vret C Z dX0_topWith_19 (by decide) (by decide) (by rw [ht, if_neg (by decide)]; exact gP_rf)
  · have c5 : ¬ bx.toInt = (-1) := by have hcv := n_eq c5; exact hcv
    refine wp_aload_n C 0 dX0_topWith_8 rfl rfl ?_
    refine wp_getI C dX0_topWith_9 fX0_topWith_35 hA.1 ?_
    refine wp_eqi auI_5 ?_
    refine wp_aload_n C 0 dX0_topWith_12 rfl rfl ?_
    refine wp_getI C dX0_topWith_13 fX0_topWith_29 hA.1 ?_
    refine wp_eqi ((auI_o (by decide) (by decide) (by decide)).trans hA.2.2.2.2.1) ?_
    refine wp_icmp_ne C 20 dX0_topWith_16 (by decide) (fun c16 => ?_) (fun c16 => ?_)
    · have c16 : ¬ h.toInt = bx.toInt := by have hcv := n_eq c16; exact hcv
      refine wp_aload_n C 0 dX0_topWith_20 rfl rfl ?_
      refine wp_getI C dX0_topWith_21 fX0_topWith_32 hA.1 ?_
      refine wp_eqi auI_4 ?_
      refine wp_aload_n C 0 dX0_topWith_24 rfl rfl ?_
      refine wp_getI C dX0_topWith_25 fX0_topWith_32 hA.1 ?_
      refine wp_eqi auI_4 ?_
      refine wp_iload_n C 1 dX0_topWith_28 rfl rfl ?_
      refine wp_eqi hp ?_
      refine wp_imul C dX0_topWith_29 ?_
      refine wp_eqi (pk_mul b P) ?_
      refine wp_bipush C 100 dX0_topWith_30 (by decide) ?_
      refine wp_iadd C dX0_topWith_32 ?_
      refine wp_eqi (nI_add (b * P) 100) ?_
      refine wp_iconst C 1 dX0_topWith_33 (by decide) ?_
      refine wp_isub C dX0_topWith_34 ?_
      refine wp_eqi ((pk_sub (a := b * P + 100) (b := 1) (by omega)).trans (congrArg nI (by omega)) : _ = nI (b * P + 99)) ?_
      refine wp_bipush C 100 dX0_topWith_35 (by decide) ?_
      refine wp_idiv C dX0_topWith_37 (by decide) ?_
      refine wp_eqi (pk_div (by omega) (by omega) (by omega) : _ = nI ((b * P + 99) / 100)) ?_
      refine wp_iadd C dX0_topWith_38 ?_
      refine wp_eqi (nI_add b ((b * P + 99) / 100)) ?_
      refine wp_istore_n C [(2, .int (nI (b + ((b * P + 99) / 100)))), (0, .ref u), (1, .int p)] dX0_topWith_39 rfl (by decide) rfl ?_
      refine wp_aload_n C 1 dX0_topWith_40 rfl rfl ?_
      refine wp_getR C dX0_topWith_41 fX0_topWith_25 hA.1 hA.2.2.1 ?_
      refine wp_aload_n C 1 dX0_topWith_44 rfl rfl ?_
      refine wp_getI C dX0_topWith_45 fX0_topWith_29 hA.1 ?_
      refine wp_eqi ((auI_o (by decide) (by decide) (by decide)).trans hA.2.2.2.2.1) ?_
      refine wp_iald C dX0_topWith_48 hA.2.1 (j := bx.toInt.toNat) (nI_nat (by omega)) (by omega) (by decide) ?_
      refine wp_eqi ((congrFun (auI_n (AR.neO hA.2.1 hA.1 (by decide))) _).trans (hA.2.2.2.2.2.2.1 bx.toInt.toNat (by omega))) ?_
      refine wp_iload_n C 0 dX0_topWith_49 rfl rfl ?_
      refine wp_icmp_lt C 71 dX0_topWith_50 (by decide) (fun c50 => ?_) (fun c50 => ?_)
      · have c50 : (((L bx.toInt.toNat) : Nat) : Int) < ((b + ((b * P + 99) / 100) : Nat) : Int) := by have hcv := p_lt c50; rw [nI_toInt (show (L bx.toInt.toNat) < 2 ^ 31 by omega), nI_toInt (show b + ((b * P + 99) / 100) < 2 ^ 31 by omega)] at hcv; exact hcv
        have ht : isT L bx b h P = 0 := by unfold isT tpN; rw [if_neg (by omega)]
        exact wp_vret C Z dX0_topWith_71 (by decide) (by decide) (by rw [ht, if_neg (by decide)]; exact gP_rf)
      · have c50 : ¬ (((L bx.toInt.toNat) : Nat) : Int) < ((b + ((b * P + 99) / 100) : Nat) : Int) := by have hcv := n_lt c50; rw [nI_toInt (show (L bx.toInt.toNat) < 2 ^ 31 by omega), nI_toInt (show b + ((b * P + 99) / 100) < 2 ^ 31 by omega)] at hcv; exact hcv
        refine wp_aload_n C 1 dX0_topWith_53 rfl rfl ?_
        refine wp_iload_n C 0 dX0_topWith_54 rfl rfl ?_
        refine wp_putI C dX0_topWith_55 pX0_topWith_32 (fun h => nomatch h) hA.1 ?_
        refine wp_eI (auI_p4 _) ?_
        refine wp_aload_n C 1 dX0_topWith_58 rfl rfl ?_
        refine wp_aload_n C 1 dX0_topWith_59 rfl rfl ?_
        refine wp_getI C dX0_topWith_60 fX0_topWith_29 hA.1 ?_
        refine wp_eqi ((auI_o (by decide) (by decide) (by decide)).trans hA.2.2.2.2.1) ?_
        refine wp_putI C dX0_topWith_63 pX0_topWith_35 (fun h => nomatch h) hA.1 ?_
        refine wp_eI (auI_p5 _) ?_
        refine wp_aload_n C 1 dX0_topWith_66 rfl rfl ?_
        refine wp_iconst C 1 dX0_topWith_67 (by decide) ?_
        refine wp_putZ C dX0_topWith_68 pX0_topWith_15 (fun h => nomatch h) hA.1 (by decide) ?_
        have ht : isT L bx b h P = 1 := by unfold isT tpN; rw [if_pos (by omega)]
        exact wp_vret C Z dX0_topWith_71 (by decide) (by decide) (by rw [ht, if_pos rfl]; exact gP_rf)
    · have c16 : h.toInt = bx.toInt := by have hcv := p_eq c16; exact hcv
      have ht : isT L bx b h P = 0 := by unfold isT tpN; rw [if_neg (by omega)]
      exact wp_vret C Z dX0_topWith_19 (by decide) (by decide) (by rw [ht, if_neg (by decide)]; exact gP_rf)
/-- a new auction -/
def PAu (T : gSh) (I : gI) (J : gJ) (R : gR) (u : Nat) (L : Nat → Nat) (bx : Int32) (S B F : Nat) : gPost := fun r T' I' J' R' => r = none ∧ (∃ y, y ∉ T.1 ∧ AB T' I' R' u y L bx S B) ∧ (I' u 4 = nI F ∧ I' u 5 = bx ∧ I' u 6 = nI 0 ∧ I' u 7 = 0) ∧ GrT T T' ∧ (∀ x, x ∈ T.1 → x ≠ u → I' x = I x ∧ J' x = J x ∧ R' x = R x)
set_option maxRecDepth 100000 in
set_option maxHeartbeats 4000000 in
theorem c_Auction (l : Launch) {T : gSh} {I : gI} {J : gJ} {R : gR} {u w : Nat} (ho : OB T u 0) (hw : AR T w 14 40) {L : Nat → Nat} {ed fl bx s : Int32} {S B F : Nat} (hed : ed = nI B) (hB : B ≤ 10) (hst : s = nI S) (hS : 1 ≤ S ∧ S ≤ 100000) (hfl : fl = nI F) (hrow : ∀ e, e < B → (J w e).toInt32 = nI (L e)) (hL : ∀ e, e < B → L e ≤ 1000000) : Con l yX0_init wsX0_init ({ frames := 1, cells := 1, slots := 10, locals := 20 }) [.ref u, .ref w, .int ed, .int fl, .int bx, .int s] T I J R (PAu T I J R u L bx S B F) := by
  refine Con.mk (cc := cX0_init) (maxL := 7) (ret := none) (by decide) rfl (Nat.le_of_ble_eq_true rfl) ?_
  intro E hE C Z hnm
  subst hE
  change WP E 7 0 0 T I J R 0 [(0, .ref u), (1, .ref w), (2, .int ed), (3, .int fl), (4, .int bx), (5, .int s)] []
  have u01 : u ∈ T.1 := ho.1
  have huw : w ≠ u := AR.neO hw ho (by decide)
  refine wp_aload_n C 0 dX0_init_0 rfl rfl ?_
  refine wp_objInit C dX0_init_1 (by decide +kernel) (by decide +kernel) (by decide +kernel) (Nat.le_of_ble_eq_true rfl) (by decide) ?_
  refine wp_aload_n C 0 dX0_init_4 rfl rfl ?_
  refine wp_iconst C 0 dX0_init_5 (by decide) ?_
  refine wp_putI C dX0_init_6 pX0_init_9 (fun h => nomatch h) ho ?_
  refine wp_aload_n C 0 dX0_init_9 rfl rfl ?_
  refine wp_iconst C 0 dX0_init_10 (by decide) ?_
  refine wp_putZ C dX0_init_11 pX0_init_15 (fun h => nomatch h) ho (by decide) ?_
  refine wp_aload_n C 0 dX0_init_14 rfl rfl ?_
  refine wp_iload_n C 2 dX0_init_15 rfl rfl ?_
  refine wp_putI C dX0_init_16 pX0_init_19 (fun _ => hnm) ho ?_
  refine wp_aload_n C 0 dX0_init_19 rfl rfl ?_
  refine wp_iload C 5 dX0_init_20 rfl ?_
  refine wp_putI C dX0_init_22 pX0_init_22 (fun _ => hnm) ho ?_
  refine wp_aload_n C 0 dX0_init_25 rfl rfl ?_
  refine wp_bipush C 10 dX0_init_26 (by decide) ?_
  refine wp_newaI C dX0_init_28 (by decide +kernel) (n := 10) rfl (by decide) (by decide) (by decide) ?_
  intro y hy
  have nuy : u ≠ y := fun z => hy (z ▸ ho.1)
  have nwy : w ≠ y := fun z => hy (z ▸ hw.1)
  refine wp_gen (fun T1 I1 J1 R1 => (OB T1 u 0 ∧ AR T1 y 13 10 ∧ AR T1 w 14 40 ∧ GrT T T1) ∧ (∀ x, x ∈ T.1 → x ≠ u → I1 x = I x ∧ J1 x = J x ∧ R1 x = R x) ∧ (I1 u 6 = 0 ∧ I1 u 7 = 0 ∧ I1 u 0 = nI B ∧ I1 u 3 = nI S)) ⟨⟨OB.push ho hy, AR.new, AR.push hw hy, GrT.push hy⟩, fun x hx hn => ?_, ?_⟩ ?_
  · have nxy : x ≠ y := fun z => hy (z ▸ hx)
    rw [vu_n _ _ nxy, vu_n _ _ nxy, vu_n _ _ nxy, u2_rown _ _ _ _ hn, u2_rown _ _ _ _ hn, u2_rown _ _ _ _ hn, u2_rown _ _ _ _ hn]; exact ⟨rfl, rfl, rfl⟩
  · rw [vu_n _ _ nuy]; simp [u2, hed, hst]
  rintro T1 I1 J1 R1 ⟨hq1, hq3, hq4⟩
  refine wp_putR C dX0_init_30 pX0_init_25 (fun _ => hnm) hq1.1 rfl rfl ?_
  refine wp_iconst C 0 dX0_init_33 (by decide) ?_
  refine wp_istore C [(6, .int 0), (0, .ref u), (1, .ref w), (2, .int ed), (3, .int fl), (4, .int bx), (5, .int s)] dX0_init_34 (by decide) rfl ?_
  have hq2 : u2 R1 u 1 (some y) u 1 = some y := u2_s _ _ _ _
  have hq5 : ∀ e, e < B → J1 w e = J w e := fun e _ => by rw [(hq3 w hw.1 huw).2.1]
  have loop : ∀ i, i ≤ B → ∀ I2 : gI, (∀ x, x ≠ y → I2 x = I1 x) → (∀ e, e < i → I2 y e = nI (L e)) → ∀ lv, lv_pick lv [0, 1, 2, 3, 4, 5, 6] = [(0, .ref u), (1, .ref w), (2, .int ed), (3, .int fl), (4, .int bx), (5, .int s), (6, .int (nI i))] → WP E 7 1 10 T1 I2 J1 (u2 R1 u 1 (some y)) 36 lv [] := by
    refine loopN B (fun i hi ih => ?_)
    intro I2 ho2 hy2 lv hlv
    refine wp_lv [0, 1, 2, 3, 4, 5, 6] hlv ?_
    refine wp_iload C 6 dX0_init_36 rfl ?_
    refine wp_iload_n C 2 dX0_init_38 rfl rfl ?_
    refine wp_eqi hed ?_
    refine wp_icmp_ge C 60 dX0_init_39 (by decide) (fun c39 => ?_) (fun c39 => ?_)
    · have c39 : ((B : Nat) : Int) ≤ ((i : Nat) : Int) := by have hcv := p_le c39; rw [nI_toInt (show B < 2 ^ 31 by omega), nI_toInt (show i < 2 ^ 31 by omega)] at hcv; exact hcv
      refine wp_aload_n C 0 dX0_init_60 rfl rfl ?_
      refine wp_iload C 4 dX0_init_61 rfl ?_
      refine wp_putI C dX0_init_63 pX0_init_29 (fun _ => hnm) hq1.1 ?_
      refine wp_aload_n C 0 dX0_init_66 rfl rfl ?_
      refine wp_iload_n C 3 dX0_init_67 rfl rfl ?_
      refine wp_putI C dX0_init_68 pX0_init_32 (fun h => nomatch h) hq1.1 ?_
      refine wp_aload_n C 0 dX0_init_71 rfl rfl ?_
      refine wp_iload C 4 dX0_init_72 rfl ?_
      refine wp_putI C dX0_init_74 pX0_init_35 (fun h => nomatch h) hq1.1 ?_
      have e2u : ∀ k, I2 u k = I1 u k := fun k => by rw [ho2 u nuy]
      have nyu : y ≠ u := Ne.symm nuy
      have eB : B = i := by omega
      refine wp_vret C Z dX0_init_77 (by decide) (by decide) ⟨rfl, ⟨y, hy, hq1.1, hq1.2.1, hq2, ?_, ?_, ?_, fun e he => ?_, hB, hS, hL⟩, ⟨?_, ?_, ?_, ?_⟩, hq1.2.2.2, fun x hx hn => ?_⟩
      · rw [u2_k _ _ _ _ (by decide), u2_k _ _ _ _ (by decide), u2_k _ _ _ _ (by decide), e2u]; exact hq4.2.2.1
      · rw [u2_k _ _ _ _ (by decide), u2_k _ _ _ _ (by decide), u2_s]
      · rw [u2_k _ _ _ _ (by decide), u2_k _ _ _ _ (by decide), u2_k _ _ _ _ (by decide), e2u]; exact hq4.2.2.2
      · rw [u2_rown _ _ _ _ nyu, u2_rown _ _ _ _ nyu, u2_rown _ _ _ _ nyu]; exact hy2 e (by omega)
      · rw [u2_k _ _ _ _ (by decide), u2_s]; exact hfl
      · rw [u2_s]
      · rw [u2_k _ _ _ _ (by decide), u2_k _ _ _ _ (by decide), u2_k _ _ _ _ (by decide), e2u]; exact hq4.1
      · rw [u2_k _ _ _ _ (by decide), u2_k _ _ _ _ (by decide), u2_k _ _ _ _ (by decide), e2u]; exact hq4.2.1
      · have nxy : x ≠ y := fun z => hy (z ▸ hx)
        rw [u2_rown _ _ _ _ hn, u2_rown _ _ _ _ hn, u2_rown _ _ _ _ hn, u2_rown _ _ _ _ hn, ho2 x nxy]; exact hq3 x hx hn
    · have c39 : ¬ ((B : Nat) : Int) ≤ ((i : Nat) : Int) := by have hcv := n_le c39; rw [nI_toInt (show B < 2 ^ 31 by omega), nI_toInt (show i < 2 ^ 31 by omega)] at hcv; exact hcv
      refine wp_aload_n C 0 dX0_init_42 rfl rfl ?_
      refine wp_getR C dX0_init_43 fX0_init_25 hq1.1 hq2 ?_
      refine wp_iload C 6 dX0_init_46 rfl ?_
      refine wp_aload_n C 1 dX0_init_48 rfl rfl ?_
      refine wp_iload C 6 dX0_init_49 rfl ?_
      refine wp_lald C dX0_init_51 hq1.2.2.1 (j := i) rfl (by omega) (by decide) ?_
      refine wp_l2i C dX0_init_52 ?_
      refine wp_eqi (show _ = nI (L i) from by rw [hq5 i (by omega)]; exact hrow i (by omega)) ?_
      refine wp_iast C dX0_init_53 hq1.2.1 (j := i) rfl (by omega) (by decide) ?_
      refine wp_iinc C 6 (nI (i + 1)) [(6, .int (nI (i + 1))), (0, .ref u), (1, .ref w), (2, .int ed), (3, .int fl), (4, .int bx), (5, .int s)] dX0_init_54 rfl (nI_1 i) (by decide) rfl ?_
      refine wp_goto C 36 dX0_init_57 (by decide) ?_
      refine wp_lv [1, 2, 3, 4, 5, 6, 0] rfl ?_
      refine ih (i + 1) (by omega) (by omega) _ (fun x hx => by rw [u2_rown _ _ _ _ hx]; exact ho2 x hx) (fun e he => ?_) _ rfl
      by_cases z : e = i
      · rw [z, u2_s]
      · rw [u2_k _ _ _ _ z]; exact hy2 e (by omega)
  refine wp_lv [1, 2, 3, 4, 5, 6, 0] rfl ?_
  exact loop 0 (by omega) _ (fun x hx => rfl) (fun e he => absurd he (Nat.not_lt_zero e)) _ rfl
