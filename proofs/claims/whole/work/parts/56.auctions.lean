/-! ===== auction, sold of the class ===== -/
def eN_ (a : gI) : Nat := (a 0 8).toInt.toNat
/-- the limits in a tray -/
def lim (n : gJ) (t e : Nat) : Nat := (n 6 (40 * t + e)).toInt.toNat
def lmB (n : gJ) (t : Nat) (bx F : Int32) (e : Nat) : Nat := if (n 6 (40 * t + e)).toInt < 0 ∨ 1000000 < (n 6 (40 * t + e)).toInt ∨ ((e : Int) = bx.toInt ∧ (n 6 (40 * t + e)).toInt < F.toInt) then 0 else 1
theorem lmB_0 {n : gJ} {t : Nat} {bx F : Int32} {e : Nat} : lmB n t bx F e = 0 ↔ ((n 6 (40 * t + e)).toInt < 0 ∨ 1000000 < (n 6 (40 * t + e)).toInt ∨ ((e : Int) = bx.toInt ∧ (n 6 (40 * t + e)).toInt < F.toInt)) := by
  unfold lmB
  by_cases h : (n 6 (40 * t + e)).toInt < 0 ∨ 1000000 < (n 6 (40 * t + e)).toInt ∨ ((e : Int) = bx.toInt ∧ (n 6 (40 * t + e)).toInt < F.toInt)
  · rw [if_pos h]; exact ⟨fun _ => h, fun _ => rfl⟩
  · rw [if_neg h]; exact ⟨fun z => absurd z (by decide), fun z => absurd z h⟩
def lmO (a : gI) (n : gJ) (t : Nat) (bx F : Int32) : Nat := if ff (lmB n t bx F) (eN_ a) < eN_ a then 0 else 1
theorem lmO_le (a : gI) (n : gJ) (t : Nat) (bx F : Int32) : lmO a n t bx F ≤ 1 := by unfold lmO; split <;> omega
theorem lmO_1 {a : gI} {n : gJ} {t : Nat} {bx F : Int32} (h : lmO a n t bx F = 1) {e : Nat} (he : e < eN_ a) : (0 ≤ (n 6 (40 * t + e)).toInt ∧ (n 6 (40 * t + e)).toInt ≤ 1000000) ∧ ((e : Int) = bx.toInt → F.toInt ≤ (n 6 (40 * t + e)).toInt) := by
  unfold lmO at h
  have hs := ff_sp (lmB n t bx F) (eN_ a)
  by_cases z : ff (lmB n t bx F) (eN_ a) < eN_ a
  · rw [if_pos z] at h; exact absurd h (by decide)
  · have hb := hs.2.2 e (by omega)
    have hb2 : ¬ ((n 6 (40 * t + e)).toInt < 0 ∨ 1000000 < (n 6 (40 * t + e)).toInt ∨ ((e : Int) = bx.toInt ∧ (n 6 (40 * t + e)).toInt < F.toInt)) := fun w => hb (lmB_0.mpr w)
    omega
def stAu (a : gI) (n : gJ) (t F bx p s : Int32) : Nat := if (0 ≤ t.toInt ∧ t.toInt < 4) ∧ (bx.toInt = -1 ∨ (0 ≤ bx.toInt ∧ bx.toInt < (a 0 8).toInt)) then (if (0 ≤ F.toInt ∧ F.toInt ≤ 1000000) ∧ (0 ≤ p.toInt ∧ p.toInt ≤ 50) ∧ (1 ≤ s.toInt ∧ s.toInt ≤ 100000) ∧ (F.toInt = 0 ↔ bx.toInt = -1) then (if (a 5 t.toInt.toNat).toInt < 0 then 4 else if (a 5 t.toInt.toNat).toInt < (a 0 8).toInt then 5 else if lmO a n t.toInt.toNat bx F = 1 then 0 else 2) else 2) else 1
theorem stAu_le (a : gI) (n : gJ) (t F bx p s : Int32) : stAu a n t F bx p s ≤ 5 := by simp only [stAu]; (repeat' split) <;> omega
theorem stAu_ok {a : gI} {n : gJ} {t F bx p s : Int32} (z : stAu a n t F bx p s = 0) : ((0 ≤ t.toInt ∧ t.toInt < 4) ∧ (bx.toInt = -1 ∨ (0 ≤ bx.toInt ∧ bx.toInt < (a 0 8).toInt))) ∧ ((0 ≤ F.toInt ∧ F.toInt ≤ 1000000) ∧ (0 ≤ p.toInt ∧ p.toInt ≤ 50) ∧ (1 ≤ s.toInt ∧ s.toInt ≤ 100000) ∧ (F.toInt = 0 ↔ bx.toInt = -1)) ∧ (0 ≤ (a 5 t.toInt.toNat).toInt ∧ (a 0 8).toInt ≤ (a 5 t.toInt.toNat).toInt) ∧ lmO a n t.toInt.toNat bx F = 1 := by
  simp only [stAu] at z; (repeat' split at z) <;> omega
/-- the end of the rounds; how many; whether it is topped -/
def auE (a : gI) (n : gJ) (t F bx s : Int32) : Nat × Int32 := auT (lim n t.toInt.toNat) bx s.toInt.toNat (eN_ a) (F.toInt.toNat, bx)
def auR (a : gI) (n : gJ) (t F bx s : Int32) : Nat := auN (lim n t.toInt.toNat) bx s.toInt.toNat (eN_ a) (F.toInt.toNat, bx) + 1
def auP (a : gI) (n : gJ) (t F bx p s : Int32) : Nat := isT (lim n t.toInt.toNat) bx (auE a n t F bx s).1 (auE a n t F bx s).2 p.toInt.toNat
def auV (a : gI) (n : gJ) (t F bx p s : Int32) : Int32 := if auP a n t F bx p s = 1 then bx else (auE a n t F bx s).2
def auQ (a : gI) (n : gJ) (t F bx p s : Int32) : Nat := if auP a n t F bx p s = 1 then tpN (auE a n t F bx s).1 p.toInt.toNat else (auE a n t F bx s).1
def vAu (a : gI) (n : gJ) (t F bx p s : Int32) : Int32 := if stAu a n t F bx p s = 0 then (if (auE a n t F bx s).2.toInt < 0 then -1 else auV a n t F bx p s) else -1
def aAv (a : gI) (P r q : Nat) : gI := u2 (u2 (u2 (u2 (u2 a 0 0 0) 0 50 (nI P)) 0 49 1) 0 52 (nI r)) 0 51 (nI q)
def aAu (a : gI) (n : gJ) (t F bx p s : Int32) : gI := if stAu a n t F bx p s = 0 then (if (auE a n t F bx s).2.toInt < 0 then u2 a 0 0 9 else aAv a (auP a n t F bx p s) (auR a n t F bx s) (auQ a n t F bx p s)) else u2 a 0 0 (nI (stAu a n t F bx p s))
theorem isT_le (L : Nat → Nat) (bx : Int32) (b : Nat) (h : Int32) (P : Nat) : isT L bx b h P ≤ 1 := by unfold isT; split <;> omega
theorem isT_1 {L : Nat → Nat} {bx : Int32} {b : Nat} {h : Int32} {P : Nat} (z : isT L bx b h P = 1) : 0 ≤ bx.toInt := by
  unfold isT at z
  split at z
  · next w => exact w.1
  · exact absurd z (by decide)
theorem le1_0 {x : Nat} (h : x ≤ 1) (z : ¬ x = 1) : x = 0 := by omega
theorem le1_01 {x : Nat} (h : x ≤ 1) : x = 0 ∨ x = 1 := by omega
theorem auH_a {P : Nat} {b e h : Int} (h1 : P = 1 → 0 ≤ b) (h2 : -1 ≤ e) (h3 : 0 ≤ b → 0 ≤ e) (hH : (P = 1 ∧ h = b) ∨ (P = 0 ∧ h = e)) (c : h = -1) : e < 0 := by omega
theorem auH_b {P : Nat} {b e h : Int} (h1 : P = 1 → 0 ≤ b) (h2 : -1 ≤ e) (h3 : 0 ≤ b → 0 ≤ e) (hH : (P = 1 ∧ h = b) ∨ (P = 0 ∧ h = e)) (c : ¬ h = -1) : ¬ e < 0 := by omega
/-- facts of an auction that may be -/
theorem au_f {a : gI} {n : gJ} {t F bx p s : Int32} (h10 : (a 0 8).toInt ≤ 10) (hsu : ((0 ≤ t.toInt ∧ t.toInt < 4) ∧ (bx.toInt = -1 ∨ (0 ≤ bx.toInt ∧ bx.toInt < (a 0 8).toInt))) ∧ ((0 ≤ F.toInt ∧ F.toInt ≤ 1000000) ∧ (0 ≤ p.toInt ∧ p.toInt ≤ 50) ∧ (1 ≤ s.toInt ∧ s.toInt ≤ 100000) ∧ (F.toInt = 0 ↔ bx.toInt = -1)) ∧ (0 ≤ (a 5 t.toInt.toNat).toInt ∧ (a 0 8).toInt ≤ (a 5 t.toInt.toNat).toInt) ∧ lmO a n t.toInt.toNat bx F = 1) (h0 : 0 ≤ (a 0 8).toInt) : (∀ e, e < eN_ a → lim n t.toInt.toNat e ≤ 1000000) ∧ (1 ≤ F.toInt.toNat ∨ ((F.toInt.toNat, bx) = ((0, -1) : Nat × Int32) ∧ bx = -1)) ∧ (∀ k, (rdI (lim n t.toInt.toNat) bx s.toInt.toNat (eN_ a) (F.toInt.toNat, bx) k).1 ≤ 1000000) ∧ (∀ k, -1 ≤ (rdI (lim n t.toInt.toNat) bx s.toInt.toNat (eN_ a) (F.toInt.toNat, bx) k).2.toInt ∧ (rdI (lim n t.toInt.toNat) bx s.toInt.toNat (eN_ a) (F.toInt.toNat, bx) k).2.toInt < eN_ a) ∧ (∀ k, 0 ≤ bx.toInt → 0 ≤ (rdI (lim n t.toInt.toNat) bx s.toInt.toNat (eN_ a) (F.toInt.toNat, bx) k).2.toInt) := by
  have hL : ∀ e, e < eN_ a → lim n t.toInt.toNat e ≤ 1000000 := fun e he => by
    have := lmO_1 hsu.2.2.2 he
    unfold lim; omega
  have hB : eN_ a ≤ 10 := by unfold eN_; omega
  have eB : (eN_ a : Int) = (a 0 8).toInt := by unfold eN_; omega
  have hbx := hsu.1.2
  refine ⟨hL, ?_, fun k => rdI_le hL (by show F.toInt.toNat ≤ 1000000; omega) k, fun k => rdI_h (by decide) (by show -1 ≤ bx.toInt ∧ bx.toInt < _; omega) hB k, fun k hk => (rdI_h (lo := 0) (by decide) (by show 0 ≤ bx.toInt ∧ bx.toInt < _; omega) hB k).1⟩
  by_cases z : F.toInt = 0
  · right
    have e1 : bx = -1 := (i_eq _ _).mpr (hsu.2.1.2.2.2.mp z)
    rw [z, e1]
    exact ⟨rfl, rfl⟩
  · left; omega
theorem l2i_nat {x : Int64} (h : 0 ≤ x.toInt ∧ x.toInt ≤ 1000000000) : x.toInt32 = nI x.toInt.toNat := by
  apply (i_eq _ _).mpr
  rw [nI_toInt (by omega), Int64.toInt_toInt32, Int.bmod_eq_of_le (by omega) (by omega)]
  omega
set_option maxRecDepth 100000 in
set_option maxHeartbeats 4000000 in
theorem c_areLimits (l : Launch) {T : gSh} {I : gI} {J : gJ} {R : gR} {ca : Nat → Nat} {a : gI} {n : gJ} (hK : KA T I J R ca a n) {t : Nat} (ht : t < 4) (hc : 0 ≤ (a 5 t).toInt ∧ (a 0 8).toInt ≤ (a 5 t).toInt ∧ (a 5 t).toInt ≤ 40) {F : Int32} (hF : 0 ≤ F.toInt) (bx : Int32) : Con l yX11_areLimits wsX11_areLimits ({ frames := 0, cells := 0, slots := 0, locals := 0 }) [.ref (ca 0), .ref (ca (5 + t)), .int F, .int bx] T I J R (gP (some (.int (nI (lmO a n t bx F)))) T I J R) := by
  refine Con.mk (cc := cX11_areLimits) (maxL := 9) (ret := (some .boolean)) (by decide) rfl (Nat.le_of_ble_eq_true rfl) ?_
  intro E hE C Z hnm
  subst hE
  change WP E 9 0 0 T I J R 0 [(0, .ref (ca 0)), (1, .ref (ca (5 + t))), (2, .int F), (3, .int bx)] []
  have kn := hK.2.2.2.2.1.ar
  have eB : (eN_ a : Int) = (a 0 8).toInt := by unfold eN_; omega
  have e21 : I (ca 2) 1 = nI (eN_ a) := (i_eq _ _).mpr (by rw [nI_toInt (by omega)]; omega)
  have loop : ∀ i, i ≤ eN_ a → (∀ j, j < i → lmB n t bx F j ≠ 0) → ∀ lv, lv_pick lv [0, 1, 2, 3, 4] = [(0, .ref (ca 0)), (1, .ref (ca (5 + t))), (2, .int F), (3, .int bx), (4, .int (nI i))] → WP E 9 0 0 T I J R 3 lv [] := by
    refine loopN (eN_ a) (fun i hi ih => ?_)
    intro hno lv hlv
    refine wp_lv [0, 1, 2, 3, 4] hlv ?_
    have hb := lmB_0 (n := n) (t := t) (bx := bx) (F := F) (e := i)
    refine wp_iload C 4 dX11_areLimits_3 rfl ?_
    refine wp_aload_n C 0 dX11_areLimits_5 rfl rfl ?_
    refine wp_getR C dX11_areLimits_6 fX11_areLimits_19 (hK.1.ob 0 (by decide) rfl) (hK.1.rf 0 1 2 (by decide)) ?_
    refine wp_getI C dX11_areLimits_9 fX11_areLimits_105 (hK.1.ob 2 (by decide) rfl) ?_
    refine wp_eqi e21 ?_
    refine wp_icmp_ge C 63 dX11_areLimits_12 (by decide) (fun c12 => ?_) (fun c12 => ?_)
    · have c12 : (((eN_ a) : Nat) : Int) ≤ ((i : Nat) : Int) := by have hcv := p_le c12; rw [nI_toInt (show (eN_ a) < 2 ^ 31 by omega), nI_toInt (show i < 2 ^ 31 by omega)] at hcv; exact hcv
      refine wp_iconst C 1 dX11_areLimits_63 (by decide) ?_
      have e9 : eN_ a = i := by omega
      exact wp_zret C Z dX11_areLimits_64 (by decide) (by decide) (by decide) (by rw [show lmO a n t bx F = 1 from by unfold lmO; rw [ff_none (fun j hj => hno j (by omega)), if_neg (Nat.lt_irrefl _)]]; exact gP_rf)
    · have c12 : ¬ (((eN_ a) : Nat) : Int) ≤ ((i : Nat) : Int) := by have hcv := n_le c12; rw [nI_toInt (show (eN_ a) < 2 ^ 31 by omega), nI_toInt (show i < 2 ^ 31 by omega)] at hcv; exact hcv
      refine wp_aload_n C 1 dX11_areLimits_15 rfl rfl ?_
      refine wp_getR C dX11_areLimits_16 fX11_areLimits_72 (hK.1.tob (by omega)) (hK.1.tnum (by omega)) ?_
      refine wp_iload C 4 dX11_areLimits_19 rfl ?_
      refine wp_lald C dX11_areLimits_21 (hK.1.tar (by omega)) (j := i) rfl (by omega) (by decide) ?_
      refine wp_eql (hK.2.2.2.1.nm (t := t) ht (by omega) (by omega)) ?_
      refine wp_lstore C [(5, .long (n 6 (40 * t + i))), (0, .ref (ca 0)), (1, .ref (ca (5 + t))), (2, .int F), (3, .int bx), (4, .int (nI i))] dX11_areLimits_22 (by decide) rfl ?_
      refine wp_iload C 5 dX11_areLimits_24 rfl ?_
      refine wp_iload_n C 4 dX11_areLimits_26 rfl rfl ?_
      refine wp_icmp_ne C 35 dX11_areLimits_27 (by decide) (fun c27 => ?_) (fun c27 => ?_)
      · have c27 : ¬ ((i : Nat) : Int) = bx.toInt := by have hcv := n_eq c27; rw [nI_toInt (show i < 2 ^ 31 by omega)] at hcv; exact hcv
        refine wp_lconst C 0 dX11_areLimits_35 (by decide) ?_
        refine wp_lstore C [(7, .long 0), (5, .long (n 6 (40 * t + i))), (0, .ref (ca 0)), (1, .ref (ca (5 + t))), (2, .int F), (3, .int bx), (4, .int (nI i))] dX11_areLimits_36 (by decide) rfl ?_
        refine wp_lload C 1 dX11_areLimits_38 rfl ?_
        refine wp_lload C 0 dX11_areLimits_40 rfl ?_
        refine wp_lcmp C dX11_areLimits_42 ?_
        refine wp_if_lt C 55 dX11_areLimits_43 (by decide) (fun c43 => ?_) (fun c43 => ?_)
        · have c43 : (n 6 (40 * t + i)).toInt < 0 := by have hcv : (lg_cmp (n 6 (40 * t + i)) 0).toInt < 0 := p_lt c43; have hz := lc_s (n 6 (40 * t + i)) 0; rw [(show (0 : Int64).toInt = 0 from rfl)] at hz; omega
          refine wp_iconst C 0 dX11_areLimits_55 (by decide) ?_
          have hfi : ff (lmB n t bx F) (eN_ a) = i := ff_eq (by omega) (hb.mpr (by omega)) hno
          exact wp_zret C Z dX11_areLimits_56 (by decide) (by decide) (by decide) (by rw [show lmO a n t bx F = 0 from by unfold lmO; rw [hfi, if_pos (by omega)]]; exact gP_rf)
        · have c43 : ¬ (n 6 (40 * t + i)).toInt < 0 := by have hcv : ¬ (lg_cmp (n 6 (40 * t + i)) 0).toInt < 0 := n_lt c43; have hz := lc_s (n 6 (40 * t + i)) 0; rw [(show (0 : Int64).toInt = 0 from rfl)] at hz; omega
          refine wp_lload C 1 dX11_areLimits_46 rfl ?_
          refine wp_ldc2 C 1000000 dX11_areLimits_48 (by decide +kernel) ?_
          refine wp_lcmp C dX11_areLimits_51 ?_
          refine wp_if_le C 57 dX11_areLimits_52 (by decide) (fun c52 => ?_) (fun c52 => ?_)
          · have c52 : (n 6 (40 * t + i)).toInt ≤ 1000000 := by have hcv : (lg_cmp (n 6 (40 * t + i)) 1000000).toInt ≤ 0 := p_le c52; have hz := lc_s (n 6 (40 * t + i)) 1000000; rw [(show (1000000 : Int64).toInt = 1000000 from rfl)] at hz; omega
            refine wp_iinc C 6 (nI (i + 1)) [(4, .int (nI (i + 1))), (7, .long 0), (5, .long (n 6 (40 * t + i))), (0, .ref (ca 0)), (1, .ref (ca (5 + t))), (2, .int F), (3, .int bx)] dX11_areLimits_57 rfl (nI_1 i) (by decide) rfl ?_
            refine wp_goto C 3 dX11_areLimits_60 (by decide) ?_
            refine wp_lv [3, 4, 5, 6, 0] rfl ?_
            refine ih (i + 1) (by omega) (by omega) (fun j hj => ?_) _ rfl
            by_cases z : j = i
            · rw [z]; exact fun w9 => by have := hb.mp w9; omega
            · exact hno j (by omega)
          · have c52 : ¬ (n 6 (40 * t + i)).toInt ≤ 1000000 := by have hcv : ¬ (lg_cmp (n 6 (40 * t + i)) 1000000).toInt ≤ 0 := n_le c52; have hz := lc_s (n 6 (40 * t + i)) 1000000; rw [(show (1000000 : Int64).toInt = 1000000 from rfl)] at hz; omega
            refine wp_iconst C 0 dX11_areLimits_55 (by decide) ?_
            have hfi : ff (lmB n t bx F) (eN_ a) = i := ff_eq (by omega) (hb.mpr (by omega)) hno
            exact wp_zret C Z dX11_areLimits_56 (by decide) (by decide) (by decide) (by rw [show lmO a n t bx F = 0 from by unfold lmO; rw [hfi, if_pos (by omega)]]; exact gP_rf)
      · have c27 : ((i : Nat) : Int) = bx.toInt := by have hcv := p_eq c27; rw [nI_toInt (show i < 2 ^ 31 by omega)] at hcv; exact hcv
        refine wp_iload_n C 3 dX11_areLimits_30 rfl rfl ?_
        refine wp_i2l C dX11_areLimits_31 ?_
        refine wp_goto C 36 dX11_areLimits_32 (by decide) ?_
        refine wp_lstore C [(7, .long F.toInt64), (5, .long (n 6 (40 * t + i))), (0, .ref (ca 0)), (1, .ref (ca (5 + t))), (2, .int F), (3, .int bx), (4, .int (nI i))] dX11_areLimits_36 (by decide) rfl ?_
        refine wp_lload C 1 dX11_areLimits_38 rfl ?_
        refine wp_lload C 0 dX11_areLimits_40 rfl ?_
        refine wp_lcmp C dX11_areLimits_42 ?_
        refine wp_if_lt C 55 dX11_areLimits_43 (by decide) (fun c43 => ?_) (fun c43 => ?_)
        · have c43 : (n 6 (40 * t + i)).toInt < F.toInt := by have hcv : (lg_cmp (n 6 (40 * t + i)) F.toInt64).toInt < 0 := p_lt c43; have hz := lc_s (n 6 (40 * t + i)) F.toInt64; rw [(i2l_T F)] at hz; omega
          refine wp_iconst C 0 dX11_areLimits_55 (by decide) ?_
          have hfi : ff (lmB n t bx F) (eN_ a) = i := ff_eq (by omega) (hb.mpr (by omega)) hno
          exact wp_zret C Z dX11_areLimits_56 (by decide) (by decide) (by decide) (by rw [show lmO a n t bx F = 0 from by unfold lmO; rw [hfi, if_pos (by omega)]]; exact gP_rf)
        · have c43 : ¬ (n 6 (40 * t + i)).toInt < F.toInt := by have hcv : ¬ (lg_cmp (n 6 (40 * t + i)) F.toInt64).toInt < 0 := n_lt c43; have hz := lc_s (n 6 (40 * t + i)) F.toInt64; rw [(i2l_T F)] at hz; omega
          refine wp_lload C 1 dX11_areLimits_46 rfl ?_
          refine wp_ldc2 C 1000000 dX11_areLimits_48 (by decide +kernel) ?_
          refine wp_lcmp C dX11_areLimits_51 ?_
          refine wp_if_le C 57 dX11_areLimits_52 (by decide) (fun c52 => ?_) (fun c52 => ?_)
          · have c52 : (n 6 (40 * t + i)).toInt ≤ 1000000 := by have hcv : (lg_cmp (n 6 (40 * t + i)) 1000000).toInt ≤ 0 := p_le c52; have hz := lc_s (n 6 (40 * t + i)) 1000000; rw [(show (1000000 : Int64).toInt = 1000000 from rfl)] at hz; omega
            refine wp_iinc C 6 (nI (i + 1)) [(4, .int (nI (i + 1))), (7, .long F.toInt64), (5, .long (n 6 (40 * t + i))), (0, .ref (ca 0)), (1, .ref (ca (5 + t))), (2, .int F), (3, .int bx)] dX11_areLimits_57 rfl (nI_1 i) (by decide) rfl ?_
            refine wp_goto C 3 dX11_areLimits_60 (by decide) ?_
            refine wp_lv [3, 4, 5, 6, 0] rfl ?_
            refine ih (i + 1) (by omega) (by omega) (fun j hj => ?_) _ rfl
            by_cases z : j = i
            · rw [z]; exact fun w9 => by have := hb.mp w9; omega
            · exact hno j (by omega)
          · have c52 : ¬ (n 6 (40 * t + i)).toInt ≤ 1000000 := by have hcv : ¬ (lg_cmp (n 6 (40 * t + i)) 1000000).toInt ≤ 0 := n_le c52; have hz := lc_s (n 6 (40 * t + i)) 1000000; rw [(show (1000000 : Int64).toInt = 1000000 from rfl)] at hz; omega
            refine wp_iconst C 0 dX11_areLimits_55 (by decide) ?_
            have hfi : ff (lmB n t bx F) (eN_ a) = i := ff_eq (by omega) (hb.mpr (by omega)) hno
            exact wp_zret C Z dX11_areLimits_56 (by decide) (by decide) (by decide) (by rw [show lmO a n t bx F = 0 from by unfold lmO; rw [hfi, if_pos (by omega)]]; exact gP_rf)
  refine wp_iconst C 0 dX11_areLimits_0 (by decide) ?_
  refine wp_istore C [(4, .int 0), (0, .ref (ca 0)), (1, .ref (ca (5 + t))), (2, .int F), (3, .int bx)] dX11_areLimits_1 (by decide) rfl ?_
  refine wp_lv [1, 2, 3, 4, 0] rfl ?_
  exact loop 0 (by omega) (fun j hj => by omega) _ rfl
set_option maxRecDepth 100000 in
set_option maxHeartbeats 4000000 in
theorem c_statusOfAuction (l : Launch) {T : gSh} {I : gI} {J : gJ} {R : gR} {ca : Nat → Nat} {a : gI} {n : gJ} (hK : KA T I J R ca a n) (t F bx p s : Int32) : Con l yX11_statusOfAuction wsX11_statusOfAuction ({ frames := 1, cells := 0, slots := 0, locals := 28 }) [.ref (ca 0), .int t, .int F, .int bx, .int p, .int s] T I J R (gP (some (.int (nI (stAu a n t F bx p s)))) T I J R) := by
  refine Con.mk (cc := cX11_statusOfAuction) (maxL := 6) (ret := (some .int)) (by decide) rfl (Nat.le_of_ble_eq_true rfl) ?_
  intro E hE C Z hnm
  subst hE
  change WP E 6 0 0 T I J R 0 [(0, .ref (ca 0)), (1, .int t), (2, .int F), (3, .int bx), (4, .int p), (5, .int s)] []
  have kn := hK.2.2.2.2.1.ar
  have kb := hK.2.2.2.2.2.1.ar
  have hlo := lmO_le a n t.toInt.toNat bx F
  refine wp_iload_n C 1 dX11_statusOfAuction_0 rfl rfl ?_
  refine wp_cSi C (As := [.int t]) (rest := []) dX11_statusOfAuction_1 kX11_statusOfAuction_60 (c_isTray _ t) rfl (Nat.le_of_ble_eq_true rfl) (by decide) (by decide) ?_
  refine wp_if_eq C 20 dX11_statusOfAuction_4 (by decide) (fun c4 => ?_) (fun c4 => ?_)
  · have c4 : ¬ (0 ≤ t.toInt ∧ t.toInt < 4) := fun z => absurd ((bI_t z).symm.trans c4) (by decide)
    refine wp_iconst C 1 dX11_statusOfAuction_20 (by decide) ?_
    exact wp_iret C Z dX11_statusOfAuction_21 (by decide) (by decide) (by rw [show stAu a n t F bx p s = 1 from by simp only [stAu]; (repeat' split) <;> omega]; exact gP_rf)
  · have c4 : (0 ≤ t.toInt ∧ t.toInt < 4) := Classical.byContradiction (fun z => c4 (bI_f z))
    refine wp_iload_n C 3 dX11_statusOfAuction_7 rfl rfl ?_
    refine wp_iconst C (-1) dX11_statusOfAuction_8 (by decide) ?_
    refine wp_icmp_eq C 22 dX11_statusOfAuction_9 (by decide) (fun c9 => ?_) (fun c9 => ?_)
    · have c9 : bx.toInt = (-1) := by have hcv := p_eq c9; exact hcv
      refine wp_iload_n C 2 dX11_statusOfAuction_22 rfl rfl ?_
      refine wp_if_lt C 44 dX11_statusOfAuction_23 (by decide) (fun c23 => ?_) (fun c23 => ?_)
      · have c23 : F.toInt < 0 := by have hcv := p_lt c23; exact hcv
        refine wp_iconst C 2 dX11_statusOfAuction_44 (by decide) ?_
        exact wp_iret C Z dX11_statusOfAuction_45 (by decide) (by decide) (by rw [show stAu a n t F bx p s = 2 from by simp only [stAu]; (repeat' split) <;> omega]; exact gP_rf)
      · have c23 : ¬ F.toInt < 0 := by have hcv := n_lt c23; exact hcv
        refine wp_iload_n C 2 dX11_statusOfAuction_26 rfl rfl ?_
        refine wp_ldc C 1000000 dX11_statusOfAuction_27 (by decide +kernel) ?_
        refine wp_icmp_gt C 44 dX11_statusOfAuction_29 (by decide) (fun c29 => ?_) (fun c29 => ?_)
        · have c29 : 1000000 < F.toInt := by have hcv := p_lt c29; exact hcv
          refine wp_iconst C 2 dX11_statusOfAuction_44 (by decide) ?_
          exact wp_iret C Z dX11_statusOfAuction_45 (by decide) (by decide) (by rw [show stAu a n t F bx p s = 2 from by simp only [stAu]; (repeat' split) <;> omega]; exact gP_rf)
        · have c29 : ¬ 1000000 < F.toInt := by have hcv := n_lt c29; exact hcv
          refine wp_iload C 4 dX11_statusOfAuction_32 rfl ?_
          refine wp_if_lt C 44 dX11_statusOfAuction_34 (by decide) (fun c34 => ?_) (fun c34 => ?_)
          · have c34 : p.toInt < 0 := by have hcv := p_lt c34; exact hcv
            refine wp_iconst C 2 dX11_statusOfAuction_44 (by decide) ?_
            exact wp_iret C Z dX11_statusOfAuction_45 (by decide) (by decide) (by rw [show stAu a n t F bx p s = 2 from by simp only [stAu]; (repeat' split) <;> omega]; exact gP_rf)
          · have c34 : ¬ p.toInt < 0 := by have hcv := n_lt c34; exact hcv
            refine wp_iload C 4 dX11_statusOfAuction_37 rfl ?_
            refine wp_bipush C 50 dX11_statusOfAuction_39 (by decide) ?_
            refine wp_icmp_le C 46 dX11_statusOfAuction_41 (by decide) (fun c41 => ?_) (fun c41 => ?_)
            · have c41 : p.toInt ≤ 50 := by have hcv := p_le c41; exact hcv
              refine wp_iload C 5 dX11_statusOfAuction_46 rfl ?_
              refine wp_iconst C 1 dX11_statusOfAuction_48 (by decide) ?_
              refine wp_icmp_lt C 81 dX11_statusOfAuction_49 (by decide) (fun c49 => ?_) (fun c49 => ?_)
              · have c49 : s.toInt < 1 := by have hcv := p_lt c49; exact hcv
                refine wp_iconst C 2 dX11_statusOfAuction_81 (by decide) ?_
                exact wp_iret C Z dX11_statusOfAuction_82 (by decide) (by decide) (by rw [show stAu a n t F bx p s = 2 from by simp only [stAu]; (repeat' split) <;> omega]; exact gP_rf)
              · have c49 : ¬ s.toInt < 1 := by have hcv := n_lt c49; exact hcv
                refine wp_iload C 5 dX11_statusOfAuction_52 rfl ?_
                refine wp_ldc C 100000 dX11_statusOfAuction_54 (by decide +kernel) ?_
                refine wp_icmp_gt C 81 dX11_statusOfAuction_56 (by decide) (fun c56 => ?_) (fun c56 => ?_)
                · have c56 : 100000 < s.toInt := by have hcv := p_lt c56; exact hcv
                  refine wp_iconst C 2 dX11_statusOfAuction_81 (by decide) ?_
                  exact wp_iret C Z dX11_statusOfAuction_82 (by decide) (by decide) (by rw [show stAu a n t F bx p s = 2 from by simp only [stAu]; (repeat' split) <;> omega]; exact gP_rf)
                · have c56 : ¬ 100000 < s.toInt := by have hcv := n_lt c56; exact hcv
                  refine wp_iload_n C 2 dX11_statusOfAuction_59 rfl rfl ?_
                  refine wp_if_ne C 67 dX11_statusOfAuction_60 (by decide) (fun c60 => ?_) (fun c60 => ?_)
                  · have c60 : ¬ F.toInt = 0 := by have hcv := n_eq c60; exact hcv
                    refine wp_iconst C 0 dX11_statusOfAuction_67 (by decide) ?_
                    refine wp_iload_n C 3 dX11_statusOfAuction_68 rfl rfl ?_
                    refine wp_iconst C (-1) dX11_statusOfAuction_69 (by decide) ?_
                    refine wp_icmp_ne C 77 dX11_statusOfAuction_70 (by decide) (fun c70 => ?_) (fun c70 => ?_)
                    · have c70 : ¬ bx.toInt = (-1) := by have hcv := n_eq c70; exact hcv
                      refine wp_iconst C 0 dX11_statusOfAuction_77 (by decide) ?_
                      refine wp_icmp_eq C 83 dX11_statusOfAuction_78 (by decide) (fun c78 => ?_) (fun c78 => ?_)
                      · have ktt := hK.2.2.2.1.ar (t := t.toInt.toNat) (by omega)
                        refine wp_aload_n C 0 dX11_statusOfAuction_83 rfl rfl ?_
                        refine wp_getR C dX11_statusOfAuction_84 fX11_statusOfAuction_11 (hK.1.ob 0 (by decide) rfl) (hK.1.rf 0 0 1 (by decide)) ?_
                        refine wp_iload_n C 1 dX11_statusOfAuction_87 rfl rfl ?_
                        refine wp_aald C RX10 dX11_statusOfAuction_88 (hK.1.ar 1 (by decide) rfl) (by decide) rfl (j := t.toInt.toNat) (nI_nat (by omega)) (by omega) (by decide) (hK.1.tray (by omega)) ?_
                        refine wp_getI C dX11_statusOfAuction_89 fX11_statusOfAuction_78 (hK.1.tob (by omega)) ?_
                        refine wp_if_eq C 97 dX11_statusOfAuction_92 (by decide) (fun c92 => ?_) (fun c92 => ?_)
                        · have c92 : (I (ca (5 + t.toInt.toNat)) 0).toInt = 0 := by have hcv := p_eq c92; exact hcv
                          refine wp_aload_n C 0 dX11_statusOfAuction_97 rfl rfl ?_
                          refine wp_getR C dX11_statusOfAuction_98 fX11_statusOfAuction_11 (hK.1.ob 0 (by decide) rfl) (hK.1.rf 0 0 1 (by decide)) ?_
                          refine wp_iload_n C 1 dX11_statusOfAuction_101 rfl rfl ?_
                          refine wp_aald C RX10 dX11_statusOfAuction_102 (hK.1.ar 1 (by decide) rfl) (by decide) rfl (j := t.toInt.toNat) (nI_nat (by omega)) (by omega) (by decide) (hK.1.tray (by omega)) ?_
                          refine wp_getI C dX11_statusOfAuction_103 fX11_statusOfAuction_286 (hK.1.tob (by omega)) ?_
                          refine wp_aload_n C 0 dX11_statusOfAuction_106 rfl rfl ?_
                          refine wp_getR C dX11_statusOfAuction_107 fX11_statusOfAuction_19 (hK.1.ob 0 (by decide) rfl) (hK.1.rf 0 1 2 (by decide)) ?_
                          refine wp_getI C dX11_statusOfAuction_110 fX11_statusOfAuction_105 (hK.1.ob 2 (by decide) rfl) ?_
                          refine wp_icmp_ge C 118 dX11_statusOfAuction_113 (by decide) (fun c113 => ?_) (fun c113 => ?_)
                          · have c113 : (I (ca 2) 1).toInt ≤ (I (ca (5 + t.toInt.toNat)) 2).toInt := by have hcv := p_le c113; exact hcv
                            refine wp_aload_n C 0 dX11_statusOfAuction_118 rfl rfl ?_
                            refine wp_aload_n C 0 dX11_statusOfAuction_119 rfl rfl ?_
                            refine wp_getR C dX11_statusOfAuction_120 fX11_statusOfAuction_11 (hK.1.ob 0 (by decide) rfl) (hK.1.rf 0 0 1 (by decide)) ?_
                            refine wp_iload_n C 1 dX11_statusOfAuction_123 rfl rfl ?_
                            refine wp_aald C RX10 dX11_statusOfAuction_124 (hK.1.ar 1 (by decide) rfl) (by decide) rfl (j := t.toInt.toNat) (nI_nat (by omega)) (by omega) (by decide) (hK.1.tray (by omega)) ?_
                            refine wp_iload_n C 2 dX11_statusOfAuction_125 rfl rfl ?_
                            refine wp_iload_n C 3 dX11_statusOfAuction_126 rfl rfl ?_
                            refine wp_cVi C (As := [.ref (ca (5 + t.toInt.toNat)), .int F, .int bx]) (rest := []) dX11_statusOfAuction_127 kX11_statusOfAuction_289 (hK.1.ob 0 (by decide) rfl) (c_areLimits _ hK (t := t.toInt.toNat) (by omega) (by omega) (F := F) (by omega) bx) rfl (Nat.le_of_ble_eq_true rfl) (by decide) (by decide) ?_
                            refine wp_if_eq C 137 dX11_statusOfAuction_130 (by decide) (fun c130 => ?_) (fun c130 => ?_)
                            · have c130 : ((lmO a n t.toInt.toNat bx F : Nat) : Int) = 0 := by have hcv := p_eq c130; rw [nI_toInt (show lmO a n t.toInt.toNat bx F < 2 ^ 31 by omega)] at hcv; exact hcv
                              refine wp_iconst C 2 dX11_statusOfAuction_137 (by decide) ?_
                              exact wp_iret C Z dX11_statusOfAuction_138 (by decide) (by decide) (by rw [show stAu a n t F bx p s = 2 from by simp only [stAu]; (repeat' split) <;> omega]; exact gP_rf)
                            · have c130 : ¬ ((lmO a n t.toInt.toNat bx F : Nat) : Int) = 0 := by have hcv := n_eq c130; rw [nI_toInt (show lmO a n t.toInt.toNat bx F < 2 ^ 31 by omega)] at hcv; exact hcv
                              refine wp_iconst C 0 dX11_statusOfAuction_133 (by decide) ?_
                              refine wp_goto C 138 dX11_statusOfAuction_134 (by decide) ?_
                              exact wp_iret C Z dX11_statusOfAuction_138 (by decide) (by decide) (by rw [show stAu a n t F bx p s = 0 from by simp only [stAu]; (repeat' split) <;> omega]; exact gP_rf)
                          · have c113 : ¬ (I (ca 2) 1).toInt ≤ (I (ca (5 + t.toInt.toNat)) 2).toInt := by have hcv := n_le c113; exact hcv
                            refine wp_iconst C 5 dX11_statusOfAuction_116 (by decide) ?_
                            exact wp_iret C Z dX11_statusOfAuction_117 (by decide) (by decide) (by rw [show stAu a n t F bx p s = 5 from by simp only [stAu]; (repeat' split) <;> omega]; exact gP_rf)
                        · have c92 : ¬ (I (ca (5 + t.toInt.toNat)) 0).toInt = 0 := by have hcv := n_eq c92; exact hcv
                          refine wp_iconst C 4 dX11_statusOfAuction_95 (by decide) ?_
                          exact wp_iret C Z dX11_statusOfAuction_96 (by decide) (by decide) (by rw [show stAu a n t F bx p s = 4 from by simp only [stAu]; (repeat' split) <;> omega]; exact gP_rf)
                      · exact absurd (by decide) c78
                    · have c70 : bx.toInt = (-1) := by have hcv := p_eq c70; exact hcv
                      refine wp_iconst C 1 dX11_statusOfAuction_73 (by decide) ?_
                      refine wp_goto C 78 dX11_statusOfAuction_74 (by decide) ?_
                      refine wp_icmp_eq C 83 dX11_statusOfAuction_78 (by decide) (fun c78 => ?_) (fun c78 => ?_)
                      · exact absurd c78 (by decide)
                      · refine wp_iconst C 2 dX11_statusOfAuction_81 (by decide) ?_
                        exact wp_iret C Z dX11_statusOfAuction_82 (by decide) (by decide) (by rw [show stAu a n t F bx p s = 2 from by simp only [stAu]; (repeat' split) <;> omega]; exact gP_rf)
                  · have c60 : F.toInt = 0 := by have hcv := p_eq c60; exact hcv
                    refine wp_iconst C 1 dX11_statusOfAuction_63 (by decide) ?_
                    refine wp_goto C 68 dX11_statusOfAuction_64 (by decide) ?_
                    refine wp_iload_n C 3 dX11_statusOfAuction_68 rfl rfl ?_
                    refine wp_iconst C (-1) dX11_statusOfAuction_69 (by decide) ?_
                    refine wp_icmp_ne C 77 dX11_statusOfAuction_70 (by decide) (fun c70 => ?_) (fun c70 => ?_)
                    · have c70 : ¬ bx.toInt = (-1) := by have hcv := n_eq c70; exact hcv
                      refine wp_iconst C 0 dX11_statusOfAuction_77 (by decide) ?_
                      refine wp_icmp_eq C 83 dX11_statusOfAuction_78 (by decide) (fun c78 => ?_) (fun c78 => ?_)
                      · exact absurd c78 (by decide)
                      · refine wp_iconst C 2 dX11_statusOfAuction_81 (by decide) ?_
                        exact wp_iret C Z dX11_statusOfAuction_82 (by decide) (by decide) (by rw [show stAu a n t F bx p s = 2 from by simp only [stAu]; (repeat' split) <;> omega]; exact gP_rf)
                    · have c70 : bx.toInt = (-1) := by have hcv := p_eq c70; exact hcv
                      refine wp_iconst C 1 dX11_statusOfAuction_73 (by decide) ?_
                      refine wp_goto C 78 dX11_statusOfAuction_74 (by decide) ?_
                      refine wp_icmp_eq C 83 dX11_statusOfAuction_78 (by decide) (fun c78 => ?_) (fun c78 => ?_)
                      · have ktt := hK.2.2.2.1.ar (t := t.toInt.toNat) (by omega)
                        refine wp_aload_n C 0 dX11_statusOfAuction_83 rfl rfl ?_
                        refine wp_getR C dX11_statusOfAuction_84 fX11_statusOfAuction_11 (hK.1.ob 0 (by decide) rfl) (hK.1.rf 0 0 1 (by decide)) ?_
                        refine wp_iload_n C 1 dX11_statusOfAuction_87 rfl rfl ?_
                        refine wp_aald C RX10 dX11_statusOfAuction_88 (hK.1.ar 1 (by decide) rfl) (by decide) rfl (j := t.toInt.toNat) (nI_nat (by omega)) (by omega) (by decide) (hK.1.tray (by omega)) ?_
                        refine wp_getI C dX11_statusOfAuction_89 fX11_statusOfAuction_78 (hK.1.tob (by omega)) ?_
                        refine wp_if_eq C 97 dX11_statusOfAuction_92 (by decide) (fun c92 => ?_) (fun c92 => ?_)
                        · have c92 : (I (ca (5 + t.toInt.toNat)) 0).toInt = 0 := by have hcv := p_eq c92; exact hcv
                          refine wp_aload_n C 0 dX11_statusOfAuction_97 rfl rfl ?_
                          refine wp_getR C dX11_statusOfAuction_98 fX11_statusOfAuction_11 (hK.1.ob 0 (by decide) rfl) (hK.1.rf 0 0 1 (by decide)) ?_
                          refine wp_iload_n C 1 dX11_statusOfAuction_101 rfl rfl ?_
                          refine wp_aald C RX10 dX11_statusOfAuction_102 (hK.1.ar 1 (by decide) rfl) (by decide) rfl (j := t.toInt.toNat) (nI_nat (by omega)) (by omega) (by decide) (hK.1.tray (by omega)) ?_
                          refine wp_getI C dX11_statusOfAuction_103 fX11_statusOfAuction_286 (hK.1.tob (by omega)) ?_
                          refine wp_aload_n C 0 dX11_statusOfAuction_106 rfl rfl ?_
                          refine wp_getR C dX11_statusOfAuction_107 fX11_statusOfAuction_19 (hK.1.ob 0 (by decide) rfl) (hK.1.rf 0 1 2 (by decide)) ?_
                          refine wp_getI C dX11_statusOfAuction_110 fX11_statusOfAuction_105 (hK.1.ob 2 (by decide) rfl) ?_
                          refine wp_icmp_ge C 118 dX11_statusOfAuction_113 (by decide) (fun c113 => ?_) (fun c113 => ?_)
                          · have c113 : (I (ca 2) 1).toInt ≤ (I (ca (5 + t.toInt.toNat)) 2).toInt := by have hcv := p_le c113; exact hcv
                            refine wp_aload_n C 0 dX11_statusOfAuction_118 rfl rfl ?_
                            refine wp_aload_n C 0 dX11_statusOfAuction_119 rfl rfl ?_
                            refine wp_getR C dX11_statusOfAuction_120 fX11_statusOfAuction_11 (hK.1.ob 0 (by decide) rfl) (hK.1.rf 0 0 1 (by decide)) ?_
                            refine wp_iload_n C 1 dX11_statusOfAuction_123 rfl rfl ?_
                            refine wp_aald C RX10 dX11_statusOfAuction_124 (hK.1.ar 1 (by decide) rfl) (by decide) rfl (j := t.toInt.toNat) (nI_nat (by omega)) (by omega) (by decide) (hK.1.tray (by omega)) ?_
                            refine wp_iload_n C 2 dX11_statusOfAuction_125 rfl rfl ?_
                            refine wp_iload_n C 3 dX11_statusOfAuction_126 rfl rfl ?_
                            refine wp_cVi C (As := [.ref (ca (5 + t.toInt.toNat)), .int F, .int bx]) (rest := []) dX11_statusOfAuction_127 kX11_statusOfAuction_289 (hK.1.ob 0 (by decide) rfl) (c_areLimits _ hK (t := t.toInt.toNat) (by omega) (by omega) (F := F) (by omega) bx) rfl (Nat.le_of_ble_eq_true rfl) (by decide) (by decide) ?_
                            refine wp_if_eq C 137 dX11_statusOfAuction_130 (by decide) (fun c130 => ?_) (fun c130 => ?_)
                            · have c130 : ((lmO a n t.toInt.toNat bx F : Nat) : Int) = 0 := by have hcv := p_eq c130; rw [nI_toInt (show lmO a n t.toInt.toNat bx F < 2 ^ 31 by omega)] at hcv; exact hcv
                              refine wp_iconst C 2 dX11_statusOfAuction_137 (by decide) ?_
                              exact wp_iret C Z dX11_statusOfAuction_138 (by decide) (by decide) (by rw [show stAu a n t F bx p s = 2 from by simp only [stAu]; (repeat' split) <;> omega]; exact gP_rf)
                            · have c130 : ¬ ((lmO a n t.toInt.toNat bx F : Nat) : Int) = 0 := by have hcv := n_eq c130; rw [nI_toInt (show lmO a n t.toInt.toNat bx F < 2 ^ 31 by omega)] at hcv; exact hcv
                              refine wp_iconst C 0 dX11_statusOfAuction_133 (by decide) ?_
                              refine wp_goto C 138 dX11_statusOfAuction_134 (by decide) ?_
                              exact wp_iret C Z dX11_statusOfAuction_138 (by decide) (by decide) (by rw [show stAu a n t F bx p s = 0 from by simp only [stAu]; (repeat' split) <;> omega]; exact gP_rf)
                          · have c113 : ¬ (I (ca 2) 1).toInt ≤ (I (ca (5 + t.toInt.toNat)) 2).toInt := by have hcv := n_le c113; exact hcv
                            refine wp_iconst C 5 dX11_statusOfAuction_116 (by decide) ?_
                            exact wp_iret C Z dX11_statusOfAuction_117 (by decide) (by decide) (by rw [show stAu a n t F bx p s = 5 from by simp only [stAu]; (repeat' split) <;> omega]; exact gP_rf)
                        · have c92 : ¬ (I (ca (5 + t.toInt.toNat)) 0).toInt = 0 := by have hcv := n_eq c92; exact hcv
                          refine wp_iconst C 4 dX11_statusOfAuction_95 (by decide) ?_
                          exact wp_iret C Z dX11_statusOfAuction_96 (by decide) (by decide) (by rw [show stAu a n t F bx p s = 4 from by simp only [stAu]; (repeat' split) <;> omega]; exact gP_rf)
                      · exact absurd (by decide) c78
            · have c41 : ¬ p.toInt ≤ 50 := by have hcv := n_le c41; exact hcv
              refine wp_iconst C 2 dX11_statusOfAuction_44 (by decide) ?_
              exact wp_iret C Z dX11_statusOfAuction_45 (by decide) (by decide) (by rw [show stAu a n t F bx p s = 2 from by simp only [stAu]; (repeat' split) <;> omega]; exact gP_rf)
    · have c9 : ¬ bx.toInt = (-1) := by have hcv := n_eq c9; exact hcv
      refine wp_aload_n C 0 dX11_statusOfAuction_12 rfl rfl ?_
      refine wp_iload_n C 3 dX11_statusOfAuction_13 rfl rfl ?_
      refine wp_cVi C (As := [.int bx]) (rest := []) dX11_statusOfAuction_14 kX11_statusOfAuction_122 (hK.1.ob 0 (by decide) rfl) (c_isEditor _ hK.1 bx) rfl (Nat.le_of_ble_eq_true rfl) (by decide) (by decide) ?_
      refine wp_if_ne C 22 dX11_statusOfAuction_17 (by decide) (fun c17 => ?_) (fun c17 => ?_)
      · have c17 : (0 ≤ bx.toInt ∧ bx.toInt < (I (ca 2) 1).toInt) := Classical.byContradiction (fun z => c17 (bI_f z))
        refine wp_iload_n C 2 dX11_statusOfAuction_22 rfl rfl ?_
        refine wp_if_lt C 44 dX11_statusOfAuction_23 (by decide) (fun c23 => ?_) (fun c23 => ?_)
        · have c23 : F.toInt < 0 := by have hcv := p_lt c23; exact hcv
          refine wp_iconst C 2 dX11_statusOfAuction_44 (by decide) ?_
          exact wp_iret C Z dX11_statusOfAuction_45 (by decide) (by decide) (by rw [show stAu a n t F bx p s = 2 from by simp only [stAu]; (repeat' split) <;> omega]; exact gP_rf)
        · have c23 : ¬ F.toInt < 0 := by have hcv := n_lt c23; exact hcv
          refine wp_iload_n C 2 dX11_statusOfAuction_26 rfl rfl ?_
          refine wp_ldc C 1000000 dX11_statusOfAuction_27 (by decide +kernel) ?_
          refine wp_icmp_gt C 44 dX11_statusOfAuction_29 (by decide) (fun c29 => ?_) (fun c29 => ?_)
          · have c29 : 1000000 < F.toInt := by have hcv := p_lt c29; exact hcv
            refine wp_iconst C 2 dX11_statusOfAuction_44 (by decide) ?_
            exact wp_iret C Z dX11_statusOfAuction_45 (by decide) (by decide) (by rw [show stAu a n t F bx p s = 2 from by simp only [stAu]; (repeat' split) <;> omega]; exact gP_rf)
          · have c29 : ¬ 1000000 < F.toInt := by have hcv := n_lt c29; exact hcv
            refine wp_iload C 4 dX11_statusOfAuction_32 rfl ?_
            refine wp_if_lt C 44 dX11_statusOfAuction_34 (by decide) (fun c34 => ?_) (fun c34 => ?_)
            · have c34 : p.toInt < 0 := by have hcv := p_lt c34; exact hcv
              refine wp_iconst C 2 dX11_statusOfAuction_44 (by decide) ?_
              exact wp_iret C Z dX11_statusOfAuction_45 (by decide) (by decide) (by rw [show stAu a n t F bx p s = 2 from by simp only [stAu]; (repeat' split) <;> omega]; exact gP_rf)
            · have c34 : ¬ p.toInt < 0 := by have hcv := n_lt c34; exact hcv
              refine wp_iload C 4 dX11_statusOfAuction_37 rfl ?_
              refine wp_bipush C 50 dX11_statusOfAuction_39 (by decide) ?_
              refine wp_icmp_le C 46 dX11_statusOfAuction_41 (by decide) (fun c41 => ?_) (fun c41 => ?_)
              · have c41 : p.toInt ≤ 50 := by have hcv := p_le c41; exact hcv
                refine wp_iload C 5 dX11_statusOfAuction_46 rfl ?_
                refine wp_iconst C 1 dX11_statusOfAuction_48 (by decide) ?_
                refine wp_icmp_lt C 81 dX11_statusOfAuction_49 (by decide) (fun c49 => ?_) (fun c49 => ?_)
                · have c49 : s.toInt < 1 := by have hcv := p_lt c49; exact hcv
                  refine wp_iconst C 2 dX11_statusOfAuction_81 (by decide) ?_
                  exact wp_iret C Z dX11_statusOfAuction_82 (by decide) (by decide) (by rw [show stAu a n t F bx p s = 2 from by simp only [stAu]; (repeat' split) <;> omega]; exact gP_rf)
                · have c49 : ¬ s.toInt < 1 := by have hcv := n_lt c49; exact hcv
                  refine wp_iload C 5 dX11_statusOfAuction_52 rfl ?_
                  refine wp_ldc C 100000 dX11_statusOfAuction_54 (by decide +kernel) ?_
                  refine wp_icmp_gt C 81 dX11_statusOfAuction_56 (by decide) (fun c56 => ?_) (fun c56 => ?_)
                  · have c56 : 100000 < s.toInt := by have hcv := p_lt c56; exact hcv
                    refine wp_iconst C 2 dX11_statusOfAuction_81 (by decide) ?_
                    exact wp_iret C Z dX11_statusOfAuction_82 (by decide) (by decide) (by rw [show stAu a n t F bx p s = 2 from by simp only [stAu]; (repeat' split) <;> omega]; exact gP_rf)
                  · have c56 : ¬ 100000 < s.toInt := by have hcv := n_lt c56; exact hcv
                    refine wp_iload_n C 2 dX11_statusOfAuction_59 rfl rfl ?_
                    refine wp_if_ne C 67 dX11_statusOfAuction_60 (by decide) (fun c60 => ?_) (fun c60 => ?_)
                    · have c60 : ¬ F.toInt = 0 := by have hcv := n_eq c60; exact hcv
                      refine wp_iconst C 0 dX11_statusOfAuction_67 (by decide) ?_
                      refine wp_iload_n C 3 dX11_statusOfAuction_68 rfl rfl ?_
                      refine wp_iconst C (-1) dX11_statusOfAuction_69 (by decide) ?_
                      refine wp_icmp_ne C 77 dX11_statusOfAuction_70 (by decide) (fun c70 => ?_) (fun c70 => ?_)
                      · have c70 : ¬ bx.toInt = (-1) := by have hcv := n_eq c70; exact hcv
                        refine wp_iconst C 0 dX11_statusOfAuction_77 (by decide) ?_
                        refine wp_icmp_eq C 83 dX11_statusOfAuction_78 (by decide) (fun c78 => ?_) (fun c78 => ?_)
                        · have ktt := hK.2.2.2.1.ar (t := t.toInt.toNat) (by omega)
                          refine wp_aload_n C 0 dX11_statusOfAuction_83 rfl rfl ?_
                          refine wp_getR C dX11_statusOfAuction_84 fX11_statusOfAuction_11 (hK.1.ob 0 (by decide) rfl) (hK.1.rf 0 0 1 (by decide)) ?_
                          refine wp_iload_n C 1 dX11_statusOfAuction_87 rfl rfl ?_
                          refine wp_aald C RX10 dX11_statusOfAuction_88 (hK.1.ar 1 (by decide) rfl) (by decide) rfl (j := t.toInt.toNat) (nI_nat (by omega)) (by omega) (by decide) (hK.1.tray (by omega)) ?_
                          refine wp_getI C dX11_statusOfAuction_89 fX11_statusOfAuction_78 (hK.1.tob (by omega)) ?_
                          refine wp_if_eq C 97 dX11_statusOfAuction_92 (by decide) (fun c92 => ?_) (fun c92 => ?_)
                          · have c92 : (I (ca (5 + t.toInt.toNat)) 0).toInt = 0 := by have hcv := p_eq c92; exact hcv
                            refine wp_aload_n C 0 dX11_statusOfAuction_97 rfl rfl ?_
                            refine wp_getR C dX11_statusOfAuction_98 fX11_statusOfAuction_11 (hK.1.ob 0 (by decide) rfl) (hK.1.rf 0 0 1 (by decide)) ?_
                            refine wp_iload_n C 1 dX11_statusOfAuction_101 rfl rfl ?_
                            refine wp_aald C RX10 dX11_statusOfAuction_102 (hK.1.ar 1 (by decide) rfl) (by decide) rfl (j := t.toInt.toNat) (nI_nat (by omega)) (by omega) (by decide) (hK.1.tray (by omega)) ?_
                            refine wp_getI C dX11_statusOfAuction_103 fX11_statusOfAuction_286 (hK.1.tob (by omega)) ?_
                            refine wp_aload_n C 0 dX11_statusOfAuction_106 rfl rfl ?_
                            refine wp_getR C dX11_statusOfAuction_107 fX11_statusOfAuction_19 (hK.1.ob 0 (by decide) rfl) (hK.1.rf 0 1 2 (by decide)) ?_
                            refine wp_getI C dX11_statusOfAuction_110 fX11_statusOfAuction_105 (hK.1.ob 2 (by decide) rfl) ?_
                            refine wp_icmp_ge C 118 dX11_statusOfAuction_113 (by decide) (fun c113 => ?_) (fun c113 => ?_)
                            · have c113 : (I (ca 2) 1).toInt ≤ (I (ca (5 + t.toInt.toNat)) 2).toInt := by have hcv := p_le c113; exact hcv
                              refine wp_aload_n C 0 dX11_statusOfAuction_118 rfl rfl ?_
                              refine wp_aload_n C 0 dX11_statusOfAuction_119 rfl rfl ?_
                              refine wp_getR C dX11_statusOfAuction_120 fX11_statusOfAuction_11 (hK.1.ob 0 (by decide) rfl) (hK.1.rf 0 0 1 (by decide)) ?_
                              refine wp_iload_n C 1 dX11_statusOfAuction_123 rfl rfl ?_
                              refine wp_aald C RX10 dX11_statusOfAuction_124 (hK.1.ar 1 (by decide) rfl) (by decide) rfl (j := t.toInt.toNat) (nI_nat (by omega)) (by omega) (by decide) (hK.1.tray (by omega)) ?_
                              refine wp_iload_n C 2 dX11_statusOfAuction_125 rfl rfl ?_
                              refine wp_iload_n C 3 dX11_statusOfAuction_126 rfl rfl ?_
                              refine wp_cVi C (As := [.ref (ca (5 + t.toInt.toNat)), .int F, .int bx]) (rest := []) dX11_statusOfAuction_127 kX11_statusOfAuction_289 (hK.1.ob 0 (by decide) rfl) (c_areLimits _ hK (t := t.toInt.toNat) (by omega) (by omega) (F := F) (by omega) bx) rfl (Nat.le_of_ble_eq_true rfl) (by decide) (by decide) ?_
                              refine wp_if_eq C 137 dX11_statusOfAuction_130 (by decide) (fun c130 => ?_) (fun c130 => ?_)
                              · have c130 : ((lmO a n t.toInt.toNat bx F : Nat) : Int) = 0 := by have hcv := p_eq c130; rw [nI_toInt (show lmO a n t.toInt.toNat bx F < 2 ^ 31 by omega)] at hcv; exact hcv
                                refine wp_iconst C 2 dX11_statusOfAuction_137 (by decide) ?_
                                exact wp_iret C Z dX11_statusOfAuction_138 (by decide) (by decide) (by rw [show stAu a n t F bx p s = 2 from by simp only [stAu]; (repeat' split) <;> omega]; exact gP_rf)
                              · have c130 : ¬ ((lmO a n t.toInt.toNat bx F : Nat) : Int) = 0 := by have hcv := n_eq c130; rw [nI_toInt (show lmO a n t.toInt.toNat bx F < 2 ^ 31 by omega)] at hcv; exact hcv
                                refine wp_iconst C 0 dX11_statusOfAuction_133 (by decide) ?_
                                refine wp_goto C 138 dX11_statusOfAuction_134 (by decide) ?_
                                exact wp_iret C Z dX11_statusOfAuction_138 (by decide) (by decide) (by rw [show stAu a n t F bx p s = 0 from by simp only [stAu]; (repeat' split) <;> omega]; exact gP_rf)
                            · have c113 : ¬ (I (ca 2) 1).toInt ≤ (I (ca (5 + t.toInt.toNat)) 2).toInt := by have hcv := n_le c113; exact hcv
                              refine wp_iconst C 5 dX11_statusOfAuction_116 (by decide) ?_
                              exact wp_iret C Z dX11_statusOfAuction_117 (by decide) (by decide) (by rw [show stAu a n t F bx p s = 5 from by simp only [stAu]; (repeat' split) <;> omega]; exact gP_rf)
                          · have c92 : ¬ (I (ca (5 + t.toInt.toNat)) 0).toInt = 0 := by have hcv := n_eq c92; exact hcv
                            refine wp_iconst C 4 dX11_statusOfAuction_95 (by decide) ?_
                            exact wp_iret C Z dX11_statusOfAuction_96 (by decide) (by decide) (by rw [show stAu a n t F bx p s = 4 from by simp only [stAu]; (repeat' split) <;> omega]; exact gP_rf)
                        · exact absurd (by decide) c78
                      · have c70 : bx.toInt = (-1) := by have hcv := p_eq c70; exact hcv
                        refine wp_iconst C 1 dX11_statusOfAuction_73 (by decide) ?_
                        refine wp_goto C 78 dX11_statusOfAuction_74 (by decide) ?_
                        refine wp_icmp_eq C 83 dX11_statusOfAuction_78 (by decide) (fun c78 => ?_) (fun c78 => ?_)
                        · exact absurd c78 (by decide)
                        · refine wp_iconst C 2 dX11_statusOfAuction_81 (by decide) ?_
                          exact wp_iret C Z dX11_statusOfAuction_82 (by decide) (by decide) (by rw [show stAu a n t F bx p s = 2 from by simp only [stAu]; (repeat' split) <;> omega]; exact gP_rf)
                    · have c60 : F.toInt = 0 := by have hcv := p_eq c60; exact hcv
                      refine wp_iconst C 1 dX11_statusOfAuction_63 (by decide) ?_
                      refine wp_goto C 68 dX11_statusOfAuction_64 (by decide) ?_
                      refine wp_iload_n C 3 dX11_statusOfAuction_68 rfl rfl ?_
                      refine wp_iconst C (-1) dX11_statusOfAuction_69 (by decide) ?_
                      refine wp_icmp_ne C 77 dX11_statusOfAuction_70 (by decide) (fun c70 => ?_) (fun c70 => ?_)
                      · have c70 : ¬ bx.toInt = (-1) := by have hcv := n_eq c70; exact hcv
                        refine wp_iconst C 0 dX11_statusOfAuction_77 (by decide) ?_
                        refine wp_icmp_eq C 83 dX11_statusOfAuction_78 (by decide) (fun c78 => ?_) (fun c78 => ?_)
                        · exact absurd c78 (by decide)
                        · refine wp_iconst C 2 dX11_statusOfAuction_81 (by decide) ?_
                          exact wp_iret C Z dX11_statusOfAuction_82 (by decide) (by decide) (by rw [show stAu a n t F bx p s = 2 from by simp only [stAu]; (repeat' split) <;> omega]; exact gP_rf)
                      · have c70 : bx.toInt = (-1) := by have hcv := p_eq c70; exact hcv
                        refine wp_iconst C 1 dX11_statusOfAuction_73 (by decide) ?_
                        refine wp_goto C 78 dX11_statusOfAuction_74 (by decide) ?_
                        refine wp_icmp_eq C 83 dX11_statusOfAuction_78 (by decide) (fun c78 => ?_) (fun c78 => ?_)
                        · have ktt := hK.2.2.2.1.ar (t := t.toInt.toNat) (by omega)
                          refine wp_aload_n C 0 dX11_statusOfAuction_83 rfl rfl ?_
                          refine wp_getR C dX11_statusOfAuction_84 fX11_statusOfAuction_11 (hK.1.ob 0 (by decide) rfl) (hK.1.rf 0 0 1 (by decide)) ?_
                          refine wp_iload_n C 1 dX11_statusOfAuction_87 rfl rfl ?_
                          refine wp_aald C RX10 dX11_statusOfAuction_88 (hK.1.ar 1 (by decide) rfl) (by decide) rfl (j := t.toInt.toNat) (nI_nat (by omega)) (by omega) (by decide) (hK.1.tray (by omega)) ?_
                          refine wp_getI C dX11_statusOfAuction_89 fX11_statusOfAuction_78 (hK.1.tob (by omega)) ?_
                          refine wp_if_eq C 97 dX11_statusOfAuction_92 (by decide) (fun c92 => ?_) (fun c92 => ?_)
                          · have c92 : (I (ca (5 + t.toInt.toNat)) 0).toInt = 0 := by have hcv := p_eq c92; exact hcv
                            refine wp_aload_n C 0 dX11_statusOfAuction_97 rfl rfl ?_
                            refine wp_getR C dX11_statusOfAuction_98 fX11_statusOfAuction_11 (hK.1.ob 0 (by decide) rfl) (hK.1.rf 0 0 1 (by decide)) ?_
                            refine wp_iload_n C 1 dX11_statusOfAuction_101 rfl rfl ?_
                            refine wp_aald C RX10 dX11_statusOfAuction_102 (hK.1.ar 1 (by decide) rfl) (by decide) rfl (j := t.toInt.toNat) (nI_nat (by omega)) (by omega) (by decide) (hK.1.tray (by omega)) ?_
                            refine wp_getI C dX11_statusOfAuction_103 fX11_statusOfAuction_286 (hK.1.tob (by omega)) ?_
                            refine wp_aload_n C 0 dX11_statusOfAuction_106 rfl rfl ?_
                            refine wp_getR C dX11_statusOfAuction_107 fX11_statusOfAuction_19 (hK.1.ob 0 (by decide) rfl) (hK.1.rf 0 1 2 (by decide)) ?_
                            refine wp_getI C dX11_statusOfAuction_110 fX11_statusOfAuction_105 (hK.1.ob 2 (by decide) rfl) ?_
                            refine wp_icmp_ge C 118 dX11_statusOfAuction_113 (by decide) (fun c113 => ?_) (fun c113 => ?_)
                            · have c113 : (I (ca 2) 1).toInt ≤ (I (ca (5 + t.toInt.toNat)) 2).toInt := by have hcv := p_le c113; exact hcv
                              refine wp_aload_n C 0 dX11_statusOfAuction_118 rfl rfl ?_
                              refine wp_aload_n C 0 dX11_statusOfAuction_119 rfl rfl ?_
                              refine wp_getR C dX11_statusOfAuction_120 fX11_statusOfAuction_11 (hK.1.ob 0 (by decide) rfl) (hK.1.rf 0 0 1 (by decide)) ?_
                              refine wp_iload_n C 1 dX11_statusOfAuction_123 rfl rfl ?_
                              refine wp_aald C RX10 dX11_statusOfAuction_124 (hK.1.ar 1 (by decide) rfl) (by decide) rfl (j := t.toInt.toNat) (nI_nat (by omega)) (by omega) (by decide) (hK.1.tray (by omega)) ?_
                              refine wp_iload_n C 2 dX11_statusOfAuction_125 rfl rfl ?_
                              refine wp_iload_n C 3 dX11_statusOfAuction_126 rfl rfl ?_
                              refine wp_cVi C (As := [.ref (ca (5 + t.toInt.toNat)), .int F, .int bx]) (rest := []) dX11_statusOfAuction_127 kX11_statusOfAuction_289 (hK.1.ob 0 (by decide) rfl) (c_areLimits _ hK (t := t.toInt.toNat) (by omega) (by omega) (F := F) (by omega) bx) rfl (Nat.le_of_ble_eq_true rfl) (by decide) (by decide) ?_
                              refine wp_if_eq C 137 dX11_statusOfAuction_130 (by decide) (fun c130 => ?_) (fun c130 => ?_)
                              · have c130 : ((lmO a n t.toInt.toNat bx F : Nat) : Int) = 0 := by have hcv := p_eq c130; rw [nI_toInt (show lmO a n t.toInt.toNat bx F < 2 ^ 31 by omega)] at hcv; exact hcv
                                refine wp_iconst C 2 dX11_statusOfAuction_137 (by decide) ?_
                                exact wp_iret C Z dX11_statusOfAuction_138 (by decide) (by decide) (by rw [show stAu a n t F bx p s = 2 from by simp only [stAu]; (repeat' split) <;> omega]; exact gP_rf)
                              · have c130 : ¬ ((lmO a n t.toInt.toNat bx F : Nat) : Int) = 0 := by have hcv := n_eq c130; rw [nI_toInt (show lmO a n t.toInt.toNat bx F < 2 ^ 31 by omega)] at hcv; exact hcv
                                refine wp_iconst C 0 dX11_statusOfAuction_133 (by decide) ?_
                                refine wp_goto C 138 dX11_statusOfAuction_134 (by decide) ?_
                                exact wp_iret C Z dX11_statusOfAuction_138 (by decide) (by decide) (by rw [show stAu a n t F bx p s = 0 from by simp only [stAu]; (repeat' split) <;> omega]; exact gP_rf)
                            · have c113 : ¬ (I (ca 2) 1).toInt ≤ (I (ca (5 + t.toInt.toNat)) 2).toInt := by have hcv := n_le c113; exact hcv
                              refine wp_iconst C 5 dX11_statusOfAuction_116 (by decide) ?_
                              exact wp_iret C Z dX11_statusOfAuction_117 (by decide) (by decide) (by rw [show stAu a n t F bx p s = 5 from by simp only [stAu]; (repeat' split) <;> omega]; exact gP_rf)
                          · have c92 : ¬ (I (ca (5 + t.toInt.toNat)) 0).toInt = 0 := by have hcv := n_eq c92; exact hcv
                            refine wp_iconst C 4 dX11_statusOfAuction_95 (by decide) ?_
                            exact wp_iret C Z dX11_statusOfAuction_96 (by decide) (by decide) (by rw [show stAu a n t F bx p s = 4 from by simp only [stAu]; (repeat' split) <;> omega]; exact gP_rf)
                        · exact absurd (by decide) c78
              · have c41 : ¬ p.toInt ≤ 50 := by have hcv := n_le c41; exact hcv
                refine wp_iconst C 2 dX11_statusOfAuction_44 (by decide) ?_
                exact wp_iret C Z dX11_statusOfAuction_45 (by decide) (by decide) (by rw [show stAu a n t F bx p s = 2 from by simp only [stAu]; (repeat' split) <;> omega]; exact gP_rf)
      · have c17 : ¬ (0 ≤ bx.toInt ∧ bx.toInt < (I (ca 2) 1).toInt) := fun z => absurd ((bI_t z).symm.trans c17) (by decide)
        refine wp_iconst C 1 dX11_statusOfAuction_20 (by decide) ?_
        exact wp_iret C Z dX11_statusOfAuction_21 (by decide) (by decide) (by rw [show stAu a n t F bx p s = 1 from by simp only [stAu]; (repeat' split) <;> omega]; exact gP_rf)
set_option maxRecDepth 100000 in
set_option maxHeartbeats 4000000 in
theorem c_auction (l : Launch) {T : gSh} {I : gI} {J : gJ} {R : gR} {ca : Nat → Nat} {a : gI} {n : gJ} (hK : KA T I J R ca a n) (t F bx p s : Int32) : Con l yX11_auction wsX11_auction ({ frames := 3, cells := 2, slots := 18, locals := 68 }) [.ref (ca 0), .int t, .int F, .int bx, .int p, .int s] T I J R (PQ T I J R ca (.int (vAu a n t F bx p s)) (aAu a n t F bx p s) n) := by
  refine Con.mk (cc := cX11_auction) (maxL := 7) (ret := (some .int)) (by decide) rfl (Nat.le_of_ble_eq_true rfl) ?_
  intro E hE C Z hnm
  subst hE
  change WP E 7 0 0 T I J R 0 [(0, .ref (ca 0)), (1, .int t), (2, .int F), (3, .int bx), (4, .int p), (5, .int s)] []
  refine wp_aload_n C 0 dX11_auction_0 rfl rfl ?_
  refine wp_aload_n C 0 dX11_auction_1 rfl rfl ?_
  refine wp_iload_n C 1 dX11_auction_2 rfl rfl ?_
  refine wp_iload_n C 2 dX11_auction_3 rfl rfl ?_
  refine wp_iload_n C 3 dX11_auction_4 rfl rfl ?_
  refine wp_iload C 4 dX11_auction_5 rfl ?_
  refine wp_iload C 5 dX11_auction_7 rfl ?_
  refine wp_cVi C (As := [.int t, .int F, .int bx, .int p, .int s]) (rest := [.ref (ca 0)]) dX11_auction_9 kX11_auction_269 (hK.1.ob 0 (by decide) rfl) (c_statusOfAuction _ hK t F bx p s) rfl (Nat.le_of_ble_eq_true rfl) (by decide) (by decide) ?_
  refine wp_putI C dX11_auction_12 pX11_auction_41 (fun h => nomatch h) (hK.1.ob 0 (by decide) rfl) ?_
  refine wp_aload_n C 0 dX11_auction_15 rfl rfl ?_
  refine wp_getI C dX11_auction_16 fX11_auction_41 (hK.1.ob 0 (by decide) rfl) ?_
  refine wp_eqi (u2_s _ _ _ _) ?_
  refine wp_if_eq C 24 dX11_auction_19 (by decide) (fun c19 => ?_) (fun c19 => ?_)
  · have c19 : stAu a n t F bx p s = 0 := by have hcv := p_eq c19; rw [nI_toInt (show stAu a n t F bx p s < 2 ^ 31 by have := stAu_le a n t F bx p s; omega)] at hcv; have hz0 : ((0 : Int32)).toInt = 0 := rfl; omega
    have hsu := stAu_ok c19
    have kn := hK.2.2.2.2.1.ar
    have hB10 : eN_ a ≤ 10 := by unfold eN_; omega
    have eB : (eN_ a : Int) = (a 0 8).toInt := by unfold eN_; omega
    have haf := au_f (by omega) hsu (by omega)
    refine wp_eI (show _ = u2 I (ca 0) 5 0 by rw [c19]; rfl) ?_
    refine wp_new C dX11_auction_24 nX11_auction_272 (by decide) (by decide) ?_
    intro q hq
    refine wp_gen (fun T1 I1 J1 R1 => OB T1 q 0 ∧ KA T1 I1 J1 R1 ca (u2 a 0 0 0) n ∧ ExL T T1 (u2 I (ca 0) 5 0) I1 J J1 R R1 ca []) ⟨OB.new, (hK.st 0).grow ((ExL.rf (fun i hi => by cases hi)).push hq), (ExL.rf (fun i hi => by cases hi)).push hq⟩ ?_
    intro T1 I1 J1 R1 hp
    have kn1 := hp.2.1.2.2.2.2.1.ar
    refine wp_dup C dX11_auction_27 rfl ?_
    refine wp_aload_n C 0 dX11_auction_28 rfl rfl ?_
    refine wp_getR C dX11_auction_29 fX11_auction_11 (hp.2.1.1.ob 0 (by decide) rfl) (hp.2.1.1.rf 0 0 1 (by decide)) ?_
    refine wp_iload_n C 1 dX11_auction_32 rfl rfl ?_
    refine wp_aald C RX10 dX11_auction_33 (hp.2.1.1.ar 1 (by decide) rfl) (by decide) rfl (j := t.toInt.toNat) (nI_nat (by omega)) (by omega) (by decide) (hp.2.1.1.tray (by omega)) ?_
    refine wp_getR C dX11_auction_34 fX11_auction_72 (hp.2.1.1.tob (by omega)) (hp.2.1.1.tnum (by omega)) ?_
    refine wp_aload_n C 0 dX11_auction_37 rfl rfl ?_
    refine wp_getR C dX11_auction_38 fX11_auction_19 (hp.2.1.1.ob 0 (by decide) rfl) (hp.2.1.1.rf 0 1 2 (by decide)) ?_
    refine wp_getI C dX11_auction_41 fX11_auction_105 (hp.2.1.1.ob 2 (by decide) rfl) ?_
    refine wp_eqi ((i_eq _ _).mpr kn1.2.1.1) ?_
    refine wp_iload_n C 2 dX11_auction_44 rfl rfl ?_
    refine wp_iload_n C 3 dX11_auction_45 rfl rfl ?_
    refine wp_iload C 5 dX11_auction_46 rfl ?_
    have hrow : ∀ e, e < (eN_ a) → (J1 (ca (9 + t.toInt.toNat)) e).toInt32 = nI (lim n t.toInt.toNat e) := fun e he => by
      have hz := lmO_1 hsu.2.2.2 he
      rw [hp.2.1.2.2.2.1.nm (t := t.toInt.toNat) (by omega) hsu.2.2.1.1 (by show (e : Int) < (a 5 t.toInt.toNat).toInt; omega)]
      exact l2i_nat (by omega)
    refine wp_callI C (As := [.ref (ca (9 + t.toInt.toNat)), .int (a 0 8), .int F, .int bx, .int s]) (rest := [.ref q]) dX11_auction_48 kX11_auction_274 (c_Auction _ hp.1 (hp.2.1.1.tar (by omega)) (L := lim n t.toInt.toNat) (S := s.toInt.toNat) (B := eN_ a) (F := F.toInt.toNat) (nI_nat (by omega)) hB10 (nI_nat (by omega)) (by omega) (nI_nat (by omega)) hrow haf.1) rfl (Nat.le_of_ble_eq_true rfl) (by decide) (by decide) ?_
    rintro _ T2 I2 J2 R2 ⟨rfl, ⟨y, hy, hAB⟩, hf4, hG2, hfr⟩
    change WP E 7 _ _ T2 I2 J2 R2 51 [(0, .ref (ca 0)), (1, .int t), (2, .int F), (3, .int bx), (4, .int p), (5, .int s)] [.ref q]
    have hx2 : ExL T T2 (u2 I (ca 0) 5 0) I2 J J2 R R2 ca [] := ⟨hp.2.2.1.tr hG2, (fun i hi => by cases hi), fun x hx hn => by
      have h1 := hp.2.2.2.2 x hx hn
      have h2 := hfr x (hp.2.2.1 x hx).1 (fun z => hq (z ▸ hx))
      exact ⟨h2.1.trans h1.1, h2.2.1.trans h1.2.1, h2.2.2.trans h1.2.2⟩⟩
    refine wp_eI (auI_id hf4.1 hf4.2.1 hf4.2.2.1).symm ?_
    refine wp_astore C [(6, .ref q), (0, .ref (ca 0)), (1, .int t), (2, .int F), (3, .int bx), (4, .int p), (5, .int s)] dX11_auction_51 (by decide) rfl ?_
    refine wp_aload C 0 dX11_auction_53 rfl ?_
    refine wp_cVv C (As := []) (rest := []) dX11_auction_55 kX11_auction_277 hAB.1 (c_playRounds _ hAB (b := F.toInt.toNat) (h := bx) (by omega) haf.2.1) rfl (Nat.le_of_ble_eq_true rfl) (by decide) (by decide) ?_
    change WP E 7 _ _ T2 (auI I2 q (auE a n t F bx s).1 (auE a n t F bx s).2 (auR a n t F bx s)) J2 R2 58 [(6, .ref q), (0, .ref (ca 0)), (1, .int t), (2, .int F), (3, .int bx), (4, .int p), (5, .int s)] []
    refine wp_aload C 0 dX11_auction_58 rfl ?_
    refine wp_iload C 5 dX11_auction_60 rfl ?_
    refine wp_cVv C (As := [.int p]) (rest := []) dX11_auction_62 kX11_auction_280 hAB.1 (c_topWith _ hAB (b := (auE a n t F bx s).1) (h := (auE a n t F bx s).2) (r := (auR a n t F bx s)) (haf.2.2.1 _) (by omega) (P := p.toInt.toNat) (nI_nat (by omega)) (by omega)) rfl (Nat.le_of_ble_eq_true rfl) (by decide) (by decide) ?_
    obtain ⟨H, eH⟩ : ∃ H, H = auV a n t F bx p s := ⟨_, rfl⟩
    obtain ⟨I3, eI3⟩ : ∃ I3, I3 = (if auP a n t F bx p s = 1 then u2 (auI I2 q (tpN (auE a n t F bx s).1 p.toInt.toNat) bx (auR a n t F bx s)) q 7 1 else auI I2 q (auE a n t F bx s).1 (auE a n t F bx s).2 (auR a n t F bx s)) := ⟨_, rfl⟩
    refine wp_eI (show _ = I3 from eI3.symm) ?_
    have h3 : (I3 q 4 = nI (auQ a n t F bx p s) ∧ I3 q 5 = H ∧ I3 q 6 = nI (auR a n t F bx s) ∧ I3 q 7 = nI (auP a n t F bx p s)) ∧ ∀ x, x ≠ q → I3 x = I2 x := by
      rw [eI3, eH]
      unfold auQ auV
      by_cases z : auP a n t F bx p s = 1
      · rw [if_pos z, if_pos z, if_pos z, z]
        refine ⟨⟨by rw [u2_k _ _ _ _ (by decide), auI_4], by rw [u2_k _ _ _ _ (by decide), auI_5], by rw [u2_k _ _ _ _ (by decide), auI_6], by rw [u2_s]; rfl⟩, fun x hx => by rw [u2_rown _ _ _ _ hx, auI_n hx]⟩
      · rw [if_neg z, if_neg z, if_neg z, show auP a n t F bx p s = 0 from le1_0 (isT_le _ _ _ _ _) z]
        exact ⟨⟨auI_4, auI_5, auI_6, by rw [auI_o (by decide) (by decide) (by decide), hf4.2.2.2]; rfl⟩, fun x hx => auI_n hx⟩
    have hx3 : ExL T T2 (u2 I (ca 0) 5 0) I3 J J2 R R2 ca [] := ⟨hx2.1, hx2.2.1, fun x hx hn => by rw [h3.2 x (fun z => hq (z ▸ hx))]; exact hx2.2.2 x hx hn⟩
    have hk3 := (hK.st 0).grow hx3
    refine wp_aload C 0 dX11_auction_65 rfl ?_
    refine wp_getI C dX11_auction_67 fX11_auction_283 hAB.1 ?_
    refine wp_eqi (h3.1.2.1) ?_
    refine wp_iconst C (-1) dX11_auction_70 (by decide) ?_
    refine wp_icmp_ne C 82 dX11_auction_71 (by decide) (fun c71 => ?_) (fun c71 => ?_)
    · have c71 : ¬ H.toInt = (-1) := by have hcv := n_eq c71; exact hcv
      refine wp_aload_n C 1 dX11_auction_82 rfl rfl ?_
      refine wp_aload C 0 dX11_auction_83 rfl ?_
      refine wp_putR C dX11_auction_85 pX11_auction_37 (fun h => nomatch h) (hk3.1.ob 0 (by decide) rfl) rfl rfl ?_
      refine wp_aload C 0 dX11_auction_88 rfl ?_
      refine wp_getI C dX11_auction_90 fX11_auction_283 hAB.1 ?_
      refine wp_eqi (h3.1.2.1) ?_
      have hE2 := haf.2.2.2.1 (auN (lim n t.toInt.toNat) bx s.toInt.toNat (eN_ a) (F.toInt.toNat, bx))
      have hE0 := haf.2.2.2.2 (auN (lim n t.toInt.toNat) bx s.toInt.toNat (eN_ a) (F.toInt.toNat, bx))
      change -1 ≤ (auE a n t F bx s).2.toInt ∧ (auE a n t F bx s).2.toInt < _ at hE2
      change 0 ≤ bx.toInt → 0 ≤ (auE a n t F bx s).2.toInt at hE0
      have hP1 : auP a n t F bx p s = 1 → 0 ≤ bx.toInt := fun z => by exact isT_1 z
      have hH : (auP a n t F bx p s = 1 ∧ H.toInt = bx.toInt) ∨ (auP a n t F bx p s = 0 ∧ H.toInt = (auE a n t F bx s).2.toInt) := by rw [eH]; unfold auV; split; exact Or.inl ⟨by assumption, rfl⟩; exact Or.inr ⟨le1_0 (isT_le _ _ _ _ _) (by assumption), rfl⟩
      have hlt : ¬ (auE a n t F bx s).2.toInt < 0 := auH_b hP1 hE2.1 hE0 hH c71
      have hk4 : KA T2 I3 J2 (u2 R2 (ca 0) 4 (some q)) ca (aAv a (auP a n t F bx p s) (auR a n t F bx s) (auQ a n t F bx p s)) n := by
        refine hk3.on0 ((ExL.rf (by decide)).pR (i := 0) (by decide) 4 _) hk3.2.1 hk3.2.2.1 (fun i hi => u2_k _ _ _ _ hi _) (Or.inr ⟨rfl, q, u2_s _ _ _ _, hAB.1, h3.1.1, h3.1.2.2.1, h3.1.2.2.2, ?_⟩) (fun i h0 h49 => ?_) (fun r hr => ?_) rfl
        · show nI (auP a n t F bx p s) = 0 ∨ nI (auP a n t F bx p s) = 1
          rcases le1_01 (isT_le (lim n t.toInt.toNat) bx (auE a n t F bx s).1 (auE a n t F bx s).2 p.toInt.toNat) with z | z <;> (change auP a n t F bx p s = _ at z; rw [z])
          · exact Or.inl rfl
          · exact Or.inr rfl
        · unfold aAv; rw [u2_k _ _ _ _ (by omega), u2_k _ _ _ _ (by omega), u2_k _ _ _ _ (by omega), u2_k _ _ _ _ (by omega)]
        · unfold aAv; rw [u2_rown _ _ _ _ hr, u2_rown _ _ _ _ hr, u2_rown _ _ _ _ hr, u2_rown _ _ _ _ hr]
      exact wp_iret C Z dX11_auction_93 (by decide) (by decide) ⟨by unfold vAu; rw [if_pos c19, if_neg hlt, eH], (((FrC.rf T I J R ca).pI (i := 0) (by decide) 5 0).tr hx3.frc).pR (i := 0) (by decide) 4 _, by unfold aAu; rw [if_pos c19, if_neg hlt]; exact hk4⟩
    · have c71 : H.toInt = (-1) := by have hcv := p_eq c71; exact hcv
      refine wp_aload_n C 1 dX11_auction_74 rfl rfl ?_
      refine wp_bipush C 9 dX11_auction_75 (by decide) ?_
      refine wp_putI C dX11_auction_77 pX11_auction_41 (fun h => nomatch h) (hk3.1.ob 0 (by decide) rfl) ?_
      refine wp_iconst C (-1) dX11_auction_80 (by decide) ?_
      have hE2 := haf.2.2.2.1 (auN (lim n t.toInt.toNat) bx s.toInt.toNat (eN_ a) (F.toInt.toNat, bx))
      have hE0 := haf.2.2.2.2 (auN (lim n t.toInt.toNat) bx s.toInt.toNat (eN_ a) (F.toInt.toNat, bx))
      change -1 ≤ (auE a n t F bx s).2.toInt ∧ (auE a n t F bx s).2.toInt < _ at hE2
      change 0 ≤ bx.toInt → 0 ≤ (auE a n t F bx s).2.toInt at hE0
      have hP1 : auP a n t F bx p s = 1 → 0 ≤ bx.toInt := fun z => by exact isT_1 z
      have hH : (auP a n t F bx p s = 1 ∧ H.toInt = bx.toInt) ∨ (auP a n t F bx p s = 0 ∧ H.toInt = (auE a n t F bx s).2.toInt) := by rw [eH]; unfold auV; split; exact Or.inl ⟨by assumption, rfl⟩; exact Or.inr ⟨le1_0 (isT_le _ _ _ _ _) (by assumption), rfl⟩
      have hlt : (auE a n t F bx s).2.toInt < 0 := auH_a hP1 hE2.1 hE0 hH c71
      exact wp_iret C Z dX11_auction_81 (by decide) (by decide) ⟨by unfold vAu; rw [if_pos c19, if_pos hlt], (((FrC.rf T I J R ca).pI (i := 0) (by decide) 5 0).tr hx3.frc).pI (i := 0) (by decide) 5 9, by unfold aAu; rw [if_pos c19, if_pos hlt, ← u2_u2 a 0 0 0 9]; exact hk3.st 9⟩
  · have c19 : ¬ stAu a n t F bx p s = 0 := fun z => c19 (by rw [z]; rfl)
    refine wp_iconst C (-1) dX11_auction_22 (by decide) ?_
    exact wp_iret C Z dX11_auction_23 (by decide) (by decide) ⟨by unfold vAu; rw [if_neg c19], (FrC.rf T I J R ca).pI (by decide) 5 _, by unfold aAu; rw [if_neg c19]; exact hK.st _⟩
def stSo (a : gI) (w : Int32) : Nat := if 0 ≤ w.toInt ∧ w.toInt ≤ 2 then (if (a 0 49).toInt = 0 then 9 else 0) else 2
def vSo (a : gI) (w : Int32) : Int32 := if stSo a w = 0 then (if w.toInt = 0 then a 0 51 else if w.toInt = 1 then a 0 52 else if (a 0 50).toInt = 0 then 0 else 1) else -1
set_option maxRecDepth 100000 in
set_option maxHeartbeats 4000000 in
theorem c_sold (l : Launch) {T : gSh} {I : gI} {J : gJ} {R : gR} {ca : Nat → Nat} {a : gI} {n : gJ} (hK : KA T I J R ca a n) (w : Int32) : Con l yX11_sold wsX11_sold ({ frames := 0, cells := 0, slots := 0, locals := 0 }) [.ref (ca 0), .int w] T I J R (PQ T I J R ca (.int (vSo a w)) (u2 a 0 0 (nI (stSo a w))) n) := by
  refine Con.mk (cc := cX11_sold) (maxL := 2) (ret := (some .int)) (by decide) rfl (Nat.le_of_ble_eq_true rfl) ?_
  intro E hE C Z hnm
  subst hE
  change WP E 2 0 0 T I J R 0 [(0, .ref (ca 0)), (1, .int w)] []
  rcases hK.2.2.2.2.2.2.2.2.2 with ⟨hn1, hn2⟩ | ⟨hy1, u, hu1, hu2, hu3⟩
  · have z49 : (a 0 49).toInt = 0 := by rw [hn2]; rfl
    refine wp_iload_n C 1 dX11_sold_0 rfl rfl ?_
    refine wp_if_lt C 9 dX11_sold_1 (by decide) (fun c1 => ?_) (fun c1 => ?_)
    · have c1 : w.toInt < 0 := by have hcv := p_lt c1; exact hcv
      refine wp_aload_n C 0 dX11_sold_9 rfl rfl ?_
      refine wp_iconst C 2 dX11_sold_10 (by decide) ?_
      refine wp_putI C dX11_sold_11 pX11_sold_41 (fun h => nomatch h) (hK.1.ob 0 (by decide) rfl) ?_
      refine wp_iconst C (-1) dX11_sold_14 (by decide) ?_
      have hst : stSo a w = 2 := by simp only [stSo]; (repeat' split) <;> omega
      exact wp_iret C Z dX11_sold_15 (by decide) (by decide) ⟨by unfold vSo; rw [hst]; rfl, (FrC.rf T I J R ca).pI (by decide) 5 _, by rw [hst]; exact hK.st _⟩
    · have c1 : ¬ w.toInt < 0 := by have hcv := n_lt c1; exact hcv
      refine wp_iload_n C 1 dX11_sold_4 rfl rfl ?_
      refine wp_iconst C 2 dX11_sold_5 (by decide) ?_
      refine wp_icmp_le C 16 dX11_sold_6 (by decide) (fun c6 => ?_) (fun c6 => ?_)
      · have c6 : w.toInt ≤ 2 := by have hcv := p_le c6; exact hcv
        refine wp_aload_n C 0 dX11_sold_16 rfl rfl ?_
        refine wp_getN C dX11_sold_17 fX11_sold_37 (hK.1.ob 0 (by decide) rfl) hn1 ?_
        refine wp_nnN C dX11_sold_20 ?_
        refine wp_aload_n C 0 dX11_sold_23 rfl rfl ?_
        refine wp_bipush C 9 dX11_sold_24 (by decide) ?_
        refine wp_putI C dX11_sold_26 pX11_sold_41 (fun h => nomatch h) (hK.1.ob 0 (by decide) rfl) ?_
        refine wp_iconst C (-1) dX11_sold_29 (by decide) ?_
        have hst : stSo a w = 9 := by simp only [stSo]; (repeat' split) <;> omega
        exact wp_iret C Z dX11_sold_30 (by decide) (by decide) ⟨by unfold vSo; rw [hst]; rfl, (FrC.rf T I J R ca).pI (by decide) 5 _, by rw [hst]; exact hK.st _⟩
      · have c6 : ¬ w.toInt ≤ 2 := by have hcv := n_le c6; exact hcv
        refine wp_aload_n C 0 dX11_sold_9 rfl rfl ?_
        refine wp_iconst C 2 dX11_sold_10 (by decide) ?_
        refine wp_putI C dX11_sold_11 pX11_sold_41 (fun h => nomatch h) (hK.1.ob 0 (by decide) rfl) ?_
        refine wp_iconst C (-1) dX11_sold_14 (by decide) ?_
        have hst : stSo a w = 2 := by simp only [stSo]; (repeat' split) <;> omega
        exact wp_iret C Z dX11_sold_15 (by decide) (by decide) ⟨by unfold vSo; rw [hst]; rfl, (FrC.rf T I J R ca).pI (by decide) 5 _, by rw [hst]; exact hK.st _⟩
  · have z49 : (a 0 49).toInt = 1 := by rw [hy1]; rfl
    refine wp_iload_n C 1 dX11_sold_0 rfl rfl ?_
    refine wp_if_lt C 9 dX11_sold_1 (by decide) (fun c1 => ?_) (fun c1 => ?_)
    · have c1 : w.toInt < 0 := by have hcv := p_lt c1; exact hcv
      refine wp_aload_n C 0 dX11_sold_9 rfl rfl ?_
      refine wp_iconst C 2 dX11_sold_10 (by decide) ?_
      refine wp_putI C dX11_sold_11 pX11_sold_41 (fun h => nomatch h) (hK.1.ob 0 (by decide) rfl) ?_
      refine wp_iconst C (-1) dX11_sold_14 (by decide) ?_
      have hst : stSo a w = 2 := by simp only [stSo]; (repeat' split) <;> omega
      exact wp_iret C Z dX11_sold_15 (by decide) (by decide) ⟨by unfold vSo; rw [hst]; rfl, (FrC.rf T I J R ca).pI (by decide) 5 _, by rw [hst]; exact hK.st _⟩
    · have c1 : ¬ w.toInt < 0 := by have hcv := n_lt c1; exact hcv
      refine wp_iload_n C 1 dX11_sold_4 rfl rfl ?_
      refine wp_iconst C 2 dX11_sold_5 (by decide) ?_
      refine wp_icmp_le C 16 dX11_sold_6 (by decide) (fun c6 => ?_) (fun c6 => ?_)
      · have c6 : w.toInt ≤ 2 := by have hcv := p_le c6; exact hcv
        refine wp_aload_n C 0 dX11_sold_16 rfl rfl ?_
        refine wp_getR C dX11_sold_17 fX11_sold_37 (hK.1.ob 0 (by decide) rfl) hu1 ?_
        refine wp_nn C 31 dX11_sold_20 (by decide) ?_
        refine wp_aload_n C 0 dX11_sold_31 rfl rfl ?_
        refine wp_iconst C 0 dX11_sold_32 (by decide) ?_
        refine wp_putI C dX11_sold_33 pX11_sold_41 (fun h => nomatch h) (hK.1.ob 0 (by decide) rfl) ?_
        refine wp_iload_n C 1 dX11_sold_36 rfl rfl ?_
        refine wp_if_ne C 48 dX11_sold_37 (by decide) (fun c37 => ?_) (fun c37 => ?_)
        · have c37 : ¬ w.toInt = 0 := by have hcv := n_eq c37; exact hcv
          refine wp_iload_n C 1 dX11_sold_48 rfl rfl ?_
          refine wp_iconst C 1 dX11_sold_49 (by decide) ?_
          refine wp_icmp_ne C 61 dX11_sold_50 (by decide) (fun c50 => ?_) (fun c50 => ?_)
          · have c50 : ¬ w.toInt = 1 := by have hcv := n_eq c50; exact hcv
            refine wp_aload_n C 0 dX11_sold_61 rfl rfl ?_
            refine wp_getR C dX11_sold_62 fX11_sold_37 (hK.1.ob 0 (by decide) rfl) hu1 ?_
            refine wp_getI C dX11_sold_65 fX11_sold_301 hu2 ?_
            refine wp_eqi (((congrFun (u2_rown _ _ _ _ (hK.1.nd hu2 (i := 0) (by unfold dyn; omega) (by omega))) _)).trans hu3.2.2.1) ?_
            refine wp_if_eq C 75 dX11_sold_68 (by decide) (fun c68 => ?_) (fun c68 => ?_)
            · have c68 : (a 0 50).toInt = 0 := by have hcv := p_eq c68; exact hcv
              refine wp_iconst C 0 dX11_sold_75 (by decide) ?_
              have hst : stSo a w = 0 := by simp only [stSo]; (repeat' split) <;> omega
              have hv : vSo a w = 0 := by simp only [vSo]; rw [if_pos hst]; (repeat' split) <;> first | rfl | (exfalso; omega)
              exact wp_iret C Z dX11_sold_76 (by decide) (by decide) ⟨by rw [hv], (FrC.rf T I J R ca).pI (by decide) 5 _, by rw [hst]; exact hK.st _⟩
            · have c68 : ¬ (a 0 50).toInt = 0 := by have hcv := n_eq c68; exact hcv
              refine wp_iconst C 1 dX11_sold_71 (by decide) ?_
              refine wp_goto C 76 dX11_sold_72 (by decide) ?_
              have hst : stSo a w = 0 := by simp only [stSo]; (repeat' split) <;> omega
              have hv : vSo a w = 1 := by simp only [vSo]; rw [if_pos hst]; (repeat' split) <;> first | rfl | (exfalso; omega)
              exact wp_iret C Z dX11_sold_76 (by decide) (by decide) ⟨by rw [hv], (FrC.rf T I J R ca).pI (by decide) 5 _, by rw [hst]; exact hK.st _⟩
          · have c50 : w.toInt = 1 := by have hcv := p_eq c50; exact hcv
            refine wp_aload_n C 0 dX11_sold_53 rfl rfl ?_
            refine wp_getR C dX11_sold_54 fX11_sold_37 (hK.1.ob 0 (by decide) rfl) hu1 ?_
            refine wp_getI C dX11_sold_57 fX11_sold_298 hu2 ?_
            refine wp_eqi (((congrFun (u2_rown _ _ _ _ (hK.1.nd hu2 (i := 0) (by unfold dyn; omega) (by omega))) _)).trans hu3.2.1) ?_
            have hst : stSo a w = 0 := by simp only [stSo]; (repeat' split) <;> omega
            have hv : vSo a w = a 0 52 := by simp only [vSo]; rw [if_pos hst]; (repeat' split) <;> first | rfl | (exfalso; omega)
            exact wp_iret C Z dX11_sold_60 (by decide) (by decide) ⟨by rw [hv], (FrC.rf T I J R ca).pI (by decide) 5 _, by rw [hst]; exact hK.st _⟩
        · have c37 : w.toInt = 0 := by have hcv := p_eq c37; exact hcv
          refine wp_aload_n C 0 dX11_sold_40 rfl rfl ?_
          refine wp_getR C dX11_sold_41 fX11_sold_37 (hK.1.ob 0 (by decide) rfl) hu1 ?_
          refine wp_getI C dX11_sold_44 fX11_sold_295 hu2 ?_
          refine wp_eqi (((congrFun (u2_rown _ _ _ _ (hK.1.nd hu2 (i := 0) (by unfold dyn; omega) (by omega))) _)).trans hu3.1) ?_
          have hst : stSo a w = 0 := by simp only [stSo]; (repeat' split) <;> omega
          have hv : vSo a w = a 0 51 := by simp only [vSo]; rw [if_pos hst]; (repeat' split) <;> first | rfl | (exfalso; omega)
          exact wp_iret C Z dX11_sold_47 (by decide) (by decide) ⟨by rw [hv], (FrC.rf T I J R ca).pI (by decide) 5 _, by rw [hst]; exact hK.st _⟩
      · have c6 : ¬ w.toInt ≤ 2 := by have hcv := n_le c6; exact hcv
        refine wp_aload_n C 0 dX11_sold_9 rfl rfl ?_
        refine wp_iconst C 2 dX11_sold_10 (by decide) ?_
        refine wp_putI C dX11_sold_11 pX11_sold_41 (fun h => nomatch h) (hK.1.ob 0 (by decide) rfl) ?_
        refine wp_iconst C (-1) dX11_sold_14 (by decide) ?_
        have hst : stSo a w = 2 := by simp only [stSo]; (repeat' split) <;> omega
        exact wp_iret C Z dX11_sold_15 (by decide) (by decide) ⟨by unfold vSo; rw [hst]; rfl, (FrC.rf T I J R ca).pI (by decide) 5 _, by rw [hst]; exact hK.st _⟩
