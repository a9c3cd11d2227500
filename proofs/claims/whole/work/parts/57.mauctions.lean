/-! ===== auction, sold of the reference ===== -/
theorem ix41 {t e : Int32} {i : Nat} (h1 : 0 ≤ t.toInt ∧ t.toInt < 4) (he : e = nI i) (hi : i < 40) : 40 * t + e = nI (40 * t.toInt.toNat + i) := by
  have h := ix40 (t := t) (k := e) h1 (by rw [he, nI_toInt (by omega)]; omega)
  rw [h, he, nI_toInt (by omega)]
  rfl
/-- the end of an auction -/
def auIs (a : gI) (n : gJ) (t F bx s : Int32) (c : Nat) (g : Int32) (r : Nat) : Prop := auE a n t F bx s = (c, g) ∧ auR a n t F bx s = r
theorem auIs.v {a : gI} {n : gJ} {t F bx s : Int32} {c : Nat} {g : Int32} {r : Nat} (h : auIs a n t F bx s c g r) (p : Int32) : auP a n t F bx p s = isT (lim n t.toInt.toNat) bx c g p.toInt.toNat ∧ auQ a n t F bx p s = (if isT (lim n t.toInt.toNat) bx c g p.toInt.toNat = 1 then tpN c p.toInt.toNat else c) ∧ auV a n t F bx p s = (if isT (lim n t.toInt.toNat) bx c g p.toInt.toNat = 1 then bx else g) ∧ (auE a n t F bx s).2 = g := by
  unfold auV auQ auP
  rw [h.1]
  exact ⟨rfl, rfl, rfl, rfl⟩
theorem auIs.mk {a : gI} {n : gJ} {t F bx s : Int32} {r c : Nat} {g : Int32} (hk : r < 1000001) (h0 : rdI (lim n t.toInt.toNat) bx s.toInt.toNat (eN_ a) (F.toInt.toNat, bx) r = (c, g)) (h1 : rdI (lim n t.toInt.toNat) bx s.toInt.toNat (eN_ a) (F.toInt.toNat, bx) (r + 1) = rdI (lim n t.toInt.toNat) bx s.toInt.toNat (eN_ a) (F.toInt.toNat, bx) r) (h2 : ∀ j, j < r → rdI (lim n t.toInt.toNat) bx s.toInt.toNat (eN_ a) (F.toInt.toNat, bx) (j + 1) ≠ rdI (lim n t.toInt.toNat) bx s.toInt.toNat (eN_ a) (F.toInt.toNat, bx) j) : auIs a n t F bx s c g (r + 1) := by
  have hN := auN_eq hk h1 h2
  unfold auIs auE auR auT
  rw [hN]
  exact ⟨h0, rfl⟩
theorem tp64 {c P : Nat} (hc : c ≤ 1000000) (hP : P ≤ 50) {p : Int32} (hp : p = nI P) : ((nI c).toInt64 + ((nI c).toInt64 * p.toInt64 + 99) / 100) = lN (tpN c P) := by
  have hb : c * P ≤ 50000000 := Nat.le_trans (Nat.mul_le_mul hc hP) (by decide)
  rw [hp, nI_l (by omega), nI_l (by omega), lN_mul]
  rw [show lN (c * P) + 99 = lN (c * P + 99) from lN_add (c * P) 99]
  rw [show lN (c * P + 99) / 100 = lN ((c * P + 99) / 100) from pk_lDiv (by omega) (by decide) (by decide)]
  rw [lN_add]
  rfl
theorem tp_le {c P : Nat} (hc : c ≤ 1000000) (hP : P ≤ 50) : tpN c P ≤ 2000000 := by
  have hb : c * P ≤ 50000000 := Nat.le_trans (Nat.mul_le_mul hc hP) (by decide)
  unfold tpN
  omega
set_option maxRecDepth 100000 in
set_option maxHeartbeats 4000000 in
theorem m_limit (l : Launch) {T : gSh} {I : gI} {J : gJ} {R : gR} {m : Nat} {ad : Nat → Nat} (hM : MO T R m ad) {a : gI} {n : gJ} (hA : MA I J m ad a n) (t : Int32) (ht : 0 ≤ t.toInt ∧ t.toInt < 4) {e : Int32} {i : Nat} (he : e = nI i) (hi : i < 40) : Con l yX12_limit wsX12_limit ({ frames := 0, cells := 0, slots := 0, locals := 0 }) [.ref m, .int t, .int e] T I J R (gP (some (.long (n 6 (40 * t.toInt.toNat + i)))) T I J R) := by
  refine Con.mk (cc := cX12_limit) (maxL := 3) (ret := (some .long)) (by decide) rfl (Nat.le_of_ble_eq_true rfl) ?_
  intro E hE C Z hnm
  subst hE
  change WP E 3 0 0 T I J R 0 [(0, .ref m), (1, .int t), (2, .int e)] []
  refine wp_aload_n C 0 dX12_limit_0 rfl rfl ?_
  refine wp_getR C dX12_limit_1 fX12_limit_20 hM.ob (hM.rf 6 rfl) ?_
  refine wp_bipush C 40 dX12_limit_4 (by decide) ?_
  refine wp_iload_n C 1 dX12_limit_6 rfl rfl ?_
  refine wp_imul C dX12_limit_7 ?_
  refine wp_iload_n C 2 dX12_limit_8 rfl rfl ?_
  refine wp_iadd C dX12_limit_9 ?_
  refine wp_lald C dX12_limit_10 (hM.ar 6 rfl rfl) (j := 40 * t.toInt.toNat + i) (ix41 ht he hi) (by omega) (by decide) ?_
  refine wp_eql (congrFun hA.2.2.2 _) ?_
  exact wp_lret C Z dX12_limit_11 (by decide) (by decide) gP_rf
set_option maxRecDepth 100000 in
set_option maxHeartbeats 4000000 in
theorem m_auction (l : Launch) {T : gSh} {I : gI} {J : gJ} {R : gR} {m : Nat} {ad : Nat → Nat} (hM : MO T R m ad) {a : gI} {n : gJ} (hA : MA I J m ad a n) (hN : okN a) (t F bx p s : Int32) : Con l yX12_auction wsX12_auction ({ frames := 1, cells := 0, slots := 0, locals := 22 }) [.ref m, .int t, .int F, .int bx, .int p, .int s] T I J R (PZ T I J R m ad (.int (vAu a n t F bx p s)) (aAu a n t F bx p s) n) := by
  refine Con.mk (cc := cX12_auction) (maxL := 12) (ret := (some .int)) (by decide) rfl (Nat.le_of_ble_eq_true rfl) ?_
  intro E hE C Z hnm
  subst hE
  change WP E 12 0 0 T I J R 0 [(0, .ref m), (1, .int t), (2, .int F), (3, .int bx), (4, .int p), (5, .int s)] []
  have hX1 := ((MX.i hA).t hM 0).f hM 0 0
  unfold okN at hN
  have hN8 := hN.2.1
  have hlo := lmO_le a n t.toInt.toNat bx F
  have e8 : a 0 8 = nI (eN_ a) := nI_nat (by omega)
  have hB10 : eN_ a ≤ 10 := by unfold eN_; omega
  have eB : (eN_ a : Int) = (a 0 8).toInt := by unfold eN_; omega
  have fin : stAu a n t F bx p s = 0 → ∀ I3 c g r, MX I I3 J J m ad (u2 a 0 0 0) n → auIs a n t F bx s c g r → c ≤ 1000000 → ∀ lv, lv_pick lv [0, 1, 2, 3, 4, 5, 6, 7, 8] = [(0, .ref m), (1, .int t), (2, .int F), (3, .int bx), (4, .int p), (5, .int s), (6, .int (nI c)), (7, .int g), (8, .int (nI r))] → WP E 12 0 0 T I3 J R 347 lv [] := by
    intro hs0 I3 c g r hX his hcM lv hlv
    refine wp_lv [0, 1, 2, 3, 4, 5, 6, 7, 8] hlv ?_
    have hv := his.v p
    have hsu := stAu_ok hs0
    have htp0 := tp_le (P := p.toInt.toNat) hcM (by omega)
    have hLx : 0 ≤ bx.toInt → (lim n t.toInt.toNat bx.toInt.toNat : Int) = (n 6 (40 * t.toInt.toNat + bx.toInt.toNat)).toInt := fun z => by have := lmO_1 hsu.2.2.2 (e := bx.toInt.toNat) (by omega); unfold lim; omega
    refine wp_iload C 7 dX12_auction_347 rfl ?_
    refine wp_if_ge C 359 dX12_auction_349 (by decide) (fun c349 => ?_) (fun c349 => ?_)
    · have c349 : 0 ≤ g.toInt := by have hcv := p_le c349; exact hcv
      refine wp_iload C 6 dX12_auction_359 rfl ?_
      refine wp_i2l C dX12_auction_361 ?_
      refine wp_iload C 6 dX12_auction_362 rfl ?_
      refine wp_i2l C dX12_auction_364 ?_
      refine wp_iload C 4 dX12_auction_365 rfl ?_
      refine wp_i2l C dX12_auction_367 ?_
      refine wp_lmul C dX12_auction_368 ?_
      refine wp_ldc2 C 99 dX12_auction_369 (by decide +kernel) ?_
      refine wp_ladd C dX12_auction_372 ?_
      refine wp_ldc2 C 100 dX12_auction_373 (by decide +kernel) ?_
      refine wp_ldiv C dX12_auction_376 (by decide) ?_
      refine wp_ladd C dX12_auction_377 ?_
      refine wp_topl (fun tp etp => ?_)
      rw [tp64 hcM (P := p.toInt.toNat) (by omega) (nI_nat (by omega))] at etp
      have htp : tp.toInt = ((tpN c p.toInt.toNat : Nat) : Int) := by rw [etp]; exact lN_toInt (by omega)
      have htp2 : tp.toInt32 = nI (tpN c p.toInt.toNat) := by rw [etp]; exact lN_i _
      refine wp_lstore C [(10, .long tp), (0, .ref m), (1, .int t), (2, .int F), (3, .int bx), (4, .int p), (5, .int s), (6, .int (nI c)), (7, .int g), (8, .int (nI r))] dX12_auction_378 (by decide) rfl ?_
      refine wp_aload_n C 1 dX12_auction_380 rfl rfl ?_
      refine wp_iload_n C 4 dX12_auction_381 rfl rfl ?_
      refine wp_if_lt C 407 dX12_auction_382 (by decide) (fun c382 => ?_) (fun c382 => ?_)
      · have c382 : bx.toInt < 0 := by have hcv := p_lt c382; exact hcv
        refine wp_iconst C 0 dX12_auction_407 (by decide) ?_
        refine wp_putZ C dX12_auction_408 pX12_auction_272 (fun h => nomatch h) hM.ob (by decide) ?_
        refine wp_aload_n C 1 dX12_auction_411 rfl rfl ?_
        refine wp_iconst C 1 dX12_auction_412 (by decide) ?_
        refine wp_putZ C dX12_auction_413 pX12_auction_276 (fun h => nomatch h) hM.ob (by decide) ?_
        refine wp_aload_n C 1 dX12_auction_416 rfl rfl ?_
        refine wp_iload C 9 dX12_auction_417 rfl ?_
        refine wp_putI C dX12_auction_419 pX12_auction_279 (fun h => nomatch h) hM.ob ?_
        refine wp_aload_n C 1 dX12_auction_422 rfl rfl ?_
        refine wp_aload_n C 1 dX12_auction_423 rfl rfl ?_
        refine wp_getI C dX12_auction_424 fX12_auction_272 hM.ob ?_
        refine wp_eqi ((u2_k _ _ _ _ (by decide) _).trans ((u2_k _ _ _ _ (by decide) _).trans (u2_s _ _ _ _))) ?_
        refine wp_if_eq C 436 dX12_auction_427 (by decide) (fun c427 => ?_) (fun c427 => ?_)
        · refine wp_iload C 7 dX12_auction_436 rfl ?_
          refine wp_putI C dX12_auction_438 pX12_auction_282 (fun h => nomatch h) hM.ob ?_
          refine wp_aload_n C 1 dX12_auction_441 rfl rfl ?_
          refine wp_getI C dX12_auction_442 fX12_auction_272 hM.ob ?_
          refine wp_eqi ((u2_k _ _ _ _ (by decide) _).trans ((u2_k _ _ _ _ (by decide) _).trans ((u2_k _ _ _ _ (by decide) _).trans (u2_s _ _ _ _)))) ?_
          refine wp_if_eq C 452 dX12_auction_445 (by decide) (fun c445 => ?_) (fun c445 => ?_)
          · refine wp_iload C 8 dX12_auction_452 rfl ?_
            have hlt : ¬ g.toInt < 0 := by omega
            have hT : isT (lim n t.toInt.toNat) bx c g p.toInt.toNat = 0 := by unfold isT; rw [if_neg (by omega)]
            have hR := his.2
            exact wp_iret C Z dX12_auction_454 (by decide) (by decide) ⟨by unfold vAu; rw [if_pos hs0, hv.2.2.2, if_neg hlt, hv.2.2.1, hT, if_neg (by decide)], rfl, rfl, by unfold aAu; rw [if_pos hs0, hv.2.2.2, if_neg hlt, hv.1, hv.2.1, hR, hT, if_neg (by decide)]; exact ((((hX.f hM 50 0).f hM 49 1).f hM 52 (nI r)).f hM 51 (nI c))⟩
          · exact absurd (by decide) c445
        · exact absurd (by decide) c427
      · have c382 : ¬ bx.toInt < 0 := by have hcv := n_lt c382; exact hcv
        refine wp_iload C 8 dX12_auction_385 rfl ?_
        refine wp_iload_n C 4 dX12_auction_387 rfl rfl ?_
        refine wp_icmp_eq C 407 dX12_auction_388 (by decide) (fun c388 => ?_) (fun c388 => ?_)
        · have c388 : g.toInt = bx.toInt := by have hcv := p_eq c388; exact hcv
          refine wp_iconst C 0 dX12_auction_407 (by decide) ?_
          refine wp_putZ C dX12_auction_408 pX12_auction_272 (fun h => nomatch h) hM.ob (by decide) ?_
          refine wp_aload_n C 1 dX12_auction_411 rfl rfl ?_
          refine wp_iconst C 1 dX12_auction_412 (by decide) ?_
          refine wp_putZ C dX12_auction_413 pX12_auction_276 (fun h => nomatch h) hM.ob (by decide) ?_
          refine wp_aload_n C 1 dX12_auction_416 rfl rfl ?_
          refine wp_iload C 9 dX12_auction_417 rfl ?_
          refine wp_putI C dX12_auction_419 pX12_auction_279 (fun h => nomatch h) hM.ob ?_
          refine wp_aload_n C 1 dX12_auction_422 rfl rfl ?_
          refine wp_aload_n C 1 dX12_auction_423 rfl rfl ?_
          refine wp_getI C dX12_auction_424 fX12_auction_272 hM.ob ?_
          refine wp_eqi ((u2_k _ _ _ _ (by decide) _).trans ((u2_k _ _ _ _ (by decide) _).trans (u2_s _ _ _ _))) ?_
          refine wp_if_eq C 436 dX12_auction_427 (by decide) (fun c427 => ?_) (fun c427 => ?_)
          · refine wp_iload C 7 dX12_auction_436 rfl ?_
            refine wp_putI C dX12_auction_438 pX12_auction_282 (fun h => nomatch h) hM.ob ?_
            refine wp_aload_n C 1 dX12_auction_441 rfl rfl ?_
            refine wp_getI C dX12_auction_442 fX12_auction_272 hM.ob ?_
            refine wp_eqi ((u2_k _ _ _ _ (by decide) _).trans ((u2_k _ _ _ _ (by decide) _).trans ((u2_k _ _ _ _ (by decide) _).trans (u2_s _ _ _ _)))) ?_
            refine wp_if_eq C 452 dX12_auction_445 (by decide) (fun c445 => ?_) (fun c445 => ?_)
            · refine wp_iload C 8 dX12_auction_452 rfl ?_
              have hlt : ¬ g.toInt < 0 := by omega
              have hT : isT (lim n t.toInt.toNat) bx c g p.toInt.toNat = 0 := by unfold isT; rw [if_neg (by omega)]
              have hR := his.2
              exact wp_iret C Z dX12_auction_454 (by decide) (by decide) ⟨by unfold vAu; rw [if_pos hs0, hv.2.2.2, if_neg hlt, hv.2.2.1, hT, if_neg (by decide)], rfl, rfl, by unfold aAu; rw [if_pos hs0, hv.2.2.2, if_neg hlt, hv.1, hv.2.1, hR, hT, if_neg (by decide)]; exact ((((hX.f hM 50 0).f hM 49 1).f hM 52 (nI r)).f hM 51 (nI c))⟩
            · exact absurd (by decide) c445
          · exact absurd (by decide) c427
        · have c388 : ¬ g.toInt = bx.toInt := by have hcv := n_eq c388; exact hcv
          refine wp_aload_n C 1 dX12_auction_391 rfl rfl ?_
          refine wp_iload_n C 2 dX12_auction_392 rfl rfl ?_
          refine wp_iload_n C 4 dX12_auction_393 rfl rfl ?_
          refine wp_cVl C (As := [.int t, .int bx]) (rest := [.ref m]) dX12_auction_394 kX12_auction_262 hM.ob (m_limit _ hM hX.2 t hsu.1.1 (i := bx.toInt.toNat) (nI_nat (by omega)) (by omega)) rfl (Nat.le_of_ble_eq_true rfl) (by decide) (by decide) ?_
          refine wp_lload C 0 dX12_auction_397 rfl ?_
          refine wp_lcmp C dX12_auction_399 ?_
          refine wp_if_lt C 407 dX12_auction_400 (by decide) (fun c400 => ?_) (fun c400 => ?_)
          · have c400 : (n 6 (40 * t.toInt.toNat + bx.toInt.toNat)).toInt < ((tpN c p.toInt.toNat : Nat) : Int) := by have hcv : (lg_cmp (n 6 (40 * t.toInt.toNat + bx.toInt.toNat)) tp).toInt < 0 := p_lt c400; have hz := lc_s (n 6 (40 * t.toInt.toNat + bx.toInt.toNat)) tp; rw [htp] at hz; omega
            refine wp_iconst C 0 dX12_auction_407 (by decide) ?_
            refine wp_putZ C dX12_auction_408 pX12_auction_272 (fun h => nomatch h) hM.ob (by decide) ?_
            refine wp_aload_n C 1 dX12_auction_411 rfl rfl ?_
            refine wp_iconst C 1 dX12_auction_412 (by decide) ?_
            refine wp_putZ C dX12_auction_413 pX12_auction_276 (fun h => nomatch h) hM.ob (by decide) ?_
            refine wp_aload_n C 1 dX12_auction_416 rfl rfl ?_
            refine wp_iload C 9 dX12_auction_417 rfl ?_
            refine wp_putI C dX12_auction_419 pX12_auction_279 (fun h => nomatch h) hM.ob ?_
            refine wp_aload_n C 1 dX12_auction_422 rfl rfl ?_
            refine wp_aload_n C 1 dX12_auction_423 rfl rfl ?_
            refine wp_getI C dX12_auction_424 fX12_auction_272 hM.ob ?_
            refine wp_eqi ((u2_k _ _ _ _ (by decide) _).trans ((u2_k _ _ _ _ (by decide) _).trans (u2_s _ _ _ _))) ?_
            refine wp_if_eq C 436 dX12_auction_427 (by decide) (fun c427 => ?_) (fun c427 => ?_)
            · refine wp_iload C 7 dX12_auction_436 rfl ?_
              refine wp_putI C dX12_auction_438 pX12_auction_282 (fun h => nomatch h) hM.ob ?_
              refine wp_aload_n C 1 dX12_auction_441 rfl rfl ?_
              refine wp_getI C dX12_auction_442 fX12_auction_272 hM.ob ?_
              refine wp_eqi ((u2_k _ _ _ _ (by decide) _).trans ((u2_k _ _ _ _ (by decide) _).trans ((u2_k _ _ _ _ (by decide) _).trans (u2_s _ _ _ _)))) ?_
              refine wp_if_eq C 452 dX12_auction_445 (by decide) (fun c445 => ?_) (fun c445 => ?_)
              · refine wp_iload C 8 dX12_auction_452 rfl ?_
                have hlt : ¬ g.toInt < 0 := by omega
                have hT : isT (lim n t.toInt.toNat) bx c g p.toInt.toNat = 0 := by unfold isT; rw [if_neg (by omega)]
                have hR := his.2
                exact wp_iret C Z dX12_auction_454 (by decide) (by decide) ⟨by unfold vAu; rw [if_pos hs0, hv.2.2.2, if_neg hlt, hv.2.2.1, hT, if_neg (by decide)], rfl, rfl, by unfold aAu; rw [if_pos hs0, hv.2.2.2, if_neg hlt, hv.1, hv.2.1, hR, hT, if_neg (by decide)]; exact ((((hX.f hM 50 0).f hM 49 1).f hM 52 (nI r)).f hM 51 (nI c))⟩
              · exact absurd (by decide) c445
            · exact absurd (by decide) c427
          · have c400 : ¬ (n 6 (40 * t.toInt.toNat + bx.toInt.toNat)).toInt < ((tpN c p.toInt.toNat : Nat) : Int) := by have hcv : ¬ (lg_cmp (n 6 (40 * t.toInt.toNat + bx.toInt.toNat)) tp).toInt < 0 := n_lt c400; have hz := lc_s (n 6 (40 * t.toInt.toNat + bx.toInt.toNat)) tp; rw [htp] at hz; omega
            refine wp_iconst C 1 dX12_auction_403 (by decide) ?_
            refine wp_goto C 408 dX12_auction_404 (by decide) ?_
            refine wp_putZ C dX12_auction_408 pX12_auction_272 (fun h => nomatch h) hM.ob (by decide) ?_
            refine wp_aload_n C 1 dX12_auction_411 rfl rfl ?_
            refine wp_iconst C 1 dX12_auction_412 (by decide) ?_
            refine wp_putZ C dX12_auction_413 pX12_auction_276 (fun h => nomatch h) hM.ob (by decide) ?_
            refine wp_aload_n C 1 dX12_auction_416 rfl rfl ?_
            refine wp_iload C 9 dX12_auction_417 rfl ?_
            refine wp_putI C dX12_auction_419 pX12_auction_279 (fun h => nomatch h) hM.ob ?_
            refine wp_aload_n C 1 dX12_auction_422 rfl rfl ?_
            refine wp_aload_n C 1 dX12_auction_423 rfl rfl ?_
            refine wp_getI C dX12_auction_424 fX12_auction_272 hM.ob ?_
            refine wp_eqi ((u2_k _ _ _ _ (by decide) _).trans ((u2_k _ _ _ _ (by decide) _).trans (u2_s _ _ _ _))) ?_
            refine wp_if_eq C 436 dX12_auction_427 (by decide) (fun c427 => ?_) (fun c427 => ?_)
            · exact absurd c427 (by decide)
            · refine wp_lload C 0 dX12_auction_430 rfl ?_
              refine wp_l2i C dX12_auction_432 ?_
              refine wp_eqi htp2 ?_
              refine wp_goto C 438 dX12_auction_433 (by decide) ?_
              refine wp_putI C dX12_auction_438 pX12_auction_282 (fun h => nomatch h) hM.ob ?_
              refine wp_aload_n C 1 dX12_auction_441 rfl rfl ?_
              refine wp_getI C dX12_auction_442 fX12_auction_272 hM.ob ?_
              refine wp_eqi ((u2_k _ _ _ _ (by decide) _).trans ((u2_k _ _ _ _ (by decide) _).trans ((u2_k _ _ _ _ (by decide) _).trans (u2_s _ _ _ _)))) ?_
              refine wp_if_eq C 452 dX12_auction_445 (by decide) (fun c445 => ?_) (fun c445 => ?_)
              · exact absurd c445 (by decide)
              · refine wp_iload_n C 4 dX12_auction_448 rfl rfl ?_
                refine wp_goto C 454 dX12_auction_449 (by decide) ?_
                have hlt : ¬ g.toInt < 0 := by omega
                have hT : isT (lim n t.toInt.toNat) bx c g p.toInt.toNat = 1 := by unfold isT; rw [if_pos (by omega)]
                have hR := his.2
                exact wp_iret C Z dX12_auction_454 (by decide) (by decide) ⟨by unfold vAu; rw [if_pos hs0, hv.2.2.2, if_neg hlt, hv.2.2.1, hT, if_pos rfl], rfl, rfl, by unfold aAu; rw [if_pos hs0, hv.2.2.2, if_neg hlt, hv.1, hv.2.1, hR, hT, if_pos rfl]; exact ((((hX.f hM 50 1).f hM 49 1).f hM 52 (nI r)).f hM 51 (nI (tpN c p.toInt.toNat)))⟩
    · have c349 : ¬ 0 ≤ g.toInt := by have hcv := n_le c349; exact hcv
      refine wp_aload_n C 0 dX12_auction_352 rfl rfl ?_
      refine wp_bipush C 9 dX12_auction_353 (by decide) ?_
      refine wp_cVi C (As := [.int 9]) (rest := []) dX12_auction_355 kX12_auction_164 hM.ob (m_refuse _ hM 9) rfl (Nat.le_of_ble_eq_true rfl) (by decide) (by decide) ?_
      have hlt : g.toInt < 0 := by omega
      exact wp_iret C Z dX12_auction_358 (by decide) (by decide) ⟨by unfold vAu; rw [if_pos hs0, hv.2.2.2, if_pos hlt], rfl, rfl, by unfold aAu; rw [if_pos hs0, hv.2.2.2, if_pos hlt, ← u2_u2 a 0 0 0 9]; exact hX.f hM 0 9⟩
  have outer : stAu a n t F bx p s = 0 → ∀ r, r ≤ 1000000 → ∀ c g I2, MX I I2 J J m ad (u2 a 0 0 0) n → (∀ j, j < eN_ a → (I2 (ad 53) j = 0 ∧ ¬ (j : Int) = bx.toInt) ∨ (I2 (ad 53) j = 1 ∧ ((j : Int) = bx.toInt ∨ lim n t.toInt.toNat j < c + s.toInt.toNat))) → rdI (lim n t.toInt.toNat) bx s.toInt.toNat (eN_ a) (F.toInt.toNat, bx) r = (c, g) → (∀ j, j < r → rdI (lim n t.toInt.toNat) bx s.toInt.toNat (eN_ a) (F.toInt.toNat, bx) (j + 1) ≠ rdI (lim n t.toInt.toNat) bx s.toInt.toNat (eN_ a) (F.toInt.toNat, bx) j) → ∀ lv, lv_pick lv [0, 1, 2, 3, 4, 5, 6, 7, 8, 9] = [(0, .ref m), (1, .int t), (2, .int F), (3, .int bx), (4, .int p), (5, .int s), (6, .int (nI c)), (7, .int g), (8, .int (nI r)), (9, .int 1)] → WP E 12 0 0 T I2 J R 253 lv [] := by
    intro hs0
    have hsu := stAu_ok hs0
    have haf := au_f (by omega) hsu (by omega)
    have es : s = nI s.toInt.toNat := nI_nat (by omega)
    refine loopN 1000000 (fun r hr ih => ?_)
    intro c g I2 hX hout hrd hno lv hlv
    refine wp_lv [0, 1, 2, 3, 4, 5, 6, 7, 8, 9] hlv ?_
    have hcM : c ≤ 1000000 := by have := haf.2.2.1 r; rw [hrd] at this; exact this
    have hgr : F.toInt.toNat + r ≤ c := by have := rdI_gr (L := (lim n t.toInt.toNat)) (bx := bx) (B := eN_ a) (s := (F.toInt.toNat, bx)) (S := s.toInt.toNat) (by omega) hno; rw [hrd] at this; exact this
    have inner : ∀ e, e ≤ eN_ a → ∀ c1 g1 I3, MX I I3 J J m ad (u2 a 0 0 0) n → (∀ j, j < eN_ a → (I3 (ad 53) j = 0 ∧ ¬ (j : Int) = bx.toInt) ∨ (I3 (ad 53) j = 1 ∧ ((j : Int) = bx.toInt ∨ lim n t.toInt.toNat j < c1 + s.toInt.toNat))) → rdK (lim n t.toInt.toNat) bx s.toInt.toNat (c, g) e = (c1, g1) → ∀ lv, lv_pick lv [0, 1, 2, 3, 4, 5, 6, 7, 8, 9, 10] = [(0, .ref m), (1, .int t), (2, .int F), (3, .int bx), (4, .int p), (5, .int s), (6, .int (nI c1)), (7, .int g1), (8, .int (nI (r + 1))), (9, .int (nI (if (c1, g1) = (c, g) then 0 else 1))), (10, .int (nI e))] → WP E 12 0 0 T I3 J R 267 lv [] := by
      refine loopN (eN_ a) (fun e he ihe => ?_)
      intro c1 g1 I3 hX hout hrk lv hlv
      refine wp_lv [0, 1, 2, 3, 4, 5, 6, 7, 8, 9, 10] hlv ?_
      have hc1 : c1 ≤ 1000000 := by have := rdK_le (bx := bx) (S := s.toInt.toNat) (s := (c, g)) haf.1 hcM e he; rw [hrk] at this; exact this
      have hcb : (c1, g1) = (c, g) ∨ c + s.toInt.toNat ≤ c1 := by have := rdK_or (lim n t.toInt.toNat) bx s.toInt.toNat (c, g) e; rw [hrk] at this; exact this
      have hcb2 : c ≤ c1 := by rcases hcb with z | z; exact Nat.le_of_eq (congrArg Prod.fst z).symm; omega
      refine wp_iload C 10 dX12_auction_267 rfl ?_
      refine wp_aload_n C 0 dX12_auction_269 rfl rfl ?_
      refine wp_getI C dX12_auction_270 fX12_auction_161 hM.ob ?_
      refine wp_eqi ((hX.2.1 8 (by decide)).trans e8) ?_
      refine wp_icmp_ge C 344 dX12_auction_273 (by decide) (fun c273 => ?_) (fun c273 => ?_)
      · have c273 : (((eN_ a) : Nat) : Int) ≤ ((e : Nat) : Int) := by have hcv := p_le c273; rw [nI_toInt (show (eN_ a) < 2 ^ 31 by omega), nI_toInt (show e < 2 ^ 31 by omega)] at hcv; exact hcv
        have eE : e = eN_ a := by omega
        have hr1 : rdI (lim n t.toInt.toNat) bx s.toInt.toNat (eN_ a) (F.toInt.toNat, bx) (r + 1) = (c1, g1) := by show rdK (lim n t.toInt.toNat) bx s.toInt.toNat (rdI (lim n t.toInt.toNat) bx s.toInt.toNat (eN_ a) (F.toInt.toNat, bx) r) (eN_ a) = _; rw [hrd, ← eE]; exact hrk
        by_cases hst : (c1, g1) = (c, g)
        · refine wp_lv [0, 1, 2, 3, 4, 5, 6, 7, 8, 9] (lv2 := [(0, .ref m), (1, .int t), (2, .int F), (3, .int bx), (4, .int p), (5, .int s), (6, .int (nI c1)), (7, .int g1), (8, .int (nI (r + 1))), (9, .int 0)]) (by rw [if_pos hst]; rfl) ?_
          refine wp_goto C 253 dX12_auction_344 (by decide) ?_
          refine wp_iload C 9 dX12_auction_253 rfl ?_
          refine wp_if_eq C 347 dX12_auction_255 (by decide) (fun c255 => ?_) (fun c255 => ?_)
          · refine wp_lv [0, 1, 2, 3, 4, 5, 6, 7, 8] rfl ?_
            exact fin hs0 I3 c1 g1 (r + 1) hX (auIs.mk (by omega) (hrd.trans hst.symm) (by rw [hr1, hrd]; exact hst) hno) hc1 _ rfl
          · exact absurd (by decide) c255
        · refine wp_lv [0, 1, 2, 3, 4, 5, 6, 7, 8, 9] (lv2 := [(0, .ref m), (1, .int t), (2, .int F), (3, .int bx), (4, .int p), (5, .int s), (6, .int (nI c1)), (7, .int g1), (8, .int (nI (r + 1))), (9, .int 1)]) (by rw [if_neg hst]; rfl) ?_
          refine wp_goto C 253 dX12_auction_344 (by decide) ?_
          refine wp_lv [0, 1, 2, 3, 4, 5, 6, 7, 8, 9] rfl ?_
          have hc2 : c + s.toInt.toNat ≤ c1 := hcb.resolve_left hst
          refine ih (r + 1) (by omega) (by omega) c1 g1 I3 hX hout hr1 (fun j hj => ?_) _ rfl
          by_cases z : j < r
          · exact hno j z
          · rw [show j = r by omega, hr1, hrd]; exact hst
      · have c273 : ¬ (((eN_ a) : Nat) : Int) ≤ ((e : Nat) : Int) := by have hcv := n_le c273; rw [nI_toInt (show (eN_ a) < 2 ^ 31 by omega), nI_toInt (show e < 2 ^ 31 by omega)] at hcv; exact hcv
        have ho1 : ((I3 (ad 53) e).toInt = 0 ∧ ¬ (e : Int) = bx.toInt) ∨ ((I3 (ad 53) e).toInt = 1 ∧ ((e : Int) = bx.toInt ∨ lim n t.toInt.toNat e < c1 + s.toInt.toNat)) := by
          rcases hout e (by omega) with ⟨z, w⟩ | ⟨z, w⟩
          · exact Or.inl ⟨by rw [z]; rfl, w⟩
          · exact Or.inr ⟨by rw [z]; rfl, w⟩
        have hle := lmO_1 hsu.2.2.2 (e := e) (by omega)
        have hLe : (lim n t.toInt.toNat e : Int) = (n 6 (40 * t.toInt.toNat + e)).toInt := by unfold lim; omega
        refine wp_aload_n C 0 dX12_auction_276 rfl rfl ?_
        refine wp_getR C dX12_auction_277 fX12_auction_131 hM.ob (hM.rf 53 rfl) ?_
        refine wp_iload C 10 dX12_auction_280 rfl ?_
        refine wp_zald C dX12_auction_282 (hM.ar 53 rfl rfl) (j := e) rfl (by omega) (by decide) ?_
        refine wp_if_ne C 338 dX12_auction_283 (by decide) (fun c283 => ?_) (fun c283 => ?_)
        · have c283 : ¬ (I3 (ad 53) e).toInt = 0 := by have hcv := n_eq c283; exact hcv
          refine wp_iinc C 10 (nI (e + 1)) [(10, .int (nI (e + 1))), (0, .ref m), (1, .int t), (2, .int F), (3, .int bx), (4, .int p), (5, .int s), (6, .int (nI c1)), (7, .int g1), (8, .int (nI (r + 1))), (9, .int (nI (if (c1, g1) = (c, g) then 0 else 1)))] dX12_auction_338 rfl (nI_1 e) (by decide) rfl ?_
          refine wp_goto C 267 dX12_auction_341 (by decide) ?_
          refine wp_lv [1, 2, 3, 4, 5, 6, 7, 8, 9, 10, 0] rfl ?_
          have es1 : rdK (lim n t.toInt.toNat) bx s.toInt.toNat (c, g) (e + 1) = (c1, g1) := by
            show bdS (lim n t.toInt.toNat) bx s.toInt.toNat (rdK (lim n t.toInt.toNat) bx s.toInt.toNat (c, g) e) e = _
            rw [hrk]; unfold bdS; rw [if_pos]
            show ((e : Int) = g1.toInt ∨ (e : Int) = bx.toInt ∨ lim n t.toInt.toNat e < c1 + s.toInt.toNat)
            omega
          exact ihe (e + 1) (by omega) (by omega) c1 g1 I3 hX hout es1 _ rfl
        · have c283 : (I3 (ad 53) e).toInt = 0 := by have hcv := p_eq c283; exact hcv
          refine wp_iload C 10 dX12_auction_286 rfl ?_
          refine wp_iload C 7 dX12_auction_288 rfl ?_
          refine wp_icmp_ne C 296 dX12_auction_290 (by decide) (fun c290 => ?_) (fun c290 => ?_)
          · have c290 : ¬ ((e : Nat) : Int) = g1.toInt := by have hcv := n_eq c290; rw [nI_toInt (show e < 2 ^ 31 by omega)] at hcv; exact hcv
            refine wp_aload_n C 0 dX12_auction_296 rfl rfl ?_
            refine wp_iload_n C 1 dX12_auction_297 rfl rfl ?_
            refine wp_iload C 10 dX12_auction_298 rfl ?_
            refine wp_cVl C (As := [.int t, .int (nI e)]) (rest := []) dX12_auction_300 kX12_auction_262 hM.ob (m_limit _ hM hX.2 t hsu.1.1 (i := e) rfl (by omega)) rfl (Nat.le_of_ble_eq_true rfl) (by decide) (by decide) ?_
            refine wp_iload C 6 dX12_auction_303 rfl ?_
            refine wp_iload C 5 dX12_auction_305 rfl ?_
            refine wp_eqi es ?_
            refine wp_iadd C dX12_auction_307 ?_
            refine wp_eqi (nI_add c1 s.toInt.toNat) ?_
            refine wp_i2l C dX12_auction_308 ?_
            refine wp_lcmp C dX12_auction_309 ?_
            refine wp_if_lt C 330 dX12_auction_310 (by decide) (fun c310 => ?_) (fun c310 => ?_)
            · have c310 : (n 6 (40 * t.toInt.toNat + e)).toInt < ((c1 + s.toInt.toNat : Nat) : Int) := by have hcv : (lg_cmp (n 6 (40 * t.toInt.toNat + e)) ((nI (c1 + s.toInt.toNat)).toInt64)).toInt < 0 := p_lt c310; have hz := lc_s (n 6 (40 * t.toInt.toNat + e)) ((nI (c1 + s.toInt.toNat)).toInt64); rw [((i2l_T _).trans (nI_toInt (by omega)))] at hz; omega
              refine wp_aload_n C 0 dX12_auction_330 rfl rfl ?_
              refine wp_getR C dX12_auction_331 fX12_auction_131 hM.ob (hM.rf 53 rfl) ?_
              refine wp_iload C 10 dX12_auction_334 rfl ?_
              refine wp_iconst C 1 dX12_auction_336 (by decide) ?_
              refine wp_zast C dX12_auction_337 (hM.ar 53 rfl rfl) (j := e) rfl (by omega) (by decide) (by decide) ?_
              refine wp_iinc C 10 (nI (e + 1)) [(10, .int (nI (e + 1))), (0, .ref m), (1, .int t), (2, .int F), (3, .int bx), (4, .int p), (5, .int s), (6, .int (nI c1)), (7, .int g1), (8, .int (nI (r + 1))), (9, .int (nI (if (c1, g1) = (c, g) then 0 else 1)))] dX12_auction_338 rfl (nI_1 e) (by decide) rfl ?_
              refine wp_goto C 267 dX12_auction_341 (by decide) ?_
              refine wp_lv [1, 2, 3, 4, 5, 6, 7, 8, 9, 10, 0] rfl ?_
              have es1 : rdK (lim n t.toInt.toNat) bx s.toInt.toNat (c, g) (e + 1) = (c1, g1) := by
                show bdS (lim n t.toInt.toNat) bx s.toInt.toNat (rdK (lim n t.toInt.toNat) bx s.toInt.toNat (c, g) e) e = _
                rw [hrk]; unfold bdS; rw [if_pos]
                show ((e : Int) = g1.toInt ∨ (e : Int) = bx.toInt ∨ lim n t.toInt.toNat e < c1 + s.toInt.toNat)
                omega
              refine ihe (e + 1) (by omega) (by omega) c1 g1 _ (hX.x hM 53 rfl (by unfold mR; omega) e 1) (fun j hj => ?_) es1 _ rfl
              by_cases z : j = e
              · rw [z, u2_s]; exact Or.inr ⟨rfl, Or.inr (by omega)⟩
              · rw [u2_k _ _ _ _ z]; exact hout j hj
            · have c310 : ¬ (n 6 (40 * t.toInt.toNat + e)).toInt < ((c1 + s.toInt.toNat : Nat) : Int) := by have hcv : ¬ (lg_cmp (n 6 (40 * t.toInt.toNat + e)) ((nI (c1 + s.toInt.toNat)).toInt64)).toInt < 0 := n_lt c310; have hz := lc_s (n 6 (40 * t.toInt.toNat + e)) ((nI (c1 + s.toInt.toNat)).toInt64); rw [((i2l_T _).trans (nI_toInt (by omega)))] at hz; omega
              refine wp_iload C 6 dX12_auction_313 rfl ?_
              refine wp_iload C 5 dX12_auction_315 rfl ?_
              refine wp_eqi es ?_
              refine wp_iadd C dX12_auction_317 ?_
              refine wp_eqi (nI_add c1 s.toInt.toNat) ?_
              refine wp_istore C [(6, .int (nI (c1 + s.toInt.toNat))), (0, .ref m), (1, .int t), (2, .int F), (3, .int bx), (4, .int p), (5, .int s), (7, .int g1), (8, .int (nI (r + 1))), (9, .int (nI (if (c1, g1) = (c, g) then 0 else 1))), (10, .int (nI e))] dX12_auction_318 (by decide) rfl ?_
              refine wp_iload C 10 dX12_auction_320 rfl ?_
              refine wp_istore C [(7, .int (nI e)), (6, .int (nI (c1 + s.toInt.toNat))), (0, .ref m), (1, .int t), (2, .int F), (3, .int bx), (4, .int p), (5, .int s), (8, .int (nI (r + 1))), (9, .int (nI (if (c1, g1) = (c, g) then 0 else 1))), (10, .int (nI e))] dX12_auction_322 (by decide) rfl ?_
              refine wp_iconst C 1 dX12_auction_324 (by decide) ?_
              refine wp_istore C [(9, .int 1), (7, .int (nI e)), (6, .int (nI (c1 + s.toInt.toNat))), (0, .ref m), (1, .int t), (2, .int F), (3, .int bx), (4, .int p), (5, .int s), (8, .int (nI (r + 1))), (10, .int (nI e))] dX12_auction_325 (by decide) rfl ?_
              refine wp_goto C 338 dX12_auction_327 (by decide) ?_
              refine wp_iinc C 10 (nI (e + 1)) [(10, .int (nI (e + 1))), (9, .int 1), (7, .int (nI e)), (6, .int (nI (c1 + s.toInt.toNat))), (0, .ref m), (1, .int t), (2, .int F), (3, .int bx), (4, .int p), (5, .int s), (8, .int (nI (r + 1)))] dX12_auction_338 rfl (nI_1 e) (by decide) rfl ?_
              refine wp_goto C 267 dX12_auction_341 (by decide) ?_
              refine wp_lv [4, 5, 6, 7, 8, 9, 3, 2, 10, 1, 0] rfl ?_
              have es1 : rdK (lim n t.toInt.toNat) bx s.toInt.toNat (c, g) (e + 1) = (c1 + s.toInt.toNat, nI e) := by
                show bdS (lim n t.toInt.toNat) bx s.toInt.toNat (rdK (lim n t.toInt.toNat) bx s.toInt.toNat (c, g) e) e = _
                rw [hrk]; unfold bdS; rw [if_neg]
                show ¬ ((e : Int) = g1.toInt ∨ (e : Int) = bx.toInt ∨ lim n t.toInt.toNat e < c1 + s.toInt.toNat)
                omega
              have hne : ¬ (c1 + s.toInt.toNat, nI e) = (c, g) := fun z => by have z1 : c1 + s.toInt.toNat = c := congrArg Prod.fst z; omega
              refine ihe (e + 1) (by omega) (by omega) _ _ I3 hX (fun j hj => ?_) es1 _ (by rw [if_neg hne]; rfl)
              rcases hout j hj with z | ⟨z, w | w⟩
              · exact Or.inl z
              · exact Or.inr ⟨z, Or.inl w⟩
              · exact Or.inr ⟨z, Or.inr (by omega)⟩
          · have c290 : ((e : Nat) : Int) = g1.toInt := by have hcv := p_eq c290; rw [nI_toInt (show e < 2 ^ 31 by omega)] at hcv; exact hcv
            refine wp_goto C 338 dX12_auction_293 (by decide) ?_
            refine wp_iinc C 10 (nI (e + 1)) [(10, .int (nI (e + 1))), (0, .ref m), (1, .int t), (2, .int F), (3, .int bx), (4, .int p), (5, .int s), (6, .int (nI c1)), (7, .int g1), (8, .int (nI (r + 1))), (9, .int (nI (if (c1, g1) = (c, g) then 0 else 1)))] dX12_auction_338 rfl (nI_1 e) (by decide) rfl ?_
            refine wp_goto C 267 dX12_auction_341 (by decide) ?_
            refine wp_lv [1, 2, 3, 4, 5, 6, 7, 8, 9, 10, 0] rfl ?_
            have es1 : rdK (lim n t.toInt.toNat) bx s.toInt.toNat (c, g) (e + 1) = (c1, g1) := by
              show bdS (lim n t.toInt.toNat) bx s.toInt.toNat (rdK (lim n t.toInt.toNat) bx s.toInt.toNat (c, g) e) e = _
              rw [hrk]; unfold bdS; rw [if_pos]
              show ((e : Int) = g1.toInt ∨ (e : Int) = bx.toInt ∨ lim n t.toInt.toNat e < c1 + s.toInt.toNat)
              omega
            exact ihe (e + 1) (by omega) (by omega) c1 g1 I3 hX hout es1 _ rfl
    refine wp_iload C 9 dX12_auction_253 rfl ?_
    refine wp_if_eq C 347 dX12_auction_255 (by decide) (fun c255 => ?_) (fun c255 => ?_)
    · exact absurd c255 (by decide)
    · refine wp_iconst C 0 dX12_auction_258 (by decide) ?_
      refine wp_istore C [(9, .int 0), (0, .ref m), (1, .int t), (2, .int F), (3, .int bx), (4, .int p), (5, .int s), (6, .int (nI c)), (7, .int g), (8, .int (nI r))] dX12_auction_259 (by decide) rfl ?_
      refine wp_iinc C 9 (nI (r + 1)) [(8, .int (nI (r + 1))), (9, .int 0), (0, .ref m), (1, .int t), (2, .int F), (3, .int bx), (4, .int p), (5, .int s), (6, .int (nI c)), (7, .int g)] dX12_auction_261 rfl (nI_1 r) (by decide) rfl ?_
      refine wp_iconst C 0 dX12_auction_264 (by decide) ?_
      refine wp_istore C [(10, .int 0), (8, .int (nI (r + 1))), (9, .int 0), (0, .ref m), (1, .int t), (2, .int F), (3, .int bx), (4, .int p), (5, .int s), (6, .int (nI c)), (7, .int g)] dX12_auction_265 (by decide) rfl ?_
      refine wp_lv [3, 4, 5, 6, 7, 8, 9, 10, 1, 2, 0] rfl ?_
      exact inner 0 (by omega) c g I2 hX hout rfl _ (by rw [if_pos rfl]; rfl)
  have outs : stAu a n t F bx p s = 0 → ∀ i, i ≤ eN_ a → ∀ I2, MX I I2 J J m ad (u2 a 0 0 0) n → (∀ j, j < i → (I2 (ad 53) j = 0 ∧ ¬ (j : Int) = bx.toInt) ∨ (I2 (ad 53) j = 1 ∧ (j : Int) = bx.toInt)) → ∀ lv, lv_pick lv [0, 1, 2, 3, 4, 5, 6] = [(0, .ref m), (1, .int t), (2, .int F), (3, .int bx), (4, .int p), (5, .int s), (6, .int (nI i))] → WP E 12 0 0 T I2 J R 208 lv [] := by
    intro hs0
    have hsu := stAu_ok hs0
    refine loopN (eN_ a) (fun i hi ih => ?_)
    intro I2 hX hout lv hlv
    refine wp_lv [0, 1, 2, 3, 4, 5, 6] hlv ?_
    refine wp_iload C 6 dX12_auction_208 rfl ?_
    refine wp_aload_n C 0 dX12_auction_210 rfl rfl ?_
    refine wp_getI C dX12_auction_211 fX12_auction_161 hM.ob ?_
    refine wp_eqi ((hX.2.1 8 (by decide)).trans e8) ?_
    refine wp_icmp_ge C 241 dX12_auction_214 (by decide) (fun c214 => ?_) (fun c214 => ?_)
    · have c214 : (((eN_ a) : Nat) : Int) ≤ ((i : Nat) : Int) := by have hcv := p_le c214; rw [nI_toInt (show (eN_ a) < 2 ^ 31 by omega), nI_toInt (show i < 2 ^ 31 by omega)] at hcv; exact hcv
      refine wp_iload_n C 2 dX12_auction_241 rfl rfl ?_
      refine wp_istore C [(6, .int F), (0, .ref m), (1, .int t), (2, .int F), (3, .int bx), (4, .int p), (5, .int s)] dX12_auction_242 (by decide) rfl ?_
      refine wp_iload_n C 4 dX12_auction_244 rfl rfl ?_
      refine wp_istore C [(7, .int bx), (6, .int F), (0, .ref m), (1, .int t), (2, .int F), (3, .int bx), (4, .int p), (5, .int s)] dX12_auction_245 (by decide) rfl ?_
      refine wp_iconst C 0 dX12_auction_247 (by decide) ?_
      refine wp_istore C [(8, .int 0), (7, .int bx), (6, .int F), (0, .ref m), (1, .int t), (2, .int F), (3, .int bx), (4, .int p), (5, .int s)] dX12_auction_248 (by decide) rfl ?_
      refine wp_iconst C 1 dX12_auction_250 (by decide) ?_
      refine wp_istore C [(9, .int 1), (8, .int 0), (7, .int bx), (6, .int F), (0, .ref m), (1, .int t), (2, .int F), (3, .int bx), (4, .int p), (5, .int s)] dX12_auction_251 (by decide) rfl ?_
      refine wp_lv [4, 5, 6, 7, 8, 9, 3, 2, 1, 0] rfl ?_
      refine outer hs0 0 (by omega) F.toInt.toNat bx I2 hX (fun j hj => ?_) rfl (fun j hj => absurd hj (Nat.not_lt_zero j)) _ (by rw [← nI_nat (x := F) (by omega)]; rfl)
      rcases hout j (by omega) with z | z
      · exact Or.inl z
      · exact Or.inr ⟨z.1, Or.inl z.2⟩
    · have c214 : ¬ (((eN_ a) : Nat) : Int) ≤ ((i : Nat) : Int) := by have hcv := n_le c214; rw [nI_toInt (show (eN_ a) < 2 ^ 31 by omega), nI_toInt (show i < 2 ^ 31 by omega)] at hcv; exact hcv
      refine wp_aload_n C 0 dX12_auction_217 rfl rfl ?_
      refine wp_getR C dX12_auction_218 fX12_auction_131 hM.ob (hM.rf 53 rfl) ?_
      refine wp_iload C 6 dX12_auction_221 rfl ?_
      refine wp_iload C 6 dX12_auction_223 rfl ?_
      refine wp_iload_n C 3 dX12_auction_225 rfl rfl ?_
      refine wp_icmp_ne C 233 dX12_auction_226 (by decide) (fun c226 => ?_) (fun c226 => ?_)
      · have c226 : ¬ ((i : Nat) : Int) = bx.toInt := by have hcv := n_eq c226; rw [nI_toInt (show i < 2 ^ 31 by omega)] at hcv; exact hcv
        refine wp_iconst C 0 dX12_auction_233 (by decide) ?_
        refine wp_zast C dX12_auction_234 (hM.ar 53 rfl rfl) (j := i) rfl (by omega) (by decide) (by decide) ?_
        refine wp_iinc C 6 (nI (i + 1)) [(6, .int (nI (i + 1))), (0, .ref m), (1, .int t), (2, .int F), (3, .int bx), (4, .int p), (5, .int s)] dX12_auction_235 rfl (nI_1 i) (by decide) rfl ?_
        refine wp_goto C 208 dX12_auction_238 (by decide) ?_
        refine wp_lv [1, 2, 3, 4, 5, 6, 0] rfl ?_
        refine ih (i + 1) (by omega) (by omega) _ (hX.x hM 53 rfl (by unfold mR; omega) i 0) (fun j hj => ?_) _ rfl
        by_cases z : j = i
        · rw [z, u2_s]; exact Or.inl ⟨rfl, by omega⟩
        · rw [u2_k _ _ _ _ z]; exact hout j (by omega)
      · have c226 : ((i : Nat) : Int) = bx.toInt := by have hcv := p_eq c226; rw [nI_toInt (show i < 2 ^ 31 by omega)] at hcv; exact hcv
        refine wp_iconst C 1 dX12_auction_229 (by decide) ?_
        refine wp_goto C 234 dX12_auction_230 (by decide) ?_
        refine wp_zast C dX12_auction_234 (hM.ar 53 rfl rfl) (j := i) rfl (by omega) (by decide) (by decide) ?_
        refine wp_iinc C 6 (nI (i + 1)) [(6, .int (nI (i + 1))), (0, .ref m), (1, .int t), (2, .int F), (3, .int bx), (4, .int p), (5, .int s)] dX12_auction_235 rfl (nI_1 i) (by decide) rfl ?_
        refine wp_goto C 208 dX12_auction_238 (by decide) ?_
        refine wp_lv [1, 2, 3, 4, 5, 6, 0] rfl ?_
        refine ih (i + 1) (by omega) (by omega) _ (hX.x hM 53 rfl (by unfold mR; omega) i 1) (fun j hj => ?_) _ rfl
        by_cases z : j = i
        · rw [z, u2_s]; exact Or.inr ⟨rfl, by omega⟩
        · rw [u2_k _ _ _ _ z]; exact hout j (by omega)
  have lims : (0 ≤ t.toInt ∧ t.toInt < 4) → (bx.toInt = -1 ∨ (0 ≤ bx.toInt ∧ bx.toInt < (a 0 8).toInt)) → ((0 ≤ F.toInt ∧ F.toInt ≤ 1000000) ∧ (0 ≤ p.toInt ∧ p.toInt ≤ 50) ∧ (1 ≤ s.toInt ∧ s.toInt ≤ 100000) ∧ (F.toInt = 0 ↔ bx.toInt = -1)) → (0 ≤ (a 5 t.toInt.toNat).toInt ∧ (a 0 8).toInt ≤ (a 5 t.toInt.toNat).toInt) → ∀ i, i ≤ eN_ a → (∀ j, j < i → lmB n t.toInt.toNat bx F j ≠ 0) → ∀ lv, lv_pick lv [0, 1, 2, 3, 4, 5, 6] = [(0, .ref m), (1, .int t), (2, .int F), (3, .int bx), (4, .int p), (5, .int s), (6, .int (nI i))] → WP E 12 0 0 T (u2 (u2 I m 1 0) m 0 0) J R 139 lv [] := by
    intro q1 q2 q3 q4
    refine loopN (eN_ a) (fun i hi ih => ?_)
    intro hno lv hlv
    refine wp_lv [0, 1, 2, 3, 4, 5, 6] hlv ?_
    have hb := lmB_0 (n := n) (t := t.toInt.toNat) (bx := bx) (F := F) (e := i)
    refine wp_iload C 6 dX12_auction_139 rfl ?_
    refine wp_aload_n C 0 dX12_auction_141 rfl rfl ?_
    refine wp_getI C dX12_auction_142 fX12_auction_161 hM.ob ?_
    refine wp_eqi (((u2_k _ _ _ _ (by decide) _).trans (u2_k _ _ _ _ (by decide) _)).trans ((hA.1 8 (by decide)).trans e8)) ?_
    refine wp_icmp_ge C 205 dX12_auction_145 (by decide) (fun c145 => ?_) (fun c145 => ?_)
    · have c145 : (((eN_ a) : Nat) : Int) ≤ ((i : Nat) : Int) := by have hcv := p_le c145; rw [nI_toInt (show (eN_ a) < 2 ^ 31 by omega), nI_toInt (show i < 2 ^ 31 by omega)] at hcv; exact hcv
      have hlm : lmO a n t.toInt.toNat bx F = 1 := by unfold lmO; rw [ff_none (fun j hj => hno j (by omega)), if_neg (Nat.lt_irrefl _)]
      have hs0 : stAu a n t F bx p s = 0 := by simp only [stAu]; (repeat' split) <;> omega
      refine wp_iconst C 0 dX12_auction_205 (by decide) ?_
      refine wp_istore C [(6, .int 0), (0, .ref m), (1, .int t), (2, .int F), (3, .int bx), (4, .int p), (5, .int s)] dX12_auction_206 (by decide) rfl ?_
      refine wp_lv [1, 2, 3, 4, 5, 6, 0] rfl ?_
      exact outs hs0 0 (by omega) _ hX1 (fun j hj => absurd hj (Nat.not_lt_zero j)) _ rfl
    · have c145 : ¬ (((eN_ a) : Nat) : Int) ≤ ((i : Nat) : Int) := by have hcv := n_le c145; rw [nI_toInt (show (eN_ a) < 2 ^ 31 by omega), nI_toInt (show i < 2 ^ 31 by omega)] at hcv; exact hcv
      refine wp_aload_n C 0 dX12_auction_148 rfl rfl ?_
      refine wp_iload_n C 1 dX12_auction_149 rfl rfl ?_
      refine wp_iload C 6 dX12_auction_150 rfl ?_
      refine wp_cVl C (As := [.int t, .int (nI i)]) (rest := []) dX12_auction_152 kX12_auction_262 hM.ob (m_limit _ hM hX1.2 t (by omega) (i := i) rfl (by omega)) rfl (Nat.le_of_ble_eq_true rfl) (by decide) (by decide) ?_
      refine wp_lconst C 0 dX12_auction_155 (by decide) ?_
      refine wp_lcmp C dX12_auction_156 ?_
      refine wp_if_lt C 193 dX12_auction_157 (by decide) (fun c157 => ?_) (fun c157 => ?_)
      · have c157 : (n 6 (40 * t.toInt.toNat + i)).toInt < 0 := by have hcv : (lg_cmp (n 6 (40 * t.toInt.toNat + i)) 0).toInt < 0 := p_lt c157; have hz := lc_s (n 6 (40 * t.toInt.toNat + i)) 0; rw [(show (0 : Int64).toInt = 0 from rfl)] at hz; omega
        refine wp_aload_n C 0 dX12_auction_193 rfl rfl ?_
        refine wp_iconst C 2 dX12_auction_194 (by decide) ?_
        refine wp_cVi C (As := [.int 2]) (rest := []) dX12_auction_195 kX12_auction_164 hM.ob (m_refuse _ hM 2) rfl (Nat.le_of_ble_eq_true rfl) (by decide) (by decide) ?_
        have hfi : ff (lmB n t.toInt.toNat bx F) (eN_ a) = i := ff_eq (by omega) (hb.mpr (by omega)) hno
        have hlm : lmO a n t.toInt.toNat bx F = 0 := by unfold lmO; rw [hfi, if_pos (by omega)]
        have hst : stAu a n t F bx p s = 2 := by simp only [stAu]; (repeat' split) <;> omega
        have hs0 : ¬ stAu a n t F bx p s = 0 := by rw [hst]; decide
        exact wp_iret C Z dX12_auction_198 (by decide) (by decide) ⟨by unfold vAu; rw [if_neg hs0], rfl, rfl, by unfold aAu; rw [if_neg hs0, hst]; exact MX.no hA hM 2⟩
      · have c157 : ¬ (n 6 (40 * t.toInt.toNat + i)).toInt < 0 := by have hcv : ¬ (lg_cmp (n 6 (40 * t.toInt.toNat + i)) 0).toInt < 0 := n_lt c157; have hz := lc_s (n 6 (40 * t.toInt.toNat + i)) 0; rw [(show (0 : Int64).toInt = 0 from rfl)] at hz; omega
        refine wp_aload_n C 0 dX12_auction_160 rfl rfl ?_
        refine wp_iload_n C 1 dX12_auction_161 rfl rfl ?_
        refine wp_iload C 6 dX12_auction_162 rfl ?_
        refine wp_cVl C (As := [.int t, .int (nI i)]) (rest := []) dX12_auction_164 kX12_auction_262 hM.ob (m_limit _ hM hX1.2 t (by omega) (i := i) rfl (by omega)) rfl (Nat.le_of_ble_eq_true rfl) (by decide) (by decide) ?_
        refine wp_ldc2 C 1000000 dX12_auction_167 (by decide +kernel) ?_
        refine wp_lcmp C dX12_auction_170 ?_
        refine wp_if_gt C 193 dX12_auction_171 (by decide) (fun c171 => ?_) (fun c171 => ?_)
        · have c171 : 1000000 < (n 6 (40 * t.toInt.toNat + i)).toInt := by have hcv : 0 < (lg_cmp (n 6 (40 * t.toInt.toNat + i)) 1000000).toInt := p_lt c171; have hz := lc_s (n 6 (40 * t.toInt.toNat + i)) 1000000; rw [(show (1000000 : Int64).toInt = 1000000 from rfl)] at hz; omega
          refine wp_aload_n C 0 dX12_auction_193 rfl rfl ?_
          refine wp_iconst C 2 dX12_auction_194 (by decide) ?_
          refine wp_cVi C (As := [.int 2]) (rest := []) dX12_auction_195 kX12_auction_164 hM.ob (m_refuse _ hM 2) rfl (Nat.le_of_ble_eq_true rfl) (by decide) (by decide) ?_
          have hfi : ff (lmB n t.toInt.toNat bx F) (eN_ a) = i := ff_eq (by omega) (hb.mpr (by omega)) hno
          have hlm : lmO a n t.toInt.toNat bx F = 0 := by unfold lmO; rw [hfi, if_pos (by omega)]
          have hst : stAu a n t F bx p s = 2 := by simp only [stAu]; (repeat' split) <;> omega
          have hs0 : ¬ stAu a n t F bx p s = 0 := by rw [hst]; decide
          exact wp_iret C Z dX12_auction_198 (by decide) (by decide) ⟨by unfold vAu; rw [if_neg hs0], rfl, rfl, by unfold aAu; rw [if_neg hs0, hst]; exact MX.no hA hM 2⟩
        · have c171 : ¬ 1000000 < (n 6 (40 * t.toInt.toNat + i)).toInt := by have hcv : ¬ 0 < (lg_cmp (n 6 (40 * t.toInt.toNat + i)) 1000000).toInt := n_lt c171; have hz := lc_s (n 6 (40 * t.toInt.toNat + i)) 1000000; rw [(show (1000000 : Int64).toInt = 1000000 from rfl)] at hz; omega
          refine wp_iload C 6 dX12_auction_174 rfl ?_
          refine wp_iload_n C 3 dX12_auction_176 rfl rfl ?_
          refine wp_icmp_ne C 199 dX12_auction_177 (by decide) (fun c177 => ?_) (fun c177 => ?_)
          · have c177 : ¬ ((i : Nat) : Int) = bx.toInt := by have hcv := n_eq c177; rw [nI_toInt (show i < 2 ^ 31 by omega)] at hcv; exact hcv
            refine wp_iinc C 6 (nI (i + 1)) [(6, .int (nI (i + 1))), (0, .ref m), (1, .int t), (2, .int F), (3, .int bx), (4, .int p), (5, .int s)] dX12_auction_199 rfl (nI_1 i) (by decide) rfl ?_
            refine wp_goto C 139 dX12_auction_202 (by decide) ?_
            refine wp_lv [1, 2, 3, 4, 5, 6, 0] rfl ?_
            refine ih (i + 1) (by omega) (by omega) (fun j hj => ?_) _ rfl
            by_cases z : j = i
            · rw [z]; exact fun w9 => by have := hb.mp w9; omega
            · exact hno j (by omega)
          · have c177 : ((i : Nat) : Int) = bx.toInt := by have hcv := p_eq c177; rw [nI_toInt (show i < 2 ^ 31 by omega)] at hcv; exact hcv
            refine wp_aload_n C 0 dX12_auction_180 rfl rfl ?_
            refine wp_iload_n C 1 dX12_auction_181 rfl rfl ?_
            refine wp_iload C 6 dX12_auction_182 rfl ?_
            refine wp_cVl C (As := [.int t, .int (nI i)]) (rest := []) dX12_auction_184 kX12_auction_262 hM.ob (m_limit _ hM hX1.2 t (by omega) (i := i) rfl (by omega)) rfl (Nat.le_of_ble_eq_true rfl) (by decide) (by decide) ?_
            refine wp_iload_n C 2 dX12_auction_187 rfl rfl ?_
            refine wp_i2l C dX12_auction_188 ?_
            refine wp_lcmp C dX12_auction_189 ?_
            refine wp_if_ge C 199 dX12_auction_190 (by decide) (fun c190 => ?_) (fun c190 => ?_)
            · have c190 : F.toInt ≤ (n 6 (40 * t.toInt.toNat + i)).toInt := by have hcv : 0 ≤ (lg_cmp (n 6 (40 * t.toInt.toNat + i)) F.toInt64).toInt := p_le c190; have hz := lc_s (n 6 (40 * t.toInt.toNat + i)) F.toInt64; rw [(i2l_T F)] at hz; omega
              refine wp_iinc C 6 (nI (i + 1)) [(6, .int (nI (i + 1))), (0, .ref m), (1, .int t), (2, .int F), (3, .int bx), (4, .int p), (5, .int s)] dX12_auction_199 rfl (nI_1 i) (by decide) rfl ?_
              refine wp_goto C 139 dX12_auction_202 (by decide) ?_
              refine wp_lv [1, 2, 3, 4, 5, 6, 0] rfl ?_
              refine ih (i + 1) (by omega) (by omega) (fun j hj => ?_) _ rfl
              by_cases z : j = i
              · rw [z]; exact fun w9 => by have := hb.mp w9; omega
              · exact hno j (by omega)
            · have c190 : ¬ F.toInt ≤ (n 6 (40 * t.toInt.toNat + i)).toInt := by have hcv : ¬ 0 ≤ (lg_cmp (n 6 (40 * t.toInt.toNat + i)) F.toInt64).toInt := n_le c190; have hz := lc_s (n 6 (40 * t.toInt.toNat + i)) F.toInt64; rw [(i2l_T F)] at hz; omega
              refine wp_aload_n C 0 dX12_auction_193 rfl rfl ?_
              refine wp_iconst C 2 dX12_auction_194 (by decide) ?_
              refine wp_cVi C (As := [.int 2]) (rest := []) dX12_auction_195 kX12_auction_164 hM.ob (m_refuse _ hM 2) rfl (Nat.le_of_ble_eq_true rfl) (by decide) (by decide) ?_
              have hfi : ff (lmB n t.toInt.toNat bx F) (eN_ a) = i := ff_eq (by omega) (hb.mpr (by omega)) hno
              have hlm : lmO a n t.toInt.toNat bx F = 0 := by unfold lmO; rw [hfi, if_pos (by omega)]
              have hst : stAu a n t F bx p s = 2 := by simp only [stAu]; (repeat' split) <;> omega
              have hs0 : ¬ stAu a n t F bx p s = 0 := by rw [hst]; decide
              exact wp_iret C Z dX12_auction_198 (by decide) (by decide) ⟨by unfold vAu; rw [if_neg hs0], rfl, rfl, by unfold aAu; rw [if_neg hs0, hst]; exact MX.no hA hM 2⟩
  refine wp_aload_n C 0 dX12_auction_0 rfl rfl ?_
  refine wp_iconst C 0 dX12_auction_1 (by decide) ?_
  refine wp_putI C dX12_auction_2 pX12_auction_134 (fun h => nomatch h) hM.ob ?_
  refine wp_aload_n C 0 dX12_auction_5 rfl rfl ?_
  refine wp_iconst C 0 dX12_auction_6 (by decide) ?_
  refine wp_putI C dX12_auction_7 pX12_auction_137 (fun h => nomatch h) hM.ob ?_
  refine wp_iload_n C 1 dX12_auction_10 rfl rfl ?_
  refine wp_if_lt C 32 dX12_auction_11 (by decide) (fun c11 => ?_) (fun c11 => ?_)
  · have c11 : t.toInt < 0 := by have hcv := p_lt c11; exact hcv
    refine wp_aload_n C 0 dX12_auction_32 rfl rfl ?_
    refine wp_iconst C 1 dX12_auction_33 (by decide) ?_
    refine wp_cVi C (As := [.int 1]) (rest := []) dX12_auction_34 kX12_auction_164 hM.ob (m_refuse _ hM 1) rfl (Nat.le_of_ble_eq_true rfl) (by decide) (by decide) ?_
    have hst : stAu a n t F bx p s = 1 := by simp only [stAu]; (repeat' split) <;> omega
    have hs0 : ¬ stAu a n t F bx p s = 0 := by rw [hst]; decide
    exact wp_iret C Z dX12_auction_37 (by decide) (by decide) ⟨by unfold vAu; rw [if_neg hs0], rfl, rfl, by unfold aAu; rw [if_neg hs0, hst]; exact MX.no hA hM 1⟩
  · have c11 : ¬ t.toInt < 0 := by have hcv := n_lt c11; exact hcv
    refine wp_iload_n C 1 dX12_auction_14 rfl rfl ?_
    refine wp_iconst C 4 dX12_auction_15 (by decide) ?_
    refine wp_icmp_ge C 32 dX12_auction_16 (by decide) (fun c16 => ?_) (fun c16 => ?_)
    · have c16 : 4 ≤ t.toInt := by have hcv := p_le c16; exact hcv
      refine wp_aload_n C 0 dX12_auction_32 rfl rfl ?_
      refine wp_iconst C 1 dX12_auction_33 (by decide) ?_
      refine wp_cVi C (As := [.int 1]) (rest := []) dX12_auction_34 kX12_auction_164 hM.ob (m_refuse _ hM 1) rfl (Nat.le_of_ble_eq_true rfl) (by decide) (by decide) ?_
      have hst : stAu a n t F bx p s = 1 := by simp only [stAu]; (repeat' split) <;> omega
      have hs0 : ¬ stAu a n t F bx p s = 0 := by rw [hst]; decide
      exact wp_iret C Z dX12_auction_37 (by decide) (by decide) ⟨by unfold vAu; rw [if_neg hs0], rfl, rfl, by unfold aAu; rw [if_neg hs0, hst]; exact MX.no hA hM 1⟩
    · have c16 : ¬ 4 ≤ t.toInt := by have hcv := n_le c16; exact hcv
      refine wp_iload_n C 3 dX12_auction_19 rfl rfl ?_
      refine wp_iconst C (-1) dX12_auction_20 (by decide) ?_
      refine wp_icmp_eq C 38 dX12_auction_21 (by decide) (fun c21 => ?_) (fun c21 => ?_)
      · have c21 : bx.toInt = (-1) := by have hcv := p_eq c21; exact hcv
        refine wp_iload_n C 2 dX12_auction_38 rfl rfl ?_
        refine wp_if_lt C 96 dX12_auction_39 (by decide) (fun c39 => ?_) (fun c39 => ?_)
        · have c39 : F.toInt < 0 := by have hcv := p_lt c39; exact hcv
          refine wp_aload_n C 0 dX12_auction_96 rfl rfl ?_
          refine wp_iconst C 2 dX12_auction_97 (by decide) ?_
          refine wp_cVi C (As := [.int 2]) (rest := []) dX12_auction_98 kX12_auction_164 hM.ob (m_refuse _ hM 2) rfl (Nat.le_of_ble_eq_true rfl) (by decide) (by decide) ?_
          have hst : stAu a n t F bx p s = 2 := by simp only [stAu]; (repeat' split) <;> omega
          have hs0 : ¬ stAu a n t F bx p s = 0 := by rw [hst]; decide
          exact wp_iret C Z dX12_auction_101 (by decide) (by decide) ⟨by unfold vAu; rw [if_neg hs0], rfl, rfl, by unfold aAu; rw [if_neg hs0, hst]; exact MX.no hA hM 2⟩
        · have c39 : ¬ F.toInt < 0 := by have hcv := n_lt c39; exact hcv
          refine wp_iload_n C 2 dX12_auction_42 rfl rfl ?_
          refine wp_ldcw C 1000000 dX12_auction_43 (by decide +kernel) ?_
          refine wp_icmp_gt C 96 dX12_auction_46 (by decide) (fun c46 => ?_) (fun c46 => ?_)
          · have c46 : 1000000 < F.toInt := by have hcv := p_lt c46; exact hcv
            refine wp_aload_n C 0 dX12_auction_96 rfl rfl ?_
            refine wp_iconst C 2 dX12_auction_97 (by decide) ?_
            refine wp_cVi C (As := [.int 2]) (rest := []) dX12_auction_98 kX12_auction_164 hM.ob (m_refuse _ hM 2) rfl (Nat.le_of_ble_eq_true rfl) (by decide) (by decide) ?_
            have hst : stAu a n t F bx p s = 2 := by simp only [stAu]; (repeat' split) <;> omega
            have hs0 : ¬ stAu a n t F bx p s = 0 := by rw [hst]; decide
            exact wp_iret C Z dX12_auction_101 (by decide) (by decide) ⟨by unfold vAu; rw [if_neg hs0], rfl, rfl, by unfold aAu; rw [if_neg hs0, hst]; exact MX.no hA hM 2⟩
          · have c46 : ¬ 1000000 < F.toInt := by have hcv := n_lt c46; exact hcv
            refine wp_iload C 4 dX12_auction_49 rfl ?_
            refine wp_if_lt C 96 dX12_auction_51 (by decide) (fun c51 => ?_) (fun c51 => ?_)
            · have c51 : p.toInt < 0 := by have hcv := p_lt c51; exact hcv
              refine wp_aload_n C 0 dX12_auction_96 rfl rfl ?_
              refine wp_iconst C 2 dX12_auction_97 (by decide) ?_
              refine wp_cVi C (As := [.int 2]) (rest := []) dX12_auction_98 kX12_auction_164 hM.ob (m_refuse _ hM 2) rfl (Nat.le_of_ble_eq_true rfl) (by decide) (by decide) ?_
              have hst : stAu a n t F bx p s = 2 := by simp only [stAu]; (repeat' split) <;> omega
              have hs0 : ¬ stAu a n t F bx p s = 0 := by rw [hst]; decide
              exact wp_iret C Z dX12_auction_101 (by decide) (by decide) ⟨by unfold vAu; rw [if_neg hs0], rfl, rfl, by unfold aAu; rw [if_neg hs0, hst]; exact MX.no hA hM 2⟩
            · have c51 : ¬ p.toInt < 0 := by have hcv := n_lt c51; exact hcv
              refine wp_iload C 4 dX12_auction_54 rfl ?_
              refine wp_bipush C 50 dX12_auction_56 (by decide) ?_
              refine wp_icmp_gt C 96 dX12_auction_58 (by decide) (fun c58 => ?_) (fun c58 => ?_)
              · have c58 : 50 < p.toInt := by have hcv := p_lt c58; exact hcv
                refine wp_aload_n C 0 dX12_auction_96 rfl rfl ?_
                refine wp_iconst C 2 dX12_auction_97 (by decide) ?_
                refine wp_cVi C (As := [.int 2]) (rest := []) dX12_auction_98 kX12_auction_164 hM.ob (m_refuse _ hM 2) rfl (Nat.le_of_ble_eq_true rfl) (by decide) (by decide) ?_
                have hst : stAu a n t F bx p s = 2 := by simp only [stAu]; (repeat' split) <;> omega
                have hs0 : ¬ stAu a n t F bx p s = 0 := by rw [hst]; decide
                exact wp_iret C Z dX12_auction_101 (by decide) (by decide) ⟨by unfold vAu; rw [if_neg hs0], rfl, rfl, by unfold aAu; rw [if_neg hs0, hst]; exact MX.no hA hM 2⟩
              · have c58 : ¬ 50 < p.toInt := by have hcv := n_lt c58; exact hcv
                refine wp_iload C 5 dX12_auction_61 rfl ?_
                refine wp_iconst C 1 dX12_auction_63 (by decide) ?_
                refine wp_icmp_lt C 96 dX12_auction_64 (by decide) (fun c64 => ?_) (fun c64 => ?_)
                · have c64 : s.toInt < 1 := by have hcv := p_lt c64; exact hcv
                  refine wp_aload_n C 0 dX12_auction_96 rfl rfl ?_
                  refine wp_iconst C 2 dX12_auction_97 (by decide) ?_
                  refine wp_cVi C (As := [.int 2]) (rest := []) dX12_auction_98 kX12_auction_164 hM.ob (m_refuse _ hM 2) rfl (Nat.le_of_ble_eq_true rfl) (by decide) (by decide) ?_
                  have hst : stAu a n t F bx p s = 2 := by simp only [stAu]; (repeat' split) <;> omega
                  have hs0 : ¬ stAu a n t F bx p s = 0 := by rw [hst]; decide
                  exact wp_iret C Z dX12_auction_101 (by decide) (by decide) ⟨by unfold vAu; rw [if_neg hs0], rfl, rfl, by unfold aAu; rw [if_neg hs0, hst]; exact MX.no hA hM 2⟩
                · have c64 : ¬ s.toInt < 1 := by have hcv := n_lt c64; exact hcv
                  refine wp_iload C 5 dX12_auction_67 rfl ?_
                  refine wp_ldc C 100000 dX12_auction_69 (by decide +kernel) ?_
                  refine wp_icmp_gt C 96 dX12_auction_71 (by decide) (fun c71 => ?_) (fun c71 => ?_)
                  · have c71 : 100000 < s.toInt := by have hcv := p_lt c71; exact hcv
                    refine wp_aload_n C 0 dX12_auction_96 rfl rfl ?_
                    refine wp_iconst C 2 dX12_auction_97 (by decide) ?_
                    refine wp_cVi C (As := [.int 2]) (rest := []) dX12_auction_98 kX12_auction_164 hM.ob (m_refuse _ hM 2) rfl (Nat.le_of_ble_eq_true rfl) (by decide) (by decide) ?_
                    have hst : stAu a n t F bx p s = 2 := by simp only [stAu]; (repeat' split) <;> omega
                    have hs0 : ¬ stAu a n t F bx p s = 0 := by rw [hst]; decide
                    exact wp_iret C Z dX12_auction_101 (by decide) (by decide) ⟨by unfold vAu; rw [if_neg hs0], rfl, rfl, by unfold aAu; rw [if_neg hs0, hst]; exact MX.no hA hM 2⟩
                  · have c71 : ¬ 100000 < s.toInt := by have hcv := n_lt c71; exact hcv
                    refine wp_iload_n C 2 dX12_auction_74 rfl rfl ?_
                    refine wp_if_ne C 82 dX12_auction_75 (by decide) (fun c75 => ?_) (fun c75 => ?_)
                    · have c75 : ¬ F.toInt = 0 := by have hcv := n_eq c75; exact hcv
                      refine wp_iconst C 0 dX12_auction_82 (by decide) ?_
                      refine wp_iload_n C 3 dX12_auction_83 rfl rfl ?_
                      refine wp_iconst C (-1) dX12_auction_84 (by decide) ?_
                      refine wp_icmp_ne C 92 dX12_auction_85 (by decide) (fun c85 => ?_) (fun c85 => ?_)
                      · have c85 : ¬ bx.toInt = (-1) := by have hcv := n_eq c85; exact hcv
                        refine wp_iconst C 0 dX12_auction_92 (by decide) ?_
                        refine wp_icmp_eq C 102 dX12_auction_93 (by decide) (fun c93 => ?_) (fun c93 => ?_)
                        · refine wp_aload_n C 0 dX12_auction_102 rfl rfl ?_
                          refine wp_getR C dX12_auction_103 fX12_auction_17 hM.ob (hM.rf 5 rfl) ?_
                          refine wp_iload_n C 1 dX12_auction_106 rfl rfl ?_
                          refine wp_iald C dX12_auction_107 (hM.ar 5 rfl rfl) (j := t.toInt.toNat) (nI_nat (by omega)) (by omega) (by decide) ?_
                          refine wp_eqi (((u2_a _ _ _ _ (hM.nm 5 rfl) _).trans (u2_a _ _ _ _ (hM.nm 5 rfl) _)).trans (congrFun (hA.2.1 5 (by unfold mR; omega)) _)) ?_
                          refine wp_if_ge C 117 dX12_auction_108 (by decide) (fun c108 => ?_) (fun c108 => ?_)
                          · have c108 : 0 ≤ (a 5 t.toInt.toNat).toInt := by have hcv := p_le c108; exact hcv
                            refine wp_aload_n C 0 dX12_auction_117 rfl rfl ?_
                            refine wp_getR C dX12_auction_118 fX12_auction_17 hM.ob (hM.rf 5 rfl) ?_
                            refine wp_iload_n C 1 dX12_auction_121 rfl rfl ?_
                            refine wp_iald C dX12_auction_122 (hM.ar 5 rfl rfl) (j := t.toInt.toNat) (nI_nat (by omega)) (by omega) (by decide) ?_
                            refine wp_eqi (((u2_a _ _ _ _ (hM.nm 5 rfl) _).trans (u2_a _ _ _ _ (hM.nm 5 rfl) _)).trans (congrFun (hA.2.1 5 (by unfold mR; omega)) _)) ?_
                            refine wp_aload_n C 0 dX12_auction_123 rfl rfl ?_
                            refine wp_getI C dX12_auction_124 fX12_auction_161 hM.ob ?_
                            refine wp_eqi (((u2_k _ _ _ _ (by decide) _).trans (u2_k _ _ _ _ (by decide) _)).trans ((hA.1 8 (by decide)).trans e8)) ?_
                            refine wp_icmp_ge C 136 dX12_auction_127 (by decide) (fun c127 => ?_) (fun c127 => ?_)
                            · have c127 : (((eN_ a) : Nat) : Int) ≤ (a 5 t.toInt.toNat).toInt := by have hcv := p_le c127; rw [nI_toInt (show (eN_ a) < 2 ^ 31 by omega)] at hcv; exact hcv
                              refine wp_iconst C 0 dX12_auction_136 (by decide) ?_
                              refine wp_istore C [(6, .int 0), (0, .ref m), (1, .int t), (2, .int F), (3, .int bx), (4, .int p), (5, .int s)] dX12_auction_137 (by decide) rfl ?_
                              refine wp_lv [1, 2, 3, 4, 5, 6, 0] rfl ?_
                              exact lims (by omega) (by omega) (by omega) (by omega) 0 (by omega) (fun j hj => absurd hj (Nat.not_lt_zero j)) _ rfl
                            · have c127 : ¬ (((eN_ a) : Nat) : Int) ≤ (a 5 t.toInt.toNat).toInt := by have hcv := n_le c127; rw [nI_toInt (show (eN_ a) < 2 ^ 31 by omega)] at hcv; exact hcv
                              refine wp_aload_n C 0 dX12_auction_130 rfl rfl ?_
                              refine wp_iconst C 5 dX12_auction_131 (by decide) ?_
                              refine wp_cVi C (As := [.int 5]) (rest := []) dX12_auction_132 kX12_auction_164 hM.ob (m_refuse _ hM 5) rfl (Nat.le_of_ble_eq_true rfl) (by decide) (by decide) ?_
                              have hst : stAu a n t F bx p s = 5 := by simp only [stAu]; (repeat' split) <;> omega
                              have hs0 : ¬ stAu a n t F bx p s = 0 := by rw [hst]; decide
                              exact wp_iret C Z dX12_auction_135 (by decide) (by decide) ⟨by unfold vAu; rw [if_neg hs0], rfl, rfl, by unfold aAu; rw [if_neg hs0, hst]; exact MX.no hA hM 5⟩
                          · have c108 : ¬ 0 ≤ (a 5 t.toInt.toNat).toInt := by have hcv := n_le c108; exact hcv
                            refine wp_aload_n C 0 dX12_auction_111 rfl rfl ?_
                            refine wp_iconst C 4 dX12_auction_112 (by decide) ?_
                            refine wp_cVi C (As := [.int 4]) (rest := []) dX12_auction_113 kX12_auction_164 hM.ob (m_refuse _ hM 4) rfl (Nat.le_of_ble_eq_true rfl) (by decide) (by decide) ?_
                            have hst : stAu a n t F bx p s = 4 := by simp only [stAu]; (repeat' split) <;> omega
                            have hs0 : ¬ stAu a n t F bx p s = 0 := by rw [hst]; decide
                            exact wp_iret C Z dX12_auction_116 (by decide) (by decide) ⟨by unfold vAu; rw [if_neg hs0], rfl, rfl, by unfold aAu; rw [if_neg hs0, hst]; exact MX.no hA hM 4⟩
                        · exact absurd (by decide) c93
                      · have c85 : bx.toInt = (-1) := by have hcv := p_eq c85; exact hcv
                        refine wp_iconst C 1 dX12_auction_88 (by decide) ?_
                        refine wp_goto C 93 dX12_auction_89 (by decide) ?_
                        refine wp_icmp_eq C 102 dX12_auction_93 (by decide) (fun c93 => ?_) (fun c93 => ?_)
                        · exact absurd c93 (by decide)
                        · refine wp_aload_n C 0 dX12_auction_96 rfl rfl ?_
                          refine wp_iconst C 2 dX12_auction_97 (by decide) ?_
                          refine wp_cVi C (As := [.int 2]) (rest := []) dX12_auction_98 kX12_auction_164 hM.ob (m_refuse _ hM 2) rfl (Nat.le_of_ble_eq_true rfl) (by decide) (by decide) ?_
                          have hst : stAu a n t F bx p s = 2 := by simp only [stAu]; (repeat' split) <;> omega
                          have hs0 : ¬ stAu a n t F bx p s = 0 := by rw [hst]; decide
                          exact wp_iret C Z dX12_auction_101 (by decide) (by decide) ⟨by unfold vAu; rw [if_neg hs0], rfl, rfl, by unfold aAu; rw [if_neg hs0, hst]; exact MX.no hA hM 2⟩
                    · have c75 : F.toInt = 0 := by have hcv := p_eq c75; exact hcv
                      refine wp_iconst C 1 dX12_auction_78 (by decide) ?_
                      refine wp_goto C 83 dX12_auction_79 (by decide) ?_
                      refine wp_iload_n C 3 dX12_auction_83 rfl rfl ?_
                      refine wp_iconst C (-1) dX12_auction_84 (by decide) ?_
                      refine wp_icmp_ne C 92 dX12_auction_85 (by decide) (fun c85 => ?_) (fun c85 => ?_)
                      · have c85 : ¬ bx.toInt = (-1) := by have hcv := n_eq c85; exact hcv
                        refine wp_iconst C 0 dX12_auction_92 (by decide) ?_
                        refine wp_icmp_eq C 102 dX12_auction_93 (by decide) (fun c93 => ?_) (fun c93 => ?_)
                        · exact absurd c93 (by decide)
                        · refine wp_aload_n C 0 dX12_auction_96 rfl rfl ?_
                          refine wp_iconst C 2 dX12_auction_97 (by decide) ?_
                          refine wp_cVi C (As := [.int 2]) (rest := []) dX12_auction_98 kX12_auction_164 hM.ob (m_refuse _ hM 2) rfl (Nat.le_of_ble_eq_true rfl) (by decide) (by decide) ?_
                          have hst : stAu a n t F bx p s = 2 := by simp only [stAu]; (repeat' split) <;> omega
                          have hs0 : ¬ stAu a n t F bx p s = 0 := by rw [hst]; decide
                          exact wp_iret C Z dX12_auction_101 (by decide) (by decide) ⟨by unfold vAu; rw [if_neg hs0], rfl, rfl, by unfold aAu; rw [if_neg hs0, hst]; exact MX.no hA hM 2⟩
                      · have c85 : bx.toInt = (-1) := by have hcv := p_eq c85; exact hcv
                        refine wp_iconst C 1 dX12_auction_88 (by decide) ?_
                        refine wp_goto C 93 dX12_auction_89 (by decide) ?_
                        refine wp_icmp_eq C 102 dX12_auction_93 (by decide) (fun c93 => ?_) (fun c93 => ?_)
                        · refine wp_aload_n C 0 dX12_auction_102 rfl rfl ?_
                          refine wp_getR C dX12_auction_103 fX12_auction_17 hM.ob (hM.rf 5 rfl) ?_
                          refine wp_iload_n C 1 dX12_auction_106 rfl rfl ?_
                          refine wp_iald C dX12_auction_107 (hM.ar 5 rfl rfl) (j := t.toInt.toNat) (nI_nat (by omega)) (by omega) (by decide) ?_
                          refine wp_eqi (((u2_a _ _ _ _ (hM.nm 5 rfl) _).trans (u2_a _ _ _ _ (hM.nm 5 rfl) _)).trans (congrFun (hA.2.1 5 (by unfold mR; omega)) _)) ?_
                          refine wp_if_ge C 117 dX12_auction_108 (by decide) (fun c108 => ?_) (fun c108 => ?_)
                          · have c108 : 0 ≤ (a 5 t.toInt.toNat).toInt := by have hcv := p_le c108; exact hcv
                            refine wp_aload_n C 0 dX12_auction_117 rfl rfl ?_
                            refine wp_getR C dX12_auction_118 fX12_auction_17 hM.ob (hM.rf 5 rfl) ?_
                            refine wp_iload_n C 1 dX12_auction_121 rfl rfl ?_
                            refine wp_iald C dX12_auction_122 (hM.ar 5 rfl rfl) (j := t.toInt.toNat) (nI_nat (by omega)) (by omega) (by decide) ?_
                            refine wp_eqi (((u2_a _ _ _ _ (hM.nm 5 rfl) _).trans (u2_a _ _ _ _ (hM.nm 5 rfl) _)).trans (congrFun (hA.2.1 5 (by unfold mR; omega)) _)) ?_
                            refine wp_aload_n C 0 dX12_auction_123 rfl rfl ?_
                            refine wp_getI C dX12_auction_124 fX12_auction_161 hM.ob ?_
                            refine wp_eqi (((u2_k _ _ _ _ (by decide) _).trans (u2_k _ _ _ _ (by decide) _)).trans ((hA.1 8 (by decide)).trans e8)) ?_
                            refine wp_icmp_ge C 136 dX12_auction_127 (by decide) (fun c127 => ?_) (fun c127 => ?_)
                            · have c127 : (((eN_ a) : Nat) : Int) ≤ (a 5 t.toInt.toNat).toInt := by have hcv := p_le c127; rw [nI_toInt (show (eN_ a) < 2 ^ 31 by omega)] at hcv; exact hcv
                              refine wp_iconst C 0 dX12_auction_136 (by decide) ?_
                              refine wp_istore C [(6, .int 0), (0, .ref m), (1, .int t), (2, .int F), (3, .int bx), (4, .int p), (5, .int s)] dX12_auction_137 (by decide) rfl ?_
                              refine wp_lv [1, 2, 3, 4, 5, 6, 0] rfl ?_
                              exact lims (by omega) (by omega) (by omega) (by omega) 0 (by omega) (fun j hj => absurd hj (Nat.not_lt_zero j)) _ rfl
                            · have c127 : ¬ (((eN_ a) : Nat) : Int) ≤ (a 5 t.toInt.toNat).toInt := by have hcv := n_le c127; rw [nI_toInt (show (eN_ a) < 2 ^ 31 by omega)] at hcv; exact hcv
                              refine wp_aload_n C 0 dX12_auction_130 rfl rfl ?_
                              refine wp_iconst C 5 dX12_auction_131 (by decide) ?_
                              refine wp_cVi C (As := [.int 5]) (rest := []) dX12_auction_132 kX12_auction_164 hM.ob (m_refuse _ hM 5) rfl (Nat.le_of_ble_eq_true rfl) (by decide) (by decide) ?_
                              have hst : stAu a n t F bx p s = 5 := by simp only [stAu]; (repeat' split) <;> omega
                              have hs0 : ¬ stAu a n t F bx p s = 0 := by rw [hst]; decide
                              exact wp_iret C Z dX12_auction_135 (by decide) (by decide) ⟨by unfold vAu; rw [if_neg hs0], rfl, rfl, by unfold aAu; rw [if_neg hs0, hst]; exact MX.no hA hM 5⟩
                          · have c108 : ¬ 0 ≤ (a 5 t.toInt.toNat).toInt := by have hcv := n_le c108; exact hcv
                            refine wp_aload_n C 0 dX12_auction_111 rfl rfl ?_
                            refine wp_iconst C 4 dX12_auction_112 (by decide) ?_
                            refine wp_cVi C (As := [.int 4]) (rest := []) dX12_auction_113 kX12_auction_164 hM.ob (m_refuse _ hM 4) rfl (Nat.le_of_ble_eq_true rfl) (by decide) (by decide) ?_
                            have hst : stAu a n t F bx p s = 4 := by simp only [stAu]; (repeat' split) <;> omega
                            have hs0 : ¬ stAu a n t F bx p s = 0 := by rw [hst]; decide
                            exact wp_iret C Z dX12_auction_116 (by decide) (by decide) ⟨by unfold vAu; rw [if_neg hs0], rfl, rfl, by unfold aAu; rw [if_neg hs0, hst]; exact MX.no hA hM 4⟩
                        · exact absurd (by decide) c93
      · have c21 : ¬ bx.toInt = (-1) := by have hcv := n_eq c21; exact hcv
        refine wp_aload_n C 0 dX12_auction_24 rfl rfl ?_
        refine wp_iload_n C 3 dX12_auction_25 rfl rfl ?_
        refine wp_cVi C (As := [.int bx]) (rest := []) dX12_auction_26 kX12_auction_170 hM.ob (m_isEditor _ hM bx) rfl (Nat.le_of_ble_eq_true rfl) (by decide) (by decide) ?_
        refine wp_eqi (congrArg (fun z : Int32 => bI (0 ≤ bx.toInt ∧ bx.toInt < z.toInt)) (((u2_k _ _ _ _ (by decide) _).trans (u2_k _ _ _ _ (by decide) _)).trans (hA.1 8 (by decide)))) ?_
        refine wp_if_ne C 38 dX12_auction_29 (by decide) (fun c29 => ?_) (fun c29 => ?_)
        · have c29 : (0 ≤ bx.toInt ∧ bx.toInt < (a 0 8).toInt) := Classical.byContradiction (fun z => c29 (bI_f z))
          refine wp_iload_n C 2 dX12_auction_38 rfl rfl ?_
          refine wp_if_lt C 96 dX12_auction_39 (by decide) (fun c39 => ?_) (fun c39 => ?_)
          · have c39 : F.toInt < 0 := by have hcv := p_lt c39; exact hcv
            refine wp_aload_n C 0 dX12_auction_96 rfl rfl ?_
            refine wp_iconst C 2 dX12_auction_97 (by decide) ?_
            refine wp_cVi C (As := [.int 2]) (rest := []) dX12_auction_98 kX12_auction_164 hM.ob (m_refuse _ hM 2) rfl (Nat.le_of_ble_eq_true rfl) (by decide) (by decide) ?_
            have hst : stAu a n t F bx p s = 2 := by simp only [stAu]; (repeat' split) <;> omega
            have hs0 : ¬ stAu a n t F bx p s = 0 := by rw [hst]; decide
            exact wp_iret C Z dX12_auction_101 (by decide) (by decide) ⟨by unfold vAu; rw [if_neg hs0], rfl, rfl, by unfold aAu; rw [if_neg hs0, hst]; exact MX.no hA hM 2⟩
          · have c39 : ¬ F.toInt < 0 := by have hcv := n_lt c39; exact hcv
            refine wp_iload_n C 2 dX12_auction_42 rfl rfl ?_
            refine wp_ldcw C 1000000 dX12_auction_43 (by decide +kernel) ?_
            refine wp_icmp_gt C 96 dX12_auction_46 (by decide) (fun c46 => ?_) (fun c46 => ?_)
            · have c46 : 1000000 < F.toInt := by have hcv := p_lt c46; exact hcv
              refine wp_aload_n C 0 dX12_auction_96 rfl rfl ?_
              refine wp_iconst C 2 dX12_auction_97 (by decide) ?_
              refine wp_cVi C (As := [.int 2]) (rest := []) dX12_auction_98 kX12_auction_164 hM.ob (m_refuse _ hM 2) rfl (Nat.le_of_ble_eq_true rfl) (by decide) (by decide) ?_
              have hst : stAu a n t F bx p s = 2 := by simp only [stAu]; (repeat' split) <;> omega
              have hs0 : ¬ stAu a n t F bx p s = 0 := by rw [hst]; decide
              exact wp_iret C Z dX12_auction_101 (by decide) (by decide) ⟨by unfold vAu; rw [if_neg hs0], rfl, rfl, by unfold aAu; rw [if_neg hs0, hst]; exact MX.no hA hM 2⟩
            · have c46 : ¬ 1000000 < F.toInt := by have hcv := n_lt c46; exact hcv
              refine wp_iload C 4 dX12_auction_49 rfl ?_
              refine wp_if_lt C 96 dX12_auction_51 (by decide) (fun c51 => ?_) (fun c51 => ?_)
              · have c51 : p.toInt < 0 := by have hcv := p_lt c51; exact hcv
                refine wp_aload_n C 0 dX12_auction_96 rfl rfl ?_
                refine wp_iconst C 2 dX12_auction_97 (by decide) ?_
                refine wp_cVi C (As := [.int 2]) (rest := []) dX12_auction_98 kX12_auction_164 hM.ob (m_refuse _ hM 2) rfl (Nat.le_of_ble_eq_true rfl) (by decide) (by decide) ?_
                have hst : stAu a n t F bx p s = 2 := by simp only [stAu]; (repeat' split) <;> omega
                have hs0 : ¬ stAu a n t F bx p s = 0 := by rw [hst]; decide
                exact wp_iret C Z dX12_auction_101 (by decide) (by decide) ⟨by unfold vAu; rw [if_neg hs0], rfl, rfl, by unfold aAu; rw [if_neg hs0, hst]; exact MX.no hA hM 2⟩
              · have c51 : ¬ p.toInt < 0 := by have hcv := n_lt c51; exact hcv
                refine wp_iload C 4 dX12_auction_54 rfl ?_
                refine wp_bipush C 50 dX12_auction_56 (by decide) ?_
                refine wp_icmp_gt C 96 dX12_auction_58 (by decide) (fun c58 => ?_) (fun c58 => ?_)
                · have c58 : 50 < p.toInt := by have hcv := p_lt c58; exact hcv
                  refine wp_aload_n C 0 dX12_auction_96 rfl rfl ?_
                  refine wp_iconst C 2 dX12_auction_97 (by decide) ?_
                  refine wp_cVi C (As := [.int 2]) (rest := []) dX12_auction_98 kX12_auction_164 hM.ob (m_refuse _ hM 2) rfl (Nat.le_of_ble_eq_true rfl) (by decide) (by decide) ?_
                  have hst : stAu a n t F bx p s = 2 := by simp only [stAu]; (repeat' split) <;> omega
                  have hs0 : ¬ stAu a n t F bx p s = 0 := by rw [hst]; decide
                  exact wp_iret C Z dX12_auction_101 (by decide) (by decide) ⟨by unfold vAu; rw [if_neg hs0], rfl, rfl, by unfold aAu; rw [if_neg hs0, hst]; exact MX.no hA hM 2⟩
                · have c58 : ¬ 50 < p.toInt := by have hcv := n_lt c58; exact hcv
                  refine wp_iload C 5 dX12_auction_61 rfl ?_
                  refine wp_iconst C 1 dX12_auction_63 (by decide) ?_
                  refine wp_icmp_lt C 96 dX12_auction_64 (by decide) (fun c64 => ?_) (fun c64 => ?_)
                  · have c64 : s.toInt < 1 := by have hcv := p_lt c64; exact hcv
                    refine wp_aload_n C 0 dX12_auction_96 rfl rfl ?_
                    refine wp_iconst C 2 dX12_auction_97 (by decide) ?_
                    refine wp_cVi C (As := [.int 2]) (rest := []) dX12_auction_98 kX12_auction_164 hM.ob (m_refuse _ hM 2) rfl (Nat.le_of_ble_eq_true rfl) (by decide) (by decide) ?_
                    have hst : stAu a n t F bx p s = 2 := by simp only [stAu]; (repeat' split) <;> omega
                    have hs0 : ¬ stAu a n t F bx p s = 0 := by rw [hst]; decide
                    exact wp_iret C Z dX12_auction_101 (by decide) (by decide) ⟨by unfold vAu; rw [if_neg hs0], rfl, rfl, by unfold aAu; rw [if_neg hs0, hst]; exact MX.no hA hM 2⟩
                  · have c64 : ¬ s.toInt < 1 := by have hcv := n_lt c64; exact hcv
                    refine wp_iload C 5 dX12_auction_67 rfl ?_
                    refine wp_ldc C 100000 dX12_auction_69 (by decide +kernel) ?_
                    refine wp_icmp_gt C 96 dX12_auction_71 (by decide) (fun c71 => ?_) (fun c71 => ?_)
                    · have c71 : 100000 < s.toInt := by have hcv := p_lt c71; exact hcv
                      refine wp_aload_n C 0 dX12_auction_96 rfl rfl ?_
                      refine wp_iconst C 2 dX12_auction_97 (by decide) ?_
                      refine wp_cVi C (As := [.int 2]) (rest := []) dX12_auction_98 kX12_auction_164 hM.ob (m_refuse _ hM 2) rfl (Nat.le_of_ble_eq_true rfl) (by decide) (by decide) ?_
                      have hst : stAu a n t F bx p s = 2 := by simp only [stAu]; (repeat' split) <;> omega
                      have hs0 : ¬ stAu a n t F bx p s = 0 := by rw [hst]; decide
                      exact wp_iret C Z dX12_auction_101 (by decide) (by decide) ⟨by unfold vAu; rw [if_neg hs0], rfl, rfl, by unfold aAu; rw [if_neg hs0, hst]; exact MX.no hA hM 2⟩
                    · have c71 : ¬ 100000 < s.toInt := by have hcv := n_lt c71; exact hcv
                      refine wp_iload_n C 2 dX12_auction_74 rfl rfl ?_
                      refine wp_if_ne C 82 dX12_auction_75 (by decide) (fun c75 => ?_) (fun c75 => ?_)
                      · have c75 : ¬ F.toInt = 0 := by have hcv := n_eq c75; exact hcv
                        refine wp_iconst C 0 dX12_auction_82 (by decide) ?_
                        refine wp_iload_n C 3 dX12_auction_83 rfl rfl ?_
                        refine wp_iconst C (-1) dX12_auction_84 (by decide) ?_
                        refine wp_icmp_ne C 92 dX12_auction_85 (by decide) (fun c85 => ?_) (fun c85 => ?_)
                        · have c85 : ¬ bx.toInt = (-1) := by have hcv := n_eq c85; exact hcv
                          refine wp_iconst C 0 dX12_auction_92 (by decide) ?_
                          refine wp_icmp_eq C 102 dX12_auction_93 (by decide) (fun c93 => ?_) (fun c93 => ?_)
                          · refine wp_aload_n C 0 dX12_auction_102 rfl rfl ?_
                            refine wp_getR C dX12_auction_103 fX12_auction_17 hM.ob (hM.rf 5 rfl) ?_
                            refine wp_iload_n C 1 dX12_auction_106 rfl rfl ?_
                            refine wp_iald C dX12_auction_107 (hM.ar 5 rfl rfl) (j := t.toInt.toNat) (nI_nat (by omega)) (by omega) (by decide) ?_
                            refine wp_eqi (((u2_a _ _ _ _ (hM.nm 5 rfl) _).trans (u2_a _ _ _ _ (hM.nm 5 rfl) _)).trans (congrFun (hA.2.1 5 (by unfold mR; omega)) _)) ?_
                            refine wp_if_ge C 117 dX12_auction_108 (by decide) (fun c108 => ?_) (fun c108 => ?_)
                            · have c108 : 0 ≤ (a 5 t.toInt.toNat).toInt := by have hcv := p_le c108; exact hcv
                              refine wp_aload_n C 0 dX12_auction_117 rfl rfl ?_
                              refine wp_getR C dX12_auction_118 fX12_auction_17 hM.ob (hM.rf 5 rfl) ?_
                              refine wp_iload_n C 1 dX12_auction_121 rfl rfl ?_
                              refine wp_iald C dX12_auction_122 (hM.ar 5 rfl rfl) (j := t.toInt.toNat) (nI_nat (by omega)) (by omega) (by decide) ?_
                              refine wp_eqi (((u2_a _ _ _ _ (hM.nm 5 rfl) _).trans (u2_a _ _ _ _ (hM.nm 5 rfl) _)).trans (congrFun (hA.2.1 5 (by unfold mR; omega)) _)) ?_
                              refine wp_aload_n C 0 dX12_auction_123 rfl rfl ?_
                              refine wp_getI C dX12_auction_124 fX12_auction_161 hM.ob ?_
                              refine wp_eqi (((u2_k _ _ _ _ (by decide) _).trans (u2_k _ _ _ _ (by decide) _)).trans ((hA.1 8 (by decide)).trans e8)) ?_
                              refine wp_icmp_ge C 136 dX12_auction_127 (by decide) (fun c127 => ?_) (fun c127 => ?_)
                              · have c127 : (((eN_ a) : Nat) : Int) ≤ (a 5 t.toInt.toNat).toInt := by have hcv := p_le c127; rw [nI_toInt (show (eN_ a) < 2 ^ 31 by omega)] at hcv; exact hcv
                                refine wp_iconst C 0 dX12_auction_136 (by decide) ?_
                                refine wp_istore C [(6, .int 0), (0, .ref m), (1, .int t), (2, .int F), (3, .int bx), (4, .int p), (5, .int s)] dX12_auction_137 (by decide) rfl ?_
                                refine wp_lv [1, 2, 3, 4, 5, 6, 0] rfl ?_
                                exact lims (by omega) (by omega) (by omega) (by omega) 0 (by omega) (fun j hj => absurd hj (Nat.not_lt_zero j)) _ rfl
                              · have c127 : ¬ (((eN_ a) : Nat) : Int) ≤ (a 5 t.toInt.toNat).toInt := by have hcv := n_le c127; rw [nI_toInt (show (eN_ a) < 2 ^ 31 by omega)] at hcv; exact hcv
                                refine wp_aload_n C 0 dX12_auction_130 rfl rfl ?_
                                refine wp_iconst C 5 dX12_auction_131 (by decide) ?_
                                refine wp_cVi C (As := [.int 5]) (rest := []) dX12_auction_132 kX12_auction_164 hM.ob (m_refuse _ hM 5) rfl (Nat.le_of_ble_eq_true rfl) (by decide) (by decide) ?_
                                have hst : stAu a n t F bx p s = 5 := by simp only [stAu]; (repeat' split) <;> omega
                                have hs0 : ¬ stAu a n t F bx p s = 0 := by rw [hst]; decide
                                exact wp_iret C Z dX12_auction_135 (by decide) (by decide) ⟨by unfold vAu; rw [if_neg hs0], rfl, rfl, by unfold aAu; rw [if_neg hs0, hst]; exact MX.no hA hM 5⟩
                            · have c108 : ¬ 0 ≤ (a 5 t.toInt.toNat).toInt := by have hcv := n_le c108; exact hcv
                              refine wp_aload_n C 0 dX12_auction_111 rfl rfl ?_
                              refine wp_iconst C 4 dX12_auction_112 (by decide) ?_
                              refine wp_cVi C (As := [.int 4]) (rest := []) dX12_auction_113 kX12_auction_164 hM.ob (m_refuse _ hM 4) rfl (Nat.le_of_ble_eq_true rfl) (by decide) (by decide) ?_
                              have hst : stAu a n t F bx p s = 4 := by simp only [stAu]; (repeat' split) <;> omega
                              have hs0 : ¬ stAu a n t F bx p s = 0 := by rw [hst]; decide
                              exact wp_iret C Z dX12_auction_116 (by decide) (by decide) ⟨by unfold vAu; rw [if_neg hs0], rfl, rfl, by unfold aAu; rw [if_neg hs0, hst]; exact MX.no hA hM 4⟩
                          · exact absurd (by decide) c93
                        · have c85 : bx.toInt = (-1) := by have hcv := p_eq c85; exact hcv
                          refine wp_iconst C 1 dX12_auction_88 (by decide) ?_
                          refine wp_goto C 93 dX12_auction_89 (by decide) ?_
                          refine wp_icmp_eq C 102 dX12_auction_93 (by decide) (fun c93 => ?_) (fun c93 => ?_)
                          · exact absurd c93 (by decide)
                          · refine wp_aload_n C 0 dX12_auction_96 rfl rfl ?_
                            refine wp_iconst C 2 dX12_auction_97 (by decide) ?_
                            refine wp_cVi C (As := [.int 2]) (rest := []) dX12_auction_98 kX12_auction_164 hM.ob (m_refuse _ hM 2) rfl (Nat.le_of_ble_eq_true rfl) (by decide) (by decide) ?_
                            have hst : stAu a n t F bx p s = 2 := by simp only [stAu]; (repeat' split) <;> omega
                            have hs0 : ¬ stAu a n t F bx p s = 0 := by rw [hst]; decide
                            exact wp_iret C Z dX12_auction_101 (by decide) (by decide) ⟨by unfold vAu; rw [if_neg hs0], rfl, rfl, by unfold aAu; rw [if_neg hs0, hst]; exact MX.no hA hM 2⟩
                      · have c75 : F.toInt = 0 := by have hcv := p_eq c75; exact hcv
                        refine wp_iconst C 1 dX12_auction_78 (by decide) ?_
                        refine wp_goto C 83 dX12_auction_79 (by decide) ?_
                        refine wp_iload_n C 3 dX12_auction_83 rfl rfl ?_
                        refine wp_iconst C (-1) dX12_auction_84 (by decide) ?_
                        refine wp_icmp_ne C 92 dX12_auction_85 (by decide) (fun c85 => ?_) (fun c85 => ?_)
                        · have c85 : ¬ bx.toInt = (-1) := by have hcv := n_eq c85; exact hcv
                          refine wp_iconst C 0 dX12_auction_92 (by decide) ?_
                          refine wp_icmp_eq C 102 dX12_auction_93 (by decide) (fun c93 => ?_) (fun c93 => ?_)
                          · exact absurd c93 (by decide)
                          · refine wp_aload_n C 0 dX12_auction_96 rfl rfl ?_
                            refine wp_iconst C 2 dX12_auction_97 (by decide) ?_
                            refine wp_cVi C (As := [.int 2]) (rest := []) dX12_auction_98 kX12_auction_164 hM.ob (m_refuse _ hM 2) rfl (Nat.le_of_ble_eq_true rfl) (by decide) (by decide) ?_
                            have hst : stAu a n t F bx p s = 2 := by simp only [stAu]; (repeat' split) <;> omega
                            have hs0 : ¬ stAu a n t F bx p s = 0 := by rw [hst]; decide
                            exact wp_iret C Z dX12_auction_101 (by decide) (by decide) ⟨by unfold vAu; rw [if_neg hs0], rfl, rfl, by unfold aAu; rw [if_neg hs0, hst]; exact MX.no hA hM 2⟩
                        · have c85 : bx.toInt = (-1) := by have hcv := p_eq c85; exact hcv
                          refine wp_iconst C 1 dX12_auction_88 (by decide) ?_
                          refine wp_goto C 93 dX12_auction_89 (by decide) ?_
                          refine wp_icmp_eq C 102 dX12_auction_93 (by decide) (fun c93 => ?_) (fun c93 => ?_)
                          · refine wp_aload_n C 0 dX12_auction_102 rfl rfl ?_
                            refine wp_getR C dX12_auction_103 fX12_auction_17 hM.ob (hM.rf 5 rfl) ?_
                            refine wp_iload_n C 1 dX12_auction_106 rfl rfl ?_
                            refine wp_iald C dX12_auction_107 (hM.ar 5 rfl rfl) (j := t.toInt.toNat) (nI_nat (by omega)) (by omega) (by decide) ?_
                            refine wp_eqi (((u2_a _ _ _ _ (hM.nm 5 rfl) _).trans (u2_a _ _ _ _ (hM.nm 5 rfl) _)).trans (congrFun (hA.2.1 5 (by unfold mR; omega)) _)) ?_
                            refine wp_if_ge C 117 dX12_auction_108 (by decide) (fun c108 => ?_) (fun c108 => ?_)
                            · have c108 : 0 ≤ (a 5 t.toInt.toNat).toInt := by have hcv := p_le c108; exact hcv
                              refine wp_aload_n C 0 dX12_auction_117 rfl rfl ?_
                              refine wp_getR C dX12_auction_118 fX12_auction_17 hM.ob (hM.rf 5 rfl) ?_
                              refine wp_iload_n C 1 dX12_auction_121 rfl rfl ?_
                              refine wp_iald C dX12_auction_122 (hM.ar 5 rfl rfl) (j := t.toInt.toNat) (nI_nat (by omega)) (by omega) (by decide) ?_
                              refine wp_eqi (((u2_a _ _ _ _ (hM.nm 5 rfl) _).trans (u2_a _ _ _ _ (hM.nm 5 rfl) _)).trans (congrFun (hA.2.1 5 (by unfold mR; omega)) _)) ?_
                              refine wp_aload_n C 0 dX12_auction_123 rfl rfl ?_
                              refine wp_getI C dX12_auction_124 fX12_auction_161 hM.ob ?_
                              refine wp_eqi (((u2_k _ _ _ _ (by decide) _).trans (u2_k _ _ _ _ (by decide) _)).trans ((hA.1 8 (by decide)).trans e8)) ?_
                              refine wp_icmp_ge C 136 dX12_auction_127 (by decide) (fun c127 => ?_) (fun c127 => ?_)
                              · have c127 : (((eN_ a) : Nat) : Int) ≤ (a 5 t.toInt.toNat).toInt := by have hcv := p_le c127; rw [nI_toInt (show (eN_ a) < 2 ^ 31 by omega)] at hcv; exact hcv
                                refine wp_iconst C 0 dX12_auction_136 (by decide) ?_
                                refine wp_istore C [(6, .int 0), (0, .ref m), (1, .int t), (2, .int F), (3, .int bx), (4, .int p), (5, .int s)] dX12_auction_137 (by decide) rfl ?_
                                refine wp_lv [1, 2, 3, 4, 5, 6, 0] rfl ?_
                                exact lims (by omega) (by omega) (by omega) (by omega) 0 (by omega) (fun j hj => absurd hj (Nat.not_lt_zero j)) _ rfl
                              · have c127 : ¬ (((eN_ a) : Nat) : Int) ≤ (a 5 t.toInt.toNat).toInt := by have hcv := n_le c127; rw [nI_toInt (show (eN_ a) < 2 ^ 31 by omega)] at hcv; exact hcv
                                refine wp_aload_n C 0 dX12_auction_130 rfl rfl ?_
                                refine wp_iconst C 5 dX12_auction_131 (by decide) ?_
                                refine wp_cVi C (As := [.int 5]) (rest := []) dX12_auction_132 kX12_auction_164 hM.ob (m_refuse _ hM 5) rfl (Nat.le_of_ble_eq_true rfl) (by decide) (by decide) ?_
                                have hst : stAu a n t F bx p s = 5 := by simp only [stAu]; (repeat' split) <;> omega
                                have hs0 : ¬ stAu a n t F bx p s = 0 := by rw [hst]; decide
                                exact wp_iret C Z dX12_auction_135 (by decide) (by decide) ⟨by unfold vAu; rw [if_neg hs0], rfl, rfl, by unfold aAu; rw [if_neg hs0, hst]; exact MX.no hA hM 5⟩
                            · have c108 : ¬ 0 ≤ (a 5 t.toInt.toNat).toInt := by have hcv := n_le c108; exact hcv
                              refine wp_aload_n C 0 dX12_auction_111 rfl rfl ?_
                              refine wp_iconst C 4 dX12_auction_112 (by decide) ?_
                              refine wp_cVi C (As := [.int 4]) (rest := []) dX12_auction_113 kX12_auction_164 hM.ob (m_refuse _ hM 4) rfl (Nat.le_of_ble_eq_true rfl) (by decide) (by decide) ?_
                              have hst : stAu a n t F bx p s = 4 := by simp only [stAu]; (repeat' split) <;> omega
                              have hs0 : ¬ stAu a n t F bx p s = 0 := by rw [hst]; decide
                              exact wp_iret C Z dX12_auction_116 (by decide) (by decide) ⟨by unfold vAu; rw [if_neg hs0], rfl, rfl, by unfold aAu; rw [if_neg hs0, hst]; exact MX.no hA hM 4⟩
                          · exact absurd (by decide) c93
        · have c29 : ¬ (0 ≤ bx.toInt ∧ bx.toInt < (a 0 8).toInt) := fun z => absurd ((bI_t z).symm.trans c29) (by decide)
          refine wp_aload_n C 0 dX12_auction_32 rfl rfl ?_
          refine wp_iconst C 1 dX12_auction_33 (by decide) ?_
          refine wp_cVi C (As := [.int 1]) (rest := []) dX12_auction_34 kX12_auction_164 hM.ob (m_refuse _ hM 1) rfl (Nat.le_of_ble_eq_true rfl) (by decide) (by decide) ?_
          have hst : stAu a n t F bx p s = 1 := by simp only [stAu]; (repeat' split) <;> omega
          have hs0 : ¬ stAu a n t F bx p s = 0 := by rw [hst]; decide
          exact wp_iret C Z dX12_auction_37 (by decide) (by decide) ⟨by unfold vAu; rw [if_neg hs0], rfl, rfl, by unfold aAu; rw [if_neg hs0, hst]; exact MX.no hA hM 1⟩
set_option maxRecDepth 100000 in
set_option maxHeartbeats 4000000 in
theorem m_sold (l : Launch) {T : gSh} {I : gI} {J : gJ} {R : gR} {m : Nat} {ad : Nat → Nat} (hM : MO T R m ad) {a : gI} {n : gJ} (hA : MA I J m ad a n) (w : Int32) : Con l yX12_sold wsX12_sold ({ frames := 1, cells := 0, slots := 0, locals := 21 }) [.ref m, .int w] T I J R (PZ T I J R m ad (.int (vSo a w)) (u2 a 0 0 (nI (stSo a w))) n) := by
  refine Con.mk (cc := cX12_sold) (maxL := 2) (ret := (some .int)) (by decide) rfl (Nat.le_of_ble_eq_true rfl) ?_
  intro E hE C Z hnm
  subst hE
  change WP E 2 0 0 T I J R 0 [(0, .ref m), (1, .int w)] []
  have hX1 := ((MX.i hA).t hM 0).f hM 0 0
  refine wp_aload_n C 0 dX12_sold_0 rfl rfl ?_
  refine wp_iconst C 0 dX12_sold_1 (by decide) ?_
  refine wp_putI C dX12_sold_2 pX12_sold_134 (fun h => nomatch h) hM.ob ?_
  refine wp_aload_n C 0 dX12_sold_5 rfl rfl ?_
  refine wp_iconst C 0 dX12_sold_6 (by decide) ?_
  refine wp_putI C dX12_sold_7 pX12_sold_137 (fun h => nomatch h) hM.ob ?_
  refine wp_iload_n C 1 dX12_sold_10 rfl rfl ?_
  refine wp_if_lt C 19 dX12_sold_11 (by decide) (fun c11 => ?_) (fun c11 => ?_)
  · have c11 : w.toInt < 0 := by have hcv := p_lt c11; exact hcv
    refine wp_aload_n C 0 dX12_sold_19 rfl rfl ?_
    refine wp_iconst C 2 dX12_sold_20 (by decide) ?_
    refine wp_cVi C (As := [.int 2]) (rest := []) dX12_sold_21 kX12_sold_164 hM.ob (m_refuse _ hM 2) rfl (Nat.le_of_ble_eq_true rfl) (by decide) (by decide) ?_
    have hst : stSo a w = 2 := by simp only [stSo]; (repeat' split) <;> omega
    exact wp_iret C Z dX12_sold_24 (by decide) (by decide) ⟨by unfold vSo; rw [hst]; rfl, rfl, rfl, by rw [hst]; exact MX.no hA hM 2⟩
  · have c11 : ¬ w.toInt < 0 := by have hcv := n_lt c11; exact hcv
    refine wp_iload_n C 1 dX12_sold_14 rfl rfl ?_
    refine wp_iconst C 2 dX12_sold_15 (by decide) ?_
    refine wp_icmp_le C 25 dX12_sold_16 (by decide) (fun c16 => ?_) (fun c16 => ?_)
    · have c16 : w.toInt ≤ 2 := by have hcv := p_le c16; exact hcv
      refine wp_aload_n C 0 dX12_sold_25 rfl rfl ?_
      refine wp_getI C dX12_sold_26 fX12_sold_276 hM.ob ?_
      refine wp_eqi (((u2_k _ _ _ _ (by decide) _).trans (u2_k _ _ _ _ (by decide) _)).trans (hA.1 49 (by decide))) ?_
      refine wp_if_ne C 39 dX12_sold_29 (by decide) (fun c29 => ?_) (fun c29 => ?_)
      · have c29 : ¬ (a 0 49).toInt = 0 := by have hcv := n_eq c29; exact hcv
        refine wp_iload_n C 1 dX12_sold_39 rfl rfl ?_
        refine wp_if_ne C 50 dX12_sold_40 (by decide) (fun c40 => ?_) (fun c40 => ?_)
        · have c40 : ¬ w.toInt = 0 := by have hcv := n_eq c40; exact hcv
          refine wp_iload_n C 1 dX12_sold_50 rfl rfl ?_
          refine wp_iconst C 1 dX12_sold_51 (by decide) ?_
          refine wp_icmp_ne C 62 dX12_sold_52 (by decide) (fun c52 => ?_) (fun c52 => ?_)
          · have c52 : ¬ w.toInt = 1 := by have hcv := n_eq c52; exact hcv
            refine wp_aload_n C 0 dX12_sold_62 rfl rfl ?_
            refine wp_getI C dX12_sold_63 fX12_sold_272 hM.ob ?_
            refine wp_eqi (((u2_k _ _ _ _ (by decide) _).trans (u2_k _ _ _ _ (by decide) _)).trans (hA.1 50 (by decide))) ?_
            refine wp_if_eq C 73 dX12_sold_66 (by decide) (fun c66 => ?_) (fun c66 => ?_)
            · have c66 : (a 0 50).toInt = 0 := by have hcv := p_eq c66; exact hcv
              refine wp_iconst C 0 dX12_sold_73 (by decide) ?_
              have hst : stSo a w = 0 := by simp only [stSo]; (repeat' split) <;> omega
              have hv : vSo a w = 0 := by simp only [vSo]; rw [if_pos hst]; (repeat' split) <;> first | rfl | (exfalso; omega)
              exact wp_iret C Z dX12_sold_74 (by decide) (by decide) ⟨by rw [hv], rfl, rfl, by rw [hst]; exact hX1⟩
            · have c66 : ¬ (a 0 50).toInt = 0 := by have hcv := n_eq c66; exact hcv
              refine wp_iconst C 1 dX12_sold_69 (by decide) ?_
              refine wp_goto C 74 dX12_sold_70 (by decide) ?_
              have hst : stSo a w = 0 := by simp only [stSo]; (repeat' split) <;> omega
              have hv : vSo a w = 1 := by simp only [vSo]; rw [if_pos hst]; (repeat' split) <;> first | rfl | (exfalso; omega)
              exact wp_iret C Z dX12_sold_74 (by decide) (by decide) ⟨by rw [hv], rfl, rfl, by rw [hst]; exact hX1⟩
          · have c52 : w.toInt = 1 := by have hcv := p_eq c52; exact hcv
            refine wp_aload_n C 0 dX12_sold_55 rfl rfl ?_
            refine wp_getI C dX12_sold_56 fX12_sold_279 hM.ob ?_
            refine wp_eqi (((u2_k _ _ _ _ (by decide) _).trans (u2_k _ _ _ _ (by decide) _)).trans (hA.1 52 (by decide))) ?_
            refine wp_goto C 74 dX12_sold_59 (by decide) ?_
            have hst : stSo a w = 0 := by simp only [stSo]; (repeat' split) <;> omega
            have hv : vSo a w = a 0 52 := by simp only [vSo]; rw [if_pos hst]; (repeat' split) <;> first | rfl | (exfalso; omega)
            exact wp_iret C Z dX12_sold_74 (by decide) (by decide) ⟨by rw [hv], rfl, rfl, by rw [hst]; exact hX1⟩
        · have c40 : w.toInt = 0 := by have hcv := p_eq c40; exact hcv
          refine wp_aload_n C 0 dX12_sold_43 rfl rfl ?_
          refine wp_getI C dX12_sold_44 fX12_sold_282 hM.ob ?_
          refine wp_eqi (((u2_k _ _ _ _ (by decide) _).trans (u2_k _ _ _ _ (by decide) _)).trans (hA.1 51 (by decide))) ?_
          refine wp_goto C 74 dX12_sold_47 (by decide) ?_
          have hst : stSo a w = 0 := by simp only [stSo]; (repeat' split) <;> omega
          have hv : vSo a w = a 0 51 := by simp only [vSo]; rw [if_pos hst]; (repeat' split) <;> first | rfl | (exfalso; omega)
          exact wp_iret C Z dX12_sold_74 (by decide) (by decide) ⟨by rw [hv], rfl, rfl, by rw [hst]; exact hX1⟩
      · have c29 : (a 0 49).toInt = 0 := by have hcv := p_eq c29; exact hcv
        refine wp_aload_n C 0 dX12_sold_32 rfl rfl ?_
        refine wp_bipush C 9 dX12_sold_33 (by decide) ?_
        refine wp_cVi C (As := [.int 9]) (rest := []) dX12_sold_35 kX12_sold_164 hM.ob (m_refuse _ hM 9) rfl (Nat.le_of_ble_eq_true rfl) (by decide) (by decide) ?_
        have hst : stSo a w = 9 := by simp only [stSo]; (repeat' split) <;> omega
        exact wp_iret C Z dX12_sold_38 (by decide) (by decide) ⟨by unfold vSo; rw [hst]; rfl, rfl, rfl, by rw [hst]; exact MX.no hA hM 9⟩
    · have c16 : ¬ w.toInt ≤ 2 := by have hcv := n_le c16; exact hcv
      refine wp_aload_n C 0 dX12_sold_19 rfl rfl ?_
      refine wp_iconst C 2 dX12_sold_20 (by decide) ?_
      refine wp_cVi C (As := [.int 2]) (rest := []) dX12_sold_21 kX12_sold_164 hM.ob (m_refuse _ hM 2) rfl (Nat.le_of_ble_eq_true rfl) (by decide) (by decide) ?_
      have hst : stSo a w = 2 := by simp only [stSo]; (repeat' split) <;> omega
      exact wp_iret C Z dX12_sold_24 (by decide) (by decide) ⟨by unfold vSo; rw [hst]; rfl, rfl, rfl, by rw [hst]; exact MX.no hA hM 2⟩
