/-! ===== best, meets, at ===== -/
def hB (a : gI) : Nat := (a 0 9).toInt.toNat
def wB (a : gI) (p : Nat) : Nat := (a 10 p).toInt.toNat
/-- the best set -/
noncomputable def cB (a : gI) : Nat → Nat := Classical.epsilon (Lex (hB a) (wB a))
noncomputable def vBest (a : gI) : Int32 := Int32.ofInt (totN (wB a) (cB a))
/-- its table -/
noncomputable def tB (a : gI) (q : Nat) : Nat := (TF (hB a) (cB a) 80).1 q
theorem totN_cgw {w w' t : Nat → Nat} (e : ∀ p, p < 80 → w p = w' p) : totN w t = totN w' t := by
  unfold totN
  rw [tot_lin, tot_lin]
  exact sm_congr (fun k hk => by rw [e k hk])
theorem Lex.cg {h : Nat} {w w' c : Nat → Nat} (e : ∀ p, p < 80 → w p = w' p) (H : Lex h w c) : Lex h w' c := by
  refine ⟨⟨fun p hp => by rw [← e p hp]; exact H.1.1 p hp, H.1.2⟩, fun t ht => ?_⟩
  have ht2 : F0S h w t := ⟨fun p hp => by rw [e p hp]; exact ht.1 p hp, ht.2⟩
  have := H.2 t ht2
  rw [totN_cgw e, totN_cgw e] at this
  exact this
theorem cB_of {a : gI} {h : Nat} {w c : Nat → Nat} (hh : a 0 9 = nI h) (h8 : h ≤ 8) (hw : ∀ p, p < 80 → a 10 p = nI (w p) ∧ w p ≤ 100) (H : Lex h w c) : hB a = h ∧ (∀ p, p < 80 → c p = cB a p) ∧ totN w c = totN (wB a) (cB a) := by
  have e1 : hB a = h := by unfold hB; rw [hh, nI_toInt (by omega)]; rfl
  have e2 : ∀ p, p < 80 → w p = wB a p := fun p hp => by unfold wB; rw [(hw p hp).1, nI_toInt (by have := (hw p hp).2; omega)]; rfl
  have h1 : Lex (hB a) (wB a) c := by rw [e1]; exact H.cg e2
  have h2 : Lex (hB a) (wB a) (cB a) := Classical.epsilon_spec (p := Lex (hB a) (wB a)) ⟨c, h1⟩
  exact ⟨e1, (h1.uniq h2).1, (totN_cgw e2).trans (h1.uniq h2).2⟩
theorem tB_of {a : gI} {h : Nat} {w c : Nat → Nat} (hh : a 0 9 = nI h) (h8 : h ≤ 8) (hw : ∀ p, p < 80 → a 10 p = nI (w p) ∧ w p ≤ 100) (H : Lex h w c) (q : Nat) : (TF h c 80).1 q = tB a q := by
  obtain ⟨e1, e2, -⟩ := cB_of hh h8 hw H
  unfold tB
  rw [e1, TF_cg e2]
theorem tB_le {a : gI} {h : Nat} {w c : Nat → Nat} (hh : a 0 9 = nI h) (h8 : h ≤ 8) (hw : ∀ p, p < 80 → a 10 p = nI (w p) ∧ w p ≤ 100) (H : Lex h w c) {q : Nat} (hq : q < 64) : tB a q ≤ 10 := by
  rw [← tB_of hh h8 hw H]
  exact (TF_TI h8 (fun p hp => (H.1.1 p hp).1) H.1.2 80 (Nat.le_refl _)).1.1 q hq
theorem smI_n {f : Nat → Int32} {g : Nat → Nat} : ∀ n, (∀ p, p < n → f p = nI (g p)) → smI f n = nI (smN g n) := by
  intro n
  induction n with
  | zero => intro _; rfl
  | succ n ih => intro h; show smI f n + f n = nI (smN g n + g n); rw [ih (fun p hp => h p (by omega)), h n (by omega), nI_add]
theorem totN_n (w c : Nat → Nat) : totN w c = ((smN (fun p => c p * w p) 80 : Nat) : Int) := by
  unfold totN
  rw [tot_lin, ← smN_sm]
  exact sm_congr (fun k _ => (Int.natCast_mul _ _).symm)
theorem smI_tot {f : Nat → Int32} {w c : Nat → Nat} (hf : ∀ p, p < 80 → f p = nI (c p * w p)) (hw : ∀ p, p < 80 → w p ≤ 100) (hc : ∀ p, p < 80 → c p ≤ 1) : (smI f 80).toInt = totN w c := by
  have hb := totN_bd hw hc
  rw [totN_n] at hb
  rw [totN_n, smI_n (g := fun p => c p * w p) 80 hf, nI_toInt (by omega)]
/-- the state's numbers of the meetings, as naturals -/
def okW (a : gI) (A B h : Nat) (w : Nat → Nat) : Prop := (a 0 7 = nI A ∧ A ≤ 8) ∧ (a 0 8 = nI B ∧ B ≤ 10) ∧ (a 0 9 = nI h ∧ 1 ≤ h ∧ h ≤ 8) ∧ (∀ p, p < 80 → a 10 p = nI (w p) ∧ w p ≤ 100) ∧ (∀ p, p < 80 → ¬ (p / 10 < A ∧ p % 10 < B) → w p = 0)
theorem KN.okW {I : gI} {ca : Nat → Nat} {a : gI} (k : KN I ca a) : ∃ (A B h : Nat) (w : Nat → Nat), okW a A B h w ∧ KM I ca A B h w := by
  obtain ⟨A, B, h, w, km, e7, e8, e9, ew, e0⟩ := k
  exact ⟨A, B, h, w, ⟨⟨e7, km.1.2⟩, ⟨e8, km.2.1.2⟩, ⟨e9, km.2.2.1.2⟩, fun p hp => ⟨ew p hp, (km.2.2.2.1 p hp).2⟩, e0⟩, km⟩
theorem okW.st {a : gI} {A B h : Nat} {w : Nat → Nat} (k : okW a A B h w) (v : Int32) : okW (u2 a 0 0 v) A B h w := by
  unfold okW at k ⊢
  rw [u2_k _ _ _ _ (by decide), u2_k _ _ _ _ (by decide), u2_k _ _ _ _ (by decide), u2_rown _ _ _ _ (by decide)]
  exact k
theorem MA.mw {I : gI} {J : gJ} {m : Nat} {ad : Nat → Nat} {a : gI} {n : gJ} (hA : MA I J m ad a n) {A B h : Nat} {w : Nat → Nat} (k : okW a A B h w) : MW I m ad A B h w := by
  unfold MW
  rw [hA.1 7 (by decide), hA.1 8 (by decide), hA.1 9 (by decide), hA.2.1 10 (by unfold mR; omega)]
  exact ⟨k.1, k.2.1, k.2.2.1, k.2.2.2.1⟩
theorem cB_st (a : gI) (v : Int32) : hB (u2 a 0 0 v) = hB a ∧ wB (u2 a 0 0 v) = wB a ∧ cB (u2 a 0 0 v) = cB a ∧ tB (u2 a 0 0 v) = tB a ∧ vBest (u2 a 0 0 v) = vBest a := by
  have e1 : hB (u2 a 0 0 v) = hB a := by unfold hB; rw [u2_k _ _ _ _ (by decide)]
  have e2 : wB (u2 a 0 0 v) = wB a := by funext p; unfold wB; rw [u2_a _ _ _ _ (by decide)]
  have e3 : cB (u2 a 0 0 v) = cB a := by unfold cB; rw [e1, e2]
  exact ⟨e1, e2, e3, by funext q; unfold tB; rw [e1, e3], by unfold vBest; rw [e2, e3]⟩
section KAu
variable {T : gSh} {I I' : gI} {J J' : gJ} {R : gR} {ca : Nat → Nat} {a : gI} {n : gJ}
theorem KA.upd (k : KA T I J R ca a n) {A B h : Nat} {w c : Nat → Nat} (ok : okW a A B h w) (hF : FrK I I' J J' ca) (hU : KU I' ca A B h w c) : KA T I' J' R ca a n ∧ FrC T T I I' J J' R R ca := by
  have hx : ExL T T I I' J J' R R ca [2, 14, 15, 16, 17, 18, 19, 20, 21, 22, 23, 24] := by
    refine ⟨GrT.rf T, by decide, fun x _ hn => ⟨hF.1 x (hn 2 (by decide)) (hn 14 (by decide)) (hn 15 (by decide)) (hn 16 (by decide)) (hn 17 (by decide)) (hn 18 (by decide)) (hn 21 (by decide)) (hn 22 (by decide)) (hn 23 (by decide)) (hn 24 (by decide)), hF.2 x (hn 19 (by decide)) (hn 20 (by decide)), rfl⟩⟩
  exact ⟨k.onN hx (by decide) ⟨A, B, h, w, hU.km, ok.1.1, ok.2.1.1, ok.2.2.1.1, fun p hp => (ok.2.2.2.1 p hp).1, ok.2.2.2.2⟩ (fun _ _ => rfl) (fun _ _ _ => rfl), hx.frc⟩
end KAu
noncomputable def hMt (a : gI) (x e : Int32) : Int32 := fh (fun k => if vI (tB a (8 * x.toInt.toNat + k)) = e then 0 else 1) (hB a)
noncomputable def stMe (a : gI) (x e : Int32) : Nat := if (0 ≤ x.toInt ∧ x.toInt < (a 0 7).toInt) ∧ (0 ≤ e.toInt ∧ e.toInt < (a 0 8).toInt) then (if hMt a x e = -1 then 9 else 0) else 1
noncomputable def vMe (a : gI) (x e : Int32) : Int32 := if stMe a x e = 0 then hMt a x e else -1
def stHr (a : gI) (x h : Int32) : Nat := if 0 ≤ x.toInt ∧ x.toInt < (a 0 7).toInt then (if 0 ≤ h.toInt ∧ h.toInt < (a 0 9).toInt then 0 else 2) else 1
theorem stHr_le (a : gI) (x h : Int32) : stHr a x h ≤ 2 := by simp only [stHr]; (repeat' split) <;> omega
theorem stHr_ok {a : gI} {x h : Int32} (z : stHr a x h = 0) : (0 ≤ x.toInt ∧ x.toInt < (a 0 7).toInt) ∧ (0 ≤ h.toInt ∧ h.toInt < (a 0 9).toInt) := by
  simp only [stHr] at z; (repeat' split at z) <;> omega
noncomputable def stAt (a : gI) (x h : Int32) : Nat := if stHr a x h = 0 then (if tB a (8 * x.toInt.toNat + h.toInt.toNat) = 0 then 9 else 0) else stHr a x h
noncomputable def vAt (a : gI) (x h : Int32) : Int32 := if stAt a x h = 0 then vI (tB a (8 * x.toInt.toNat + h.toInt.toNat)) else -1
theorem fh_cg {g g2 : Nat → Nat} {n : Nat} (h : ∀ k, k < n → g k = g2 k) : fh g n = fh g2 n := by
  unfold fh
  rw [ff_cg (g2 := g2) (fun k hk => by rw [h k hk])]
theorem fh_ge (g : Nat → Nat) {n : Nat} (hn : n < 1000) : fh g n = -1 ∨ (0 ≤ (fh g n).toInt) := by
  unfold fh
  by_cases h : ff g n < n
  · rw [if_pos h, nI_toInt (by omega)]; exact Or.inr (by omega)
  · rw [if_neg h]; exact Or.inl rfl
set_option maxRecDepth 100000 in
set_option maxHeartbeats 4000000 in
theorem c_best (l : Launch) {T : gSh} {I : gI} {J : gJ} {R : gR} {ca : Nat → Nat} {a : gI} {n : gJ} (hK : KA T I J R ca a n) : Con l yX11_best wsX11_best ({ frames := 6, cells := 0, slots := 0, locals := 156 }) [.ref (ca 0)] T I J R (PQ T I J R ca (.int (vBest a)) (u2 a 0 0 0) n) := by
  refine Con.mk (cc := cX11_best) (maxL := 1) (ret := (some .int)) (by decide) rfl (Nat.le_of_ble_eq_true rfl) ?_
  intro E hE C Z hnm
  subst hE
  change WP E 1 0 0 T I J R 0 [(0, .ref (ca 0))] []
  have hK1 := hK.st 0
  obtain ⟨A, B, h0, w, ok, km⟩ := hK1.2.2.2.2.1.okW
  have kn := hK.2.2.2.2.1.ar
  refine wp_aload_n C 0 dX11_best_0 rfl rfl ?_
  refine wp_iconst C 0 dX11_best_1 (by decide) ?_
  refine wp_putI C dX11_best_2 pX11_best_41 (fun h => nomatch h) (hK.1.ob 0 (by decide) rfl) ?_
  refine wp_aload_n C 0 dX11_best_5 rfl rfl ?_
  refine wp_getR C dX11_best_6 fX11_best_19 (hK.1.ob 0 (by decide) rfl) (hK.1.rf 0 1 2 (by decide)) ?_
  refine wp_callV C (As := []) (rest := []) dX11_best_9 kX11_best_125 (hK.1.ob 2 (by decide) rfl) (c_bringUpToDate _ hK.1 km) rfl (Nat.le_of_ble_eq_true rfl) (by decide) (by decide) ?_
  rintro _ _ I2 J2 _ ⟨rfl, rfl, rfl, hF2, c, hU⟩
  obtain ⟨hK2, hC2⟩ := hK1.upd ok hF2 hU
  have hL := hU.2.2.2.2.2
  obtain ⟨w1, dg, u1, bs, op, ew1, hH, hTT⟩ := hL
  have hLx : Lex h0 w c := op.lex.cg ew1
  have tb := fun q => tB_of ok.2.2.1.1 ok.2.2.1.2.2 ok.2.2.2.1 hLx q
  have cb := cB_of ok.2.2.1.1 ok.2.2.1.2.2 ok.2.2.2.1 hLx
  rw [(cB_st a 0).1, (cB_st a 0).2.1, (cB_st a 0).2.2.1] at cb
  simp only [(cB_st a 0).2.2.2.1] at tb
  change WP E 1 0 0 T I2 J2 R 12 [(0, .ref (ca 0))] []
  refine wp_aload_n C 0 dX11_best_12 rfl rfl ?_
  refine wp_getR C dX11_best_13 fX11_best_19 (hK.1.ob 0 (by decide) rfl) (hK.1.rf 0 1 2 (by decide)) ?_
  refine wp_getR C dX11_best_16 fX11_best_128 (hK.1.ob 2 (by decide) rfl) (hK.1.rf 2 4 14 (by decide)) ?_
  refine wp_cVi C (As := []) (rest := []) dX11_best_19 kX11_best_132 (hK.1.ob 14 (by decide) rfl) (c_worthTogether _ hK.1) rfl (Nat.le_of_ble_eq_true rfl) (by decide) (by decide) ?_
  have hv : (smI (fun p => if I2 (ca 16) p = 0 then 0 else I2 (ca 17) p) 80).toInt = totN w1 c := by
    refine smI_tot (fun p hp => ?_) (fun p hp => (bs.2.2.1 p hp).2) (fun p hp => (bs.2.2.2.1 p hp).2)
    have c01 := (bs.2.2.2.1 p hp).2
    rw [(bs.2.2.2.1 p hp).1, (bs.2.2.1 p hp).1]
    obtain z | z : c p = 0 ∨ c p = 1 := by omega
    · rw [z, Nat.zero_mul]; exact if_pos rfl
    · rw [z, Nat.one_mul]; exact if_neg (by decide)
  have hv2 : vBest a = smI (fun p => if I2 (ca 16) p = 0 then 0 else I2 (ca 17) p) 80 := by unfold vBest; rw [← cb.2.2, ← totN_cgw ew1, ← hv, Int32.ofInt_toInt]
  exact wp_iret C Z dX11_best_22 (by decide) (by decide) ⟨by rw [hv2], (((FrC.rf T I J R ca).pI (i := 0) (by decide) 5 0).tr hC2), hK2⟩
set_option maxRecDepth 100000 in
set_option maxHeartbeats 4000000 in
theorem c_meets (l : Launch) {T : gSh} {I : gI} {J : gJ} {R : gR} {ca : Nat → Nat} {a : gI} {n : gJ} (hK : KA T I J R ca a n) (x e : Int32) : Con l yX11_meets wsX11_meets ({ frames := 6, cells := 0, slots := 0, locals := 156 }) [.ref (ca 0), .int x, .int e] T I J R (PQ T I J R ca (.int (vMe a x e)) (u2 a 0 0 (nI (stMe a x e))) n) := by
  refine Con.mk (cc := cX11_meets) (maxL := 4) (ret := (some .int)) (by decide) rfl (Nat.le_of_ble_eq_true rfl) ?_
  intro E hE C Z hnm
  subst hE
  change WP E 4 0 0 T I J R 0 [(0, .ref (ca 0)), (1, .int x), (2, .int e)] []
  have hK1 := hK.st 0
  obtain ⟨A, B, h0, w, ok, km⟩ := hK1.2.2.2.2.1.okW
  have kn := hK.2.2.2.2.1.ar
  refine wp_aload_n C 0 dX11_meets_0 rfl rfl ?_
  refine wp_aload_n C 0 dX11_meets_1 rfl rfl ?_
  refine wp_iload_n C 1 dX11_meets_2 rfl rfl ?_
  refine wp_cVi C (As := [.int x]) (rest := [.ref (ca 0)]) dX11_meets_3 kX11_meets_119 (hK.1.ob 0 (by decide) rfl) (c_isAgent _ hK.1 x) rfl (Nat.le_of_ble_eq_true rfl) (by decide) (by decide) ?_
  refine wp_if_eq C 21 dX11_meets_6 (by decide) (fun c6 => ?_) (fun c6 => ?_)
  · have c6 : ¬ (0 ≤ x.toInt ∧ x.toInt < (I (ca 2) 0).toInt) := fun z => absurd ((bI_t z).symm.trans c6) (by decide)
    refine wp_iconst C 1 dX11_meets_21 (by decide) ?_
    refine wp_putI C dX11_meets_22 pX11_meets_41 (fun h => nomatch h) (hK.1.ob 0 (by decide) rfl) ?_
    refine wp_aload_n C 0 dX11_meets_25 rfl rfl ?_
    refine wp_getI C dX11_meets_26 fX11_meets_41 (hK.1.ob 0 (by decide) rfl) ?_
    refine wp_eqi (u2_s _ _ _ _) ?_
    refine wp_if_eq C 34 dX11_meets_29 (by decide) (fun c29 => ?_) (fun c29 => ?_)
    · exact absurd c29 (by decide)
    · refine wp_iconst C (-1) dX11_meets_32 (by decide) ?_
      have hst : stMe a x e = 1 := by unfold stMe; rw [if_neg (by omega)]
      exact wp_iret C Z dX11_meets_33 (by decide) (by decide) ⟨by unfold vMe; rw [if_neg (by rw [hst]; decide)], (FrC.rf T I J R ca).pI (by decide) 5 _, by rw [hst]; exact hK.st 1⟩
  · have c6 : (0 ≤ x.toInt ∧ x.toInt < (I (ca 2) 0).toInt) := Classical.byContradiction (fun z => c6 (bI_f z))
    refine wp_aload_n C 0 dX11_meets_9 rfl rfl ?_
    refine wp_iload_n C 2 dX11_meets_10 rfl rfl ?_
    refine wp_cVi C (As := [.int e]) (rest := [.ref (ca 0)]) dX11_meets_11 kX11_meets_122 (hK.1.ob 0 (by decide) rfl) (c_isEditor _ hK.1 e) rfl (Nat.le_of_ble_eq_true rfl) (by decide) (by decide) ?_
    refine wp_if_eq C 21 dX11_meets_14 (by decide) (fun c14 => ?_) (fun c14 => ?_)
    · have c14 : ¬ (0 ≤ e.toInt ∧ e.toInt < (I (ca 2) 1).toInt) := fun z => absurd ((bI_t z).symm.trans c14) (by decide)
      refine wp_iconst C 1 dX11_meets_21 (by decide) ?_
      refine wp_putI C dX11_meets_22 pX11_meets_41 (fun h => nomatch h) (hK.1.ob 0 (by decide) rfl) ?_
      refine wp_aload_n C 0 dX11_meets_25 rfl rfl ?_
      refine wp_getI C dX11_meets_26 fX11_meets_41 (hK.1.ob 0 (by decide) rfl) ?_
      refine wp_eqi (u2_s _ _ _ _) ?_
      refine wp_if_eq C 34 dX11_meets_29 (by decide) (fun c29 => ?_) (fun c29 => ?_)
      · exact absurd c29 (by decide)
      · refine wp_iconst C (-1) dX11_meets_32 (by decide) ?_
        have hst : stMe a x e = 1 := by unfold stMe; rw [if_neg (by omega)]
        exact wp_iret C Z dX11_meets_33 (by decide) (by decide) ⟨by unfold vMe; rw [if_neg (by rw [hst]; decide)], (FrC.rf T I J R ca).pI (by decide) 5 _, by rw [hst]; exact hK.st 1⟩
    · have c14 : (0 ≤ e.toInt ∧ e.toInt < (I (ca 2) 1).toInt) := Classical.byContradiction (fun z => c14 (bI_f z))
      refine wp_iconst C 0 dX11_meets_17 (by decide) ?_
      refine wp_goto C 22 dX11_meets_18 (by decide) ?_
      refine wp_putI C dX11_meets_22 pX11_meets_41 (fun h => nomatch h) (hK.1.ob 0 (by decide) rfl) ?_
      refine wp_aload_n C 0 dX11_meets_25 rfl rfl ?_
      refine wp_getI C dX11_meets_26 fX11_meets_41 (hK.1.ob 0 (by decide) rfl) ?_
      refine wp_eqi (u2_s _ _ _ _) ?_
      refine wp_if_eq C 34 dX11_meets_29 (by decide) (fun c29 => ?_) (fun c29 => ?_)
      · refine wp_aload_n C 0 dX11_meets_34 rfl rfl ?_
        refine wp_getR C dX11_meets_35 fX11_meets_19 (hK.1.ob 0 (by decide) rfl) (hK.1.rf 0 1 2 (by decide)) ?_
        refine wp_callV C (As := []) (rest := []) dX11_meets_38 kX11_meets_125 (hK.1.ob 2 (by decide) rfl) (c_bringUpToDate _ hK.1 km) rfl (Nat.le_of_ble_eq_true rfl) (by decide) (by decide) ?_
        rintro _ _ I2 J2 _ ⟨rfl, rfl, rfl, hF2, c, hU⟩
        obtain ⟨hK2, hC2⟩ := hK1.upd ok hF2 hU
        have hL := hU.2.2.2.2.2
        obtain ⟨w1, dg, u1, bs, op, ew1, hH, hTT⟩ := hL
        have hLx : Lex h0 w c := op.lex.cg ew1
        have tb := fun q => tB_of ok.2.2.1.1 ok.2.2.1.2.2 ok.2.2.2.1 hLx q
        have cb := cB_of ok.2.2.1.1 ok.2.2.1.2.2 ok.2.2.2.1 hLx
        rw [(cB_st a 0).1, (cB_st a 0).2.1, (cB_st a 0).2.2.1] at cb
        simp only [(cB_st a 0).2.2.2.1] at tb
        change WP E 4 0 0 T I2 J2 R 41 [(0, .ref (ca 0)), (1, .int x), (2, .int e)] []
        refine wp_aload_n C 0 dX11_meets_41 rfl rfl ?_
        refine wp_getR C dX11_meets_42 fX11_meets_19 (hK.1.ob 0 (by decide) rfl) (hK.1.rf 0 1 2 (by decide)) ?_
        refine wp_getR C dX11_meets_45 fX11_meets_138 (hK.1.ob 2 (by decide) rfl) (hK.1.rf 2 5 15 (by decide)) ?_
        refine wp_iload_n C 1 dX11_meets_48 rfl rfl ?_
        refine wp_iload_n C 2 dX11_meets_49 rfl rfl ?_
        refine wp_eqi2 (nI_nat (by omega)) ?_
        refine wp_cVi C (As := [.int (nI x.toInt.toNat), .int e]) (rest := []) dX11_meets_50 kX11_meets_142 (hK.1.ob 15 (by decide) rfl) (c_hourOf _ hK.1 hH ok.2.2.1.2.2 (a := x.toInt.toNat) (by omega) e) rfl (Nat.le_of_ble_eq_true rfl) (by decide) (by decide) ?_
        refine wp_eqi (show fh _ h0 = hMt a x e by unfold hMt; rw [cb.1]; exact fh_cg (fun k hk => by have h8 := ok.2.2.1.2.2; rw [hTT.1 _ (by omega), tb])) ?_
        refine wp_istore_n C [(3, .int (hMt a x e)), (0, .ref (ca 0)), (1, .int x), (2, .int e)] dX11_meets_53 rfl (by decide) rfl ?_
        refine wp_aload_n C 1 dX11_meets_54 rfl rfl ?_
        refine wp_iload_n C 0 dX11_meets_55 rfl rfl ?_
        refine wp_iconst C (-1) dX11_meets_56 (by decide) ?_
        refine wp_icmp_ne C 65 dX11_meets_57 (by decide) (fun c57 => ?_) (fun c57 => ?_)
        · have c57 : ¬ hMt a x e = -1 := c57
          refine wp_iconst C 0 dX11_meets_65 (by decide) ?_
          refine wp_putI C dX11_meets_66 pX11_meets_41 (fun h => nomatch h) (hK.1.ob 0 (by decide) rfl) ?_
          refine wp_iload_n C 0 dX11_meets_69 rfl rfl ?_
          have hst : stMe a x e = 0 := by unfold stMe; rw [if_pos (by omega), if_neg c57]
          have hk := hK2.st 0
          rw [u2_u2] at hk
          exact wp_iret C Z dX11_meets_70 (by decide) (by decide) ⟨by unfold vMe; rw [if_pos hst], (((FrC.rf T I J R ca).pI (i := 0) (by decide) 5 0).tr hC2).pI (by decide) 5 _, by rw [hst]; exact hk⟩
        · have c57 : hMt a x e = -1 := c57
          refine wp_bipush C 9 dX11_meets_60 (by decide) ?_
          refine wp_goto C 66 dX11_meets_62 (by decide) ?_
          refine wp_putI C dX11_meets_66 pX11_meets_41 (fun h => nomatch h) (hK.1.ob 0 (by decide) rfl) ?_
          refine wp_iload_n C 0 dX11_meets_69 rfl rfl ?_
          have hst : stMe a x e = 9 := by unfold stMe; rw [if_pos (by omega), if_pos c57]
          have hk := hK2.st 9
          rw [u2_u2] at hk
          exact wp_iret C Z dX11_meets_70 (by decide) (by decide) ⟨by unfold vMe; rw [if_neg (by rw [hst]; decide), c57], (((FrC.rf T I J R ca).pI (i := 0) (by decide) 5 0).tr hC2).pI (by decide) 5 _, by rw [hst]; exact hk⟩
      · exact absurd (by decide) c29
set_option maxRecDepth 100000 in
set_option maxHeartbeats 4000000 in
theorem c_statusOfHour (l : Launch) {T : gSh} {I : gI} {J : gJ} {R : gR} {ca : Nat → Nat} {a : gI} {n : gJ} (hK : KA T I J R ca a n) (x h : Int32) : Con l yX11_statusOfHour wsX11_statusOfHour ({ frames := 1, cells := 0, slots := 0, locals := 21 }) [.ref (ca 0), .int x, .int h] T I J R (gP (some (.int (nI (stHr a x h)))) T I J R) := by
  refine Con.mk (cc := cX11_statusOfHour) (maxL := 3) (ret := (some .int)) (by decide) rfl (Nat.le_of_ble_eq_true rfl) ?_
  intro E hE C Z hnm
  subst hE
  change WP E 3 0 0 T I J R 0 [(0, .ref (ca 0)), (1, .int x), (2, .int h)] []
  have kn := hK.2.2.2.2.1.ar
  refine wp_aload_n C 0 dX11_statusOfHour_0 rfl rfl ?_
  refine wp_iload_n C 1 dX11_statusOfHour_1 rfl rfl ?_
  refine wp_cVi C (As := [.int x]) (rest := []) dX11_statusOfHour_2 kX11_statusOfHour_119 (hK.1.ob 0 (by decide) rfl) (c_isAgent _ hK.1 x) rfl (Nat.le_of_ble_eq_true rfl) (by decide) (by decide) ?_
  refine wp_if_ne C 10 dX11_statusOfHour_5 (by decide) (fun c5 => ?_) (fun c5 => ?_)
  · have c5 : (0 ≤ x.toInt ∧ x.toInt < (I (ca 2) 0).toInt) := Classical.byContradiction (fun z => c5 (bI_f z))
    refine wp_iload_n C 2 dX11_statusOfHour_10 rfl rfl ?_
    refine wp_if_lt C 25 dX11_statusOfHour_11 (by decide) (fun c11 => ?_) (fun c11 => ?_)
    · have c11 : h.toInt < 0 := by have hcv := p_lt c11; exact hcv
      refine wp_iconst C 2 dX11_statusOfHour_25 (by decide) ?_
      refine wp_goto C 30 dX11_statusOfHour_26 (by decide) ?_
      exact wp_iret C Z dX11_statusOfHour_30 (by decide) (by decide) (by rw [show stHr a x h = 2 from by simp only [stHr]; (repeat' split) <;> omega]; exact gP_rf)
    · have c11 : ¬ h.toInt < 0 := by have hcv := n_lt c11; exact hcv
      refine wp_iload_n C 2 dX11_statusOfHour_14 rfl rfl ?_
      refine wp_aload_n C 0 dX11_statusOfHour_15 rfl rfl ?_
      refine wp_getR C dX11_statusOfHour_16 fX11_statusOfHour_19 (hK.1.ob 0 (by decide) rfl) (hK.1.rf 0 1 2 (by decide)) ?_
      refine wp_getI C dX11_statusOfHour_19 fX11_statusOfHour_153 (hK.1.ob 2 (by decide) rfl) ?_
      refine wp_icmp_lt C 29 dX11_statusOfHour_22 (by decide) (fun c22 => ?_) (fun c22 => ?_)
      · have c22 : h.toInt < (I (ca 2) 2).toInt := by have hcv := p_lt c22; exact hcv
        refine wp_iconst C 0 dX11_statusOfHour_29 (by decide) ?_
        exact wp_iret C Z dX11_statusOfHour_30 (by decide) (by decide) (by rw [show stHr a x h = 0 from by simp only [stHr]; (repeat' split) <;> omega]; exact gP_rf)
      · have c22 : ¬ h.toInt < (I (ca 2) 2).toInt := by have hcv := n_lt c22; exact hcv
        refine wp_iconst C 2 dX11_statusOfHour_25 (by decide) ?_
        refine wp_goto C 30 dX11_statusOfHour_26 (by decide) ?_
        exact wp_iret C Z dX11_statusOfHour_30 (by decide) (by decide) (by rw [show stHr a x h = 2 from by simp only [stHr]; (repeat' split) <;> omega]; exact gP_rf)
  · have c5 : ¬ (0 ≤ x.toInt ∧ x.toInt < (I (ca 2) 0).toInt) := fun z => absurd ((bI_t z).symm.trans c5) (by decide)
    refine wp_iconst C 1 dX11_statusOfHour_8 (by decide) ?_
    exact wp_iret C Z dX11_statusOfHour_9 (by decide) (by decide) (by rw [show stHr a x h = 1 from by simp only [stHr]; (repeat' split) <;> omega]; exact gP_rf)
set_option maxRecDepth 100000 in
set_option maxHeartbeats 4000000 in
theorem c_at (l : Launch) {T : gSh} {I : gI} {J : gJ} {R : gR} {ca : Nat → Nat} {a : gI} {n : gJ} (hK : KA T I J R ca a n) (x h : Int32) : Con l yX11_at wsX11_at ({ frames := 6, cells := 0, slots := 0, locals := 156 }) [.ref (ca 0), .int x, .int h] T I J R (PQ T I J R ca (.int (vAt a x h)) (u2 a 0 0 (nI (stAt a x h))) n) := by
  refine Con.mk (cc := cX11_at) (maxL := 4) (ret := (some .int)) (by decide) rfl (Nat.le_of_ble_eq_true rfl) ?_
  intro E hE C Z hnm
  subst hE
  change WP E 4 0 0 T I J R 0 [(0, .ref (ca 0)), (1, .int x), (2, .int h)] []
  have hK1 := hK.st 0
  obtain ⟨A, B, h0, w, ok, km⟩ := hK1.2.2.2.2.1.okW
  have kn := hK.2.2.2.2.1.ar
  refine wp_aload_n C 0 dX11_at_0 rfl rfl ?_
  refine wp_aload_n C 0 dX11_at_1 rfl rfl ?_
  refine wp_iload_n C 1 dX11_at_2 rfl rfl ?_
  refine wp_iload_n C 2 dX11_at_3 rfl rfl ?_
  refine wp_cVi C (As := [.int x, .int h]) (rest := [.ref (ca 0)]) dX11_at_4 kX11_at_147 (hK.1.ob 0 (by decide) rfl) (c_statusOfHour _ hK x h) rfl (Nat.le_of_ble_eq_true rfl) (by decide) (by decide) ?_
  refine wp_putI C dX11_at_7 pX11_at_41 (fun h => nomatch h) (hK.1.ob 0 (by decide) rfl) ?_
  refine wp_aload_n C 0 dX11_at_10 rfl rfl ?_
  refine wp_getI C dX11_at_11 fX11_at_41 (hK.1.ob 0 (by decide) rfl) ?_
  refine wp_eqi (u2_s _ _ _ _) ?_
  refine wp_if_eq C 19 dX11_at_14 (by decide) (fun c14 => ?_) (fun c14 => ?_)
  · have c14 : stHr a x h = 0 := by have hcv := p_eq c14; rw [nI_toInt (show stHr a x h < 2 ^ 31 by have := stHr_le a x h; omega)] at hcv; have hz0 : ((0 : Int32)).toInt = 0 := rfl; omega
    have hsu := stHr_ok c14
    refine wp_eI (show _ = u2 I (ca 0) 5 0 by rw [c14]; rfl) ?_
    refine wp_aload_n C 0 dX11_at_19 rfl rfl ?_
    refine wp_getR C dX11_at_20 fX11_at_19 (hK.1.ob 0 (by decide) rfl) (hK.1.rf 0 1 2 (by decide)) ?_
    refine wp_callV C (As := []) (rest := []) dX11_at_23 kX11_at_125 (hK.1.ob 2 (by decide) rfl) (c_bringUpToDate _ hK.1 km) rfl (Nat.le_of_ble_eq_true rfl) (by decide) (by decide) ?_
    rintro _ _ I2 J2 _ ⟨rfl, rfl, rfl, hF2, c, hU⟩
    obtain ⟨hK2, hC2⟩ := hK1.upd ok hF2 hU
    have hL := hU.2.2.2.2.2
    obtain ⟨w1, dg, u1, bs, op, ew1, hH, hTT⟩ := hL
    have hLx : Lex h0 w c := op.lex.cg ew1
    have tb := fun q => tB_of ok.2.2.1.1 ok.2.2.1.2.2 ok.2.2.2.1 hLx q
    have cb := cB_of ok.2.2.1.1 ok.2.2.1.2.2 ok.2.2.2.1 hLx
    rw [(cB_st a 0).1, (cB_st a 0).2.1, (cB_st a 0).2.2.1] at cb
    simp only [(cB_st a 0).2.2.2.1] at tb
    change WP E 4 0 0 T I2 J2 R 26 [(0, .ref (ca 0)), (1, .int x), (2, .int h)] []
    refine wp_aload_n C 0 dX11_at_26 rfl rfl ?_
    refine wp_getR C dX11_at_27 fX11_at_19 (hK.1.ob 0 (by decide) rfl) (hK.1.rf 0 1 2 (by decide)) ?_
    refine wp_getR C dX11_at_30 fX11_at_138 (hK.1.ob 2 (by decide) rfl) (hK.1.rf 2 5 15 (by decide)) ?_
    refine wp_iload_n C 1 dX11_at_33 rfl rfl ?_
    refine wp_iload_n C 2 dX11_at_34 rfl rfl ?_
    refine wp_eqi2 (nI_nat (by omega)) ?_
    refine wp_eqi (nI_nat (by omega)) ?_
    refine wp_cVi C (As := [.int (nI x.toInt.toNat), .int (nI h.toInt.toNat)]) (rest := []) dX11_at_35 kX11_at_150 (hK.1.ob 15 (by decide) rfl) (c_editorAt _ hK.1 (a := x.toInt.toNat) (h := h.toInt.toNat) (by omega) (by omega)) rfl (Nat.le_of_ble_eq_true rfl) (by decide) (by decide) ?_
    have b10 := tB_le ok.2.2.1.1 ok.2.2.1.2.2 ok.2.2.2.1 hLx (q := 8 * x.toInt.toNat + h.toInt.toNat) (by omega)
    rw [(cB_st a 0).2.2.2.1] at b10
    refine wp_eqi (show _ = vI (tB a (8 * x.toInt.toNat + h.toInt.toNat)) by rw [hTT.1 _ (by omega), tb]) ?_
    refine wp_istore_n C [(3, .int (vI (tB a (8 * x.toInt.toNat + h.toInt.toNat)))), (0, .ref (ca 0)), (1, .int x), (2, .int h)] dX11_at_38 rfl (by decide) rfl ?_
    refine wp_aload_n C 1 dX11_at_39 rfl rfl ?_
    refine wp_iload_n C 0 dX11_at_40 rfl rfl ?_
    refine wp_iconst C (-1) dX11_at_41 (by decide) ?_
    refine wp_icmp_ne C 50 dX11_at_42 (by decide) (fun c42 => ?_) (fun c42 => ?_)
    · have c42 : ¬ tB a (8 * x.toInt.toNat + h.toInt.toNat) = 0 := fun z => c42 (by rw [z]; exact vI_0)
      refine wp_iconst C 0 dX11_at_50 (by decide) ?_
      refine wp_putI C dX11_at_51 pX11_at_41 (fun h => nomatch h) (hK.1.ob 0 (by decide) rfl) ?_
      refine wp_iload_n C 0 dX11_at_54 rfl rfl ?_
      have hst : stAt a x h = 0 := by unfold stAt; rw [if_pos c14, if_neg c42]
      have hk := hK2.st 0
      rw [u2_u2] at hk
      exact wp_iret C Z dX11_at_55 (by decide) (by decide) ⟨by unfold vAt; rw [if_pos hst], (((FrC.rf T I J R ca).pI (i := 0) (by decide) 5 0).tr hC2).pI (by decide) 5 _, by rw [hst]; exact hk⟩
    · have c42 : tB a (8 * x.toInt.toNat + h.toInt.toNat) = 0 := by have hcv := p_eq c42; rw [vI_toInt (by omega), show ((-1 : Int32)).toInt = -1 from rfl] at hcv; omega
      refine wp_bipush C 9 dX11_at_45 (by decide) ?_
      refine wp_goto C 51 dX11_at_47 (by decide) ?_
      refine wp_putI C dX11_at_51 pX11_at_41 (fun h => nomatch h) (hK.1.ob 0 (by decide) rfl) ?_
      refine wp_iload_n C 0 dX11_at_54 rfl rfl ?_
      have hst : stAt a x h = 9 := by unfold stAt; rw [if_pos c14, if_pos c42]
      have hk := hK2.st 9
      rw [u2_u2] at hk
      exact wp_iret C Z dX11_at_55 (by decide) (by decide) ⟨by unfold vAt; rw [if_neg (by rw [hst]; decide), c42, vI_0], (((FrC.rf T I J R ca).pI (i := 0) (by decide) 5 0).tr hC2).pI (by decide) 5 _, by rw [hst]; exact hk⟩
  · have c14 : ¬ stHr a x h = 0 := fun z => c14 (by rw [z]; rfl)
    refine wp_iconst C (-1) dX11_at_17 (by decide) ?_
    have hst : stAt a x h = stHr a x h := by unfold stAt; rw [if_neg c14]
    exact wp_iret C Z dX11_at_18 (by decide) (by decide) ⟨by unfold vAt; rw [if_neg (by rw [hst]; exact c14)], (FrC.rf T I J R ca).pI (by decide) 5 _, by rw [hst]; exact hK.st _⟩
section MXl
variable {T : gSh} {I I1 I2 : gI} {J J1 : gJ} {R : gR} {m : Nat} {ad : Nat → Nat} {a : gI} {n : gJ}
theorem MX.l (h : MX I I1 J J1 m ad a n) (hM : MO T R m ad) (hF : FrL I1 I2 ad) : MX I I2 J J1 m ad a n := by
  have hA : ∀ k, 11 ≤ k → k ≤ 20 → mA k = true := by
    have : ∀ k, k < 21 → 11 ≤ k → mA k = true := by decide
    exact fun k h1 h2 => this k (by omega) h1
  refine ⟨fun x hx => ⟨(hF x (fun k h1 h2 e => hx (Or.inr ⟨k, hA k h1 h2, e⟩))).trans (h.1 x hx).1, (h.1 x hx).2⟩, fun k hk => ?_, fun k hk => ?_, h.2.2.2⟩
  · rw [hF m (fun j h1 h2 => Ne.symm (hM.nm j (hA j h1 h2)))]; exact h.2.1 k hk
  · rw [hF (ad k) (fun j h1 h2 => hM.ne k j (mR_A hk) (hA j h1 h2) (by unfold mR at hk; omega))]; exact h.2.2.1 k hk
theorem Fr6.frl (h : Fr6 I I1 ad) : FrL I I1 ad := fun x hx => h x (hx 11 (by omega) (by omega)) (hx 12 (by omega) (by omega)) (hx 13 (by omega) (by omega)) (hx 14 (by omega) (by omega)) (hx 15 (by omega) (by omega)) (hx 16 (by omega) (by omega))
end MXl
set_option maxRecDepth 100000 in
set_option maxHeartbeats 4000000 in
theorem m_best (l : Launch) {T : gSh} {I : gI} {J : gJ} {R : gR} {m : Nat} {ad : Nat → Nat} (hM : MO T R m ad) {a : gI} {n : gJ} (hA : MA I J m ad a n) {A B h0 : Nat} {w : Nat → Nat} (ok : okW a A B h0 w) : Con l yX12_best wsX12_best ({ frames := 3, cells := 0, slots := 0, locals := 73 }) [.ref m] T I J R (PZ T I J R m ad (.int (vBest a)) (u2 a 0 0 0) n) := by
  refine Con.mk (cc := cX12_best) (maxL := 1) (ret := (some .int)) (by decide) rfl (Nat.le_of_ble_eq_true rfl) ?_
  intro E hE C Z hnm
  subst hE
  change WP E 1 0 0 T I J R 0 [(0, .ref m)] []
  have hX1 := ((MX.i hA).t hM 0).f hM 0 0
  have ok1 := ok.st 0
  have oa := ok.1
  have ob := ok.2.1
  have oh := ok.2.2.1
  have q7 : (a 0 7).toInt = A := by rw [oa.1, nI_toInt (by omega)]
  have q8 : (a 0 8).toInt = B := by rw [ob.1, nI_toInt (by omega)]
  have q9 : (a 0 9).toInt = h0 := by rw [oh.1, nI_toInt (by omega)]
  refine wp_aload_n C 0 dX12_best_0 rfl rfl ?_
  refine wp_iconst C 0 dX12_best_1 (by decide) ?_
  refine wp_putI C dX12_best_2 pX12_best_134 (fun h => nomatch h) hM.ob ?_
  refine wp_aload_n C 0 dX12_best_5 rfl rfl ?_
  refine wp_iconst C 0 dX12_best_6 (by decide) ?_
  refine wp_putI C dX12_best_7 pX12_best_137 (fun h => nomatch h) hM.ob ?_
  refine wp_aload_n C 0 dX12_best_10 rfl rfl ?_
  refine wp_callV C (As := []) (rest := []) dX12_best_11 kX12_best_184 hM.ob (m_bests _ hM (hX1.2.mw ok1) ok1.2.2.2.2) rfl (Nat.le_of_ble_eq_true rfl) (by decide) (by decide) ?_
  rintro _ _ I2 _ _ ⟨v, c, rfl, rfl, rfl, rfl, hF2, hLx, hv, -⟩
  have cb := cB_of ok.2.2.1.1 ok.2.2.1.2.2 ok.2.2.2.1 hLx
  change WP E 1 0 0 T I2 J R 14 [(0, .ref m)] [.int v]
  exact wp_iret C Z dX12_best_14 (by decide) (by decide) ⟨by unfold vBest; rw [← cb.2.2, ← hv, Int32.ofInt_toInt], rfl, rfl, hX1.l hM hF2.frl⟩
set_option maxRecDepth 100000 in
set_option maxHeartbeats 4000000 in
theorem m_meets (l : Launch) {T : gSh} {I : gI} {J : gJ} {R : gR} {m : Nat} {ad : Nat → Nat} (hM : MO T R m ad) {a : gI} {n : gJ} (hA : MA I J m ad a n) {A B h0 : Nat} {w : Nat → Nat} (ok : okW a A B h0 w) (x e : Int32) : Con l yX12_meets wsX12_meets ({ frames := 4, cells := 0, slots := 0, locals := 95 }) [.ref m, .int x, .int e] T I J R (PZ T I J R m ad (.int (vMe a x e)) (u2 a 0 0 (nI (stMe a x e))) n) := by
  refine Con.mk (cc := cX12_meets) (maxL := 4) (ret := (some .int)) (by decide) rfl (Nat.le_of_ble_eq_true rfl) ?_
  intro E hE C Z hnm
  subst hE
  change WP E 4 0 0 T I J R 0 [(0, .ref m), (1, .int x), (2, .int e)] []
  have hX1 := ((MX.i hA).t hM 0).f hM 0 0
  have ok1 := ok.st 0
  have oa := ok.1
  have ob := ok.2.1
  have oh := ok.2.2.1
  have q7 : (a 0 7).toInt = A := by rw [oa.1, nI_toInt (by omega)]
  have q8 : (a 0 8).toInt = B := by rw [ob.1, nI_toInt (by omega)]
  have q9 : (a 0 9).toInt = h0 := by rw [oh.1, nI_toInt (by omega)]
  refine wp_aload_n C 0 dX12_meets_0 rfl rfl ?_
  refine wp_iconst C 0 dX12_meets_1 (by decide) ?_
  refine wp_putI C dX12_meets_2 pX12_meets_134 (fun h => nomatch h) hM.ob ?_
  refine wp_aload_n C 0 dX12_meets_5 rfl rfl ?_
  refine wp_iconst C 0 dX12_meets_6 (by decide) ?_
  refine wp_putI C dX12_meets_7 pX12_meets_137 (fun h => nomatch h) hM.ob ?_
  refine wp_aload_n C 0 dX12_meets_10 rfl rfl ?_
  refine wp_iload_n C 1 dX12_meets_11 rfl rfl ?_
  refine wp_cVi C (As := [.int x]) (rest := []) dX12_meets_12 kX12_meets_167 hM.ob (m_isAgent _ hM x) rfl (Nat.le_of_ble_eq_true rfl) (by decide) (by decide) ?_
  refine wp_eqi (congrArg (fun z : Int32 => bI (0 ≤ x.toInt ∧ x.toInt < z.toInt)) (((u2_k _ _ _ _ (by decide) _).trans (u2_k _ _ _ _ (by decide) _)).trans (hA.1 7 (by decide)))) ?_
  refine wp_if_eq C 26 dX12_meets_15 (by decide) (fun c15 => ?_) (fun c15 => ?_)
  · have c15 : ¬ (0 ≤ x.toInt ∧ x.toInt < (a 0 7).toInt) := fun z => absurd ((bI_t z).symm.trans c15) (by decide)
    refine wp_aload_n C 0 dX12_meets_26 rfl rfl ?_
    refine wp_iconst C 1 dX12_meets_27 (by decide) ?_
    refine wp_cVi C (As := [.int 1]) (rest := []) dX12_meets_28 kX12_meets_164 hM.ob (m_refuse _ hM 1) rfl (Nat.le_of_ble_eq_true rfl) (by decide) (by decide) ?_
    have hst : stMe a x e = 1 := by unfold stMe; rw [if_neg (by omega)]
    exact wp_iret C Z dX12_meets_31 (by decide) (by decide) ⟨by unfold vMe; rw [if_neg (by rw [hst]; decide)], rfl, rfl, by rw [hst]; exact MX.no hA hM 1⟩
  · have c15 : (0 ≤ x.toInt ∧ x.toInt < (a 0 7).toInt) := Classical.byContradiction (fun z => c15 (bI_f z))
    refine wp_aload_n C 0 dX12_meets_18 rfl rfl ?_
    refine wp_iload_n C 2 dX12_meets_19 rfl rfl ?_
    refine wp_cVi C (As := [.int e]) (rest := []) dX12_meets_20 kX12_meets_170 hM.ob (m_isEditor _ hM e) rfl (Nat.le_of_ble_eq_true rfl) (by decide) (by decide) ?_
    refine wp_eqi (congrArg (fun z : Int32 => bI (0 ≤ e.toInt ∧ e.toInt < z.toInt)) (((u2_k _ _ _ _ (by decide) _).trans (u2_k _ _ _ _ (by decide) _)).trans (hA.1 8 (by decide)))) ?_
    refine wp_if_ne C 32 dX12_meets_23 (by decide) (fun c23 => ?_) (fun c23 => ?_)
    · have c23 : (0 ≤ e.toInt ∧ e.toInt < (a 0 8).toInt) := Classical.byContradiction (fun z => c23 (bI_f z))
      refine wp_aload_n C 0 dX12_meets_32 rfl rfl ?_
      refine wp_callV C (As := []) (rest := []) dX12_meets_33 kX12_meets_195 hM.ob (m_lays _ hM (hX1.2.mw ok1) ok1.2.2.2.2) rfl (Nat.le_of_ble_eq_true rfl) (by decide) (by decide) ?_
      rintro _ _ I2 _ _ ⟨rfl, rfl, rfl, rfl, hF2, c, hLx, hTT⟩
      have cb := cB_of ok.2.2.1.1 ok.2.2.1.2.2 ok.2.2.2.1 hLx
      have tb := fun q => tB_of ok.2.2.1.1 ok.2.2.1.2.2 ok.2.2.2.1 hLx q
      have hX2 := hX1.l hM hF2
      have e9 : I2 m 9 = nI h0 := by rw [hX2.2.1 9 (by decide), u2_k _ _ _ _ (by decide)]; exact oh.1
      have tble := fun q hq => tB_le ok.2.2.1.1 ok.2.2.1.2.2 ok.2.2.2.1 hLx (q := q) hq
      change WP E 4 0 0 T I2 J R 36 [(0, .ref m), (1, .int x), (2, .int e)] []
      refine wp_iconst C 0 dX12_meets_36 (by decide) ?_
      refine wp_istore_n C [(3, .int 0), (0, .ref m), (1, .int x), (2, .int e)] dX12_meets_37 rfl (by decide) rfl ?_
      have loop : ∀ i, i ≤ h0 → (∀ j, j < i → ¬ vI (tB a (8 * x.toInt.toNat + j)) = e) → ∀ lv, lv_pick lv [0, 1, 2, 3] = [(0, .ref m), (1, .int x), (2, .int e), (3, .int (nI i))] → WP E 4 0 0 T I2 J R 38 lv [] := by
        refine loopN h0 (fun i hi ih => ?_)
        intro hno lv hlv
        refine wp_lv [0, 1, 2, 3] hlv ?_
        refine wp_iload_n C 3 dX12_meets_38 rfl rfl ?_
        refine wp_aload_n C 0 dX12_meets_39 rfl rfl ?_
        refine wp_getI C dX12_meets_40 fX12_meets_24 hM.ob ?_
        refine wp_eqi e9 ?_
        refine wp_icmp_ge C 69 dX12_meets_43 (by decide) (fun c43 => ?_) (fun c43 => ?_)
        · have c43 : ((h0 : Nat) : Int) ≤ ((i : Nat) : Int) := by have hcv := p_le c43; rw [nI_toInt (show h0 < 2 ^ 31 by omega), nI_toInt (show i < 2 ^ 31 by omega)] at hcv; exact hcv
          refine wp_aload_n C 0 dX12_meets_69 rfl rfl ?_
          refine wp_bipush C 9 dX12_meets_70 (by decide) ?_
          refine wp_cVi C (As := [.int 9]) (rest := []) dX12_meets_72 kX12_meets_164 hM.ob (m_refuse _ hM 9) rfl (Nat.le_of_ble_eq_true rfl) (by decide) (by decide) ?_
          have e8 : h0 = i := by omega
          have hm : hMt a x e = -1 := by unfold hMt; rw [cb.1]; exact fh_n (fun j hj => by show (if _ then 0 else 1) ≠ 0; rw [if_neg (hno j (by omega))]; decide)
          have hst : stMe a x e = 9 := by unfold stMe; rw [if_pos (by omega), if_pos hm]
          have hX3 := hX2.f hM 0 9
          rw [u2_u2 a] at hX3
          exact wp_iret C Z dX12_meets_75 (by decide) (by decide) ⟨by unfold vMe; rw [if_neg (by rw [hst]; decide)], rfl, rfl, by rw [hst]; exact hX3⟩
        · have c43 : ¬ ((h0 : Nat) : Int) ≤ ((i : Nat) : Int) := by have hcv := n_le c43; rw [nI_toInt (show h0 < 2 ^ 31 by omega), nI_toInt (show i < 2 ^ 31 by omega)] at hcv; exact hcv
          refine wp_aload_n C 0 dX12_meets_46 rfl rfl ?_
          refine wp_getR C dX12_meets_47 fX12_meets_50 hM.ob (hM.rf 17 rfl) ?_
          refine wp_bipush C 8 dX12_meets_50 (by decide) ?_
          refine wp_iload_n C 1 dX12_meets_52 rfl rfl ?_
          refine wp_imul C dX12_meets_53 ?_
          refine wp_iload_n C 3 dX12_meets_54 rfl rfl ?_
          refine wp_iadd C dX12_meets_55 ?_
          refine wp_iald C dX12_meets_56 (hM.ar 17 rfl rfl) (j := 8 * x.toInt.toNat + i) (by rw [← nI_add, ← pk_mul, ← nI_nat (show 0 ≤ x.toInt by omega)]; rfl) (by omega) (by decide) ?_
          refine wp_eqi ((hTT.1 _ (by omega)).trans (congrArg vI (tb _))) ?_
          refine wp_iload_n C 2 dX12_meets_57 rfl rfl ?_
          refine wp_icmp_ne C 63 dX12_meets_58 (by decide) (fun c58 => ?_) (fun c58 => ?_)
          · have c58 : ¬ vI (tB a (8 * x.toInt.toNat + i)) = e := c58
            refine wp_iinc C 3 (nI (i + 1)) [(3, .int (nI (i + 1))), (0, .ref m), (1, .int x), (2, .int e)] dX12_meets_63 rfl (nI_1 i) (by decide) rfl ?_
            refine wp_goto C 38 dX12_meets_66 (by decide) ?_
            refine wp_lv [1, 2, 3, 0] rfl ?_
            refine ih (i + 1) (by omega) (by omega) (fun j hj => ?_) _ rfl
            by_cases z : j = i
            · rw [z]; exact c58
            · exact hno j (by omega)
          · have c58 : vI (tB a (8 * x.toInt.toNat + i)) = e := c58
            refine wp_iload_n C 3 dX12_meets_61 rfl rfl ?_
            have hm : hMt a x e = nI i := by unfold hMt; rw [cb.1]; exact fh_y (by omega) (if_pos c58) (fun j hj => by show (if _ then 0 else 1) ≠ 0; rw [if_neg (hno j (by omega))]; decide)
            have hst : stMe a x e = 0 := by unfold stMe; rw [if_pos (by omega), if_neg (by rw [hm]; exact nI_ne1 (by omega))]
            exact wp_iret C Z dX12_meets_62 (by decide) (by decide) ⟨by unfold vMe; rw [if_pos hst, hm], rfl, rfl, by rw [hst]; exact hX2⟩
      refine wp_lv [1, 2, 3, 0] rfl ?_
      exact loop 0 (by omega) (fun j hj => by omega) _ rfl
    · have c23 : ¬ (0 ≤ e.toInt ∧ e.toInt < (a 0 8).toInt) := fun z => absurd ((bI_t z).symm.trans c23) (by decide)
      refine wp_aload_n C 0 dX12_meets_26 rfl rfl ?_
      refine wp_iconst C 1 dX12_meets_27 (by decide) ?_
      refine wp_cVi C (As := [.int 1]) (rest := []) dX12_meets_28 kX12_meets_164 hM.ob (m_refuse _ hM 1) rfl (Nat.le_of_ble_eq_true rfl) (by decide) (by decide) ?_
      have hst : stMe a x e = 1 := by unfold stMe; rw [if_neg (by omega)]
      exact wp_iret C Z dX12_meets_31 (by decide) (by decide) ⟨by unfold vMe; rw [if_neg (by rw [hst]; decide)], rfl, rfl, by rw [hst]; exact MX.no hA hM 1⟩
set_option maxRecDepth 100000 in
set_option maxHeartbeats 4000000 in
theorem m_at (l : Launch) {T : gSh} {I : gI} {J : gJ} {R : gR} {m : Nat} {ad : Nat → Nat} (hM : MO T R m ad) {a : gI} {n : gJ} (hA : MA I J m ad a n) {A B h0 : Nat} {w : Nat → Nat} (ok : okW a A B h0 w) (x h : Int32) : Con l yX12_at wsX12_at ({ frames := 4, cells := 0, slots := 0, locals := 95 }) [.ref m, .int x, .int h] T I J R (PZ T I J R m ad (.int (vAt a x h)) (u2 a 0 0 (nI (stAt a x h))) n) := by
  refine Con.mk (cc := cX12_at) (maxL := 4) (ret := (some .int)) (by decide) rfl (Nat.le_of_ble_eq_true rfl) ?_
  intro E hE C Z hnm
  subst hE
  change WP E 4 0 0 T I J R 0 [(0, .ref m), (1, .int x), (2, .int h)] []
  have hX1 := ((MX.i hA).t hM 0).f hM 0 0
  have ok1 := ok.st 0
  have oa := ok.1
  have ob := ok.2.1
  have oh := ok.2.2.1
  have q7 : (a 0 7).toInt = A := by rw [oa.1, nI_toInt (by omega)]
  have q8 : (a 0 8).toInt = B := by rw [ob.1, nI_toInt (by omega)]
  have q9 : (a 0 9).toInt = h0 := by rw [oh.1, nI_toInt (by omega)]
  refine wp_aload_n C 0 dX12_at_0 rfl rfl ?_
  refine wp_iconst C 0 dX12_at_1 (by decide) ?_
  refine wp_putI C dX12_at_2 pX12_at_134 (fun h => nomatch h) hM.ob ?_
  refine wp_aload_n C 0 dX12_at_5 rfl rfl ?_
  refine wp_iconst C 0 dX12_at_6 (by decide) ?_
  refine wp_putI C dX12_at_7 pX12_at_137 (fun h => nomatch h) hM.ob ?_
  refine wp_aload_n C 0 dX12_at_10 rfl rfl ?_
  refine wp_iload_n C 1 dX12_at_11 rfl rfl ?_
  refine wp_cVi C (As := [.int x]) (rest := []) dX12_at_12 kX12_at_167 hM.ob (m_isAgent _ hM x) rfl (Nat.le_of_ble_eq_true rfl) (by decide) (by decide) ?_
  refine wp_eqi (congrArg (fun z : Int32 => bI (0 ≤ x.toInt ∧ x.toInt < z.toInt)) (((u2_k _ _ _ _ (by decide) _).trans (u2_k _ _ _ _ (by decide) _)).trans (hA.1 7 (by decide)))) ?_
  refine wp_if_ne C 24 dX12_at_15 (by decide) (fun c15 => ?_) (fun c15 => ?_)
  · have c15 : (0 ≤ x.toInt ∧ x.toInt < (a 0 7).toInt) := Classical.byContradiction (fun z => c15 (bI_f z))
    refine wp_iload_n C 2 dX12_at_24 rfl rfl ?_
    refine wp_if_lt C 36 dX12_at_25 (by decide) (fun c25 => ?_) (fun c25 => ?_)
    · have c25 : h.toInt < 0 := by have hcv := p_lt c25; exact hcv
      refine wp_aload_n C 0 dX12_at_36 rfl rfl ?_
      refine wp_iconst C 2 dX12_at_37 (by decide) ?_
      refine wp_cVi C (As := [.int 2]) (rest := []) dX12_at_38 kX12_at_164 hM.ob (m_refuse _ hM 2) rfl (Nat.le_of_ble_eq_true rfl) (by decide) (by decide) ?_
      have hsh : stHr a x h = 2 := by simp only [stHr]; (repeat' split) <;> omega
      have hst : stAt a x h = 2 := by unfold stAt; rw [if_neg (by rw [hsh]; decide), hsh]
      exact wp_iret C Z dX12_at_41 (by decide) (by decide) ⟨by unfold vAt; rw [if_neg (by rw [hst]; decide)], rfl, rfl, by rw [hst]; exact MX.no hA hM 2⟩
    · have c25 : ¬ h.toInt < 0 := by have hcv := n_lt c25; exact hcv
      refine wp_iload_n C 2 dX12_at_28 rfl rfl ?_
      refine wp_aload_n C 0 dX12_at_29 rfl rfl ?_
      refine wp_getI C dX12_at_30 fX12_at_24 hM.ob ?_
      refine wp_eqi (((u2_k _ _ _ _ (by decide) _).trans (u2_k _ _ _ _ (by decide) _)).trans (hA.1 9 (by decide))) ?_
      refine wp_icmp_lt C 42 dX12_at_33 (by decide) (fun c33 => ?_) (fun c33 => ?_)
      · have c33 : h.toInt < (a 0 9).toInt := by have hcv := p_lt c33; exact hcv
        refine wp_aload_n C 0 dX12_at_42 rfl rfl ?_
        refine wp_callV C (As := []) (rest := []) dX12_at_43 kX12_at_195 hM.ob (m_lays _ hM (hX1.2.mw ok1) ok1.2.2.2.2) rfl (Nat.le_of_ble_eq_true rfl) (by decide) (by decide) ?_
        rintro _ _ I2 _ _ ⟨rfl, rfl, rfl, rfl, hF2, c, hLx, hTT⟩
        have cb := cB_of ok.2.2.1.1 ok.2.2.1.2.2 ok.2.2.2.1 hLx
        have tb := fun q => tB_of ok.2.2.1.1 ok.2.2.1.2.2 ok.2.2.2.1 hLx q
        have hX2 := hX1.l hM hF2
        have e9 : I2 m 9 = nI h0 := by rw [hX2.2.1 9 (by decide), u2_k _ _ _ _ (by decide)]; exact oh.1
        have tble := fun q hq => tB_le ok.2.2.1.1 ok.2.2.1.2.2 ok.2.2.2.1 hLx (q := q) hq
        change WP E 4 0 0 T I2 J R 46 [(0, .ref m), (1, .int x), (2, .int h)] []
        refine wp_aload_n C 0 dX12_at_46 rfl rfl ?_
        refine wp_getR C dX12_at_47 fX12_at_50 hM.ob (hM.rf 17 rfl) ?_
        refine wp_bipush C 8 dX12_at_50 (by decide) ?_
        refine wp_iload_n C 1 dX12_at_52 rfl rfl ?_
        refine wp_imul C dX12_at_53 ?_
        refine wp_iload_n C 2 dX12_at_54 rfl rfl ?_
        refine wp_iadd C dX12_at_55 ?_
        refine wp_iald C dX12_at_56 (hM.ar 17 rfl rfl) (j := 8 * x.toInt.toNat + h.toInt.toNat) (by rw [← nI_add, ← pk_mul, ← nI_nat (show 0 ≤ x.toInt by omega), ← nI_nat (show 0 ≤ h.toInt by omega)]; rfl) (by omega) (by decide) ?_
        refine wp_eqi ((hTT.1 _ (by omega)).trans (congrArg vI (tb _))) ?_
        refine wp_istore_n C [(3, .int (vI (tB a (8 * x.toInt.toNat + h.toInt.toNat)))), (0, .ref m), (1, .int x), (2, .int h)] dX12_at_57 rfl (by decide) rfl ?_
        refine wp_iload_n C 0 dX12_at_58 rfl rfl ?_
        refine wp_if_ge C 71 dX12_at_59 (by decide) (fun c59 => ?_) (fun c59 => ?_)
        · have c59 : ¬ tB a (8 * x.toInt.toNat + h.toInt.toNat) = 0 := by have hcv := p_le c59; have hb := tble (8 * x.toInt.toNat + h.toInt.toNat) (by omega); rw [vI_toInt (by omega), show ((0 : Int32)).toInt = 0 from rfl] at hcv; omega
          refine wp_iload_n C 0 dX12_at_71 rfl rfl ?_
          have hsh : stHr a x h = 0 := by simp only [stHr]; (repeat' split) <;> omega
          have hst : stAt a x h = 0 := by unfold stAt; rw [if_pos hsh, if_neg c59]
          exact wp_iret C Z dX12_at_72 (by decide) (by decide) ⟨by unfold vAt; rw [if_pos hst], rfl, rfl, by rw [hst]; exact hX2⟩
        · have c59 : tB a (8 * x.toInt.toNat + h.toInt.toNat) = 0 := by have hcv := n_le c59; have hb := tble (8 * x.toInt.toNat + h.toInt.toNat) (by omega); rw [vI_toInt (by omega), show ((0 : Int32)).toInt = 0 from rfl] at hcv; omega
          refine wp_aload_n C 1 dX12_at_62 rfl rfl ?_
          refine wp_bipush C 9 dX12_at_63 (by decide) ?_
          refine wp_cVi C (As := [.int 9]) (rest := []) dX12_at_65 kX12_at_164 hM.ob (m_refuse _ hM 9) rfl (Nat.le_of_ble_eq_true rfl) (by decide) (by decide) ?_
          refine wp_goto C 72 dX12_at_68 (by decide) ?_
          have hsh : stHr a x h = 0 := by simp only [stHr]; (repeat' split) <;> omega
          have hst : stAt a x h = 9 := by unfold stAt; rw [if_pos hsh, if_pos c59]
          have hX3 := hX2.f hM 0 9
          rw [u2_u2 a] at hX3
          exact wp_iret C Z dX12_at_72 (by decide) (by decide) ⟨by unfold vAt; rw [if_neg (by rw [hst]; decide)], rfl, rfl, by rw [hst]; exact hX3⟩
      · have c33 : ¬ h.toInt < (a 0 9).toInt := by have hcv := n_lt c33; exact hcv
        refine wp_aload_n C 0 dX12_at_36 rfl rfl ?_
        refine wp_iconst C 2 dX12_at_37 (by decide) ?_
        refine wp_cVi C (As := [.int 2]) (rest := []) dX12_at_38 kX12_at_164 hM.ob (m_refuse _ hM 2) rfl (Nat.le_of_ble_eq_true rfl) (by decide) (by decide) ?_
        have hsh : stHr a x h = 2 := by simp only [stHr]; (repeat' split) <;> omega
        have hst : stAt a x h = 2 := by unfold stAt; rw [if_neg (by rw [hsh]; decide), hsh]
        exact wp_iret C Z dX12_at_41 (by decide) (by decide) ⟨by unfold vAt; rw [if_neg (by rw [hst]; decide)], rfl, rfl, by rw [hst]; exact MX.no hA hM 2⟩
  · have c15 : ¬ (0 ≤ x.toInt ∧ x.toInt < (a 0 7).toInt) := fun z => absurd ((bI_t z).symm.trans c15) (by decide)
    refine wp_aload_n C 0 dX12_at_18 rfl rfl ?_
    refine wp_iconst C 1 dX12_at_19 (by decide) ?_
    refine wp_cVi C (As := [.int 1]) (rest := []) dX12_at_20 kX12_at_164 hM.ob (m_refuse _ hM 1) rfl (Nat.le_of_ble_eq_true rfl) (by decide) (by decide) ?_
    have hsh : stHr a x h = 1 := by simp only [stHr]; (repeat' split) <;> omega
    have hst : stAt a x h = 1 := by unfold stAt; rw [if_neg (by rw [hsh]; decide), hsh]
    exact wp_iret C Z dX12_at_23 (by decide) (by decide) ⟨by unfold vAt; rw [if_neg (by rw [hst]; decide)], rfl, rfl, by rw [hst]; exact MX.no hA hM 1⟩
