/-! ===== offers of the reference ===== -/
def okF (a : gI) : Prop := (0 ≤ (a 0 24).toInt ∧ (a 0 24).toInt ≤ 60) ∧ ∀ i, i < fN_ a → vR (ov a i) ∧ (0 ≤ (a 40 i).toInt ∧ (a 40 i).toInt < 12) ∧ (0 ≤ (a 41 i).toInt ∧ (a 41 i).toInt < 10)
theorem KF.ok {T : gSh} {I : gI} {R : gR} {ca : Nat → Nat} {a : gI} (k : KF T I R ca a) : okF a := by
  have h := k.ar
  obtain ⟨c, k1, k2, k3, k4, fa, rb, k5, -⟩ := k
  have e : fN_ a = c := by unfold fN_; rw [k3, nI_toInt (by omega)]; rfl
  refine ⟨⟨h.2.1, h.2.2.1⟩, fun i hi => ?_⟩
  obtain ⟨p1, p2, p3, p4, p5, p6, p7, ⟨x, x12, ex⟩, ⟨y, y10, ey⟩, -⟩ := k5 i (by omega)
  exact ⟨p5, by rw [ex, nI_toInt (by omega)]; omega, by rw [ey, nI_toInt (by omega)]; omega⟩
theorem okG.of {a a' : gI} (h : okG a) (h0 : a' 0 22 = a 0 22) (hr : ∀ r, 29 ≤ r → r ≤ 35 → a' r = a r) : okG a' := by
  have eg : gN_ a' = gN_ a := by unfold gN_; rw [h0]
  refine ⟨by rw [h0]; exact h.1, fun i hi => ?_⟩
  obtain ⟨q1, q2, q3⟩ := h.2 i (by omega)
  have ev : ∀ k, k < 5 → gv a' i k = gv a i k := fun k hk => by unfold gv; rw [hr (30 + k) (by omega) (by omega)]
  rw [hr 29 (by omega) (by omega), hr 35 (by omega) (by omega)]
  refine ⟨?_, q2, q3⟩
  unfold vR at q1 ⊢
  rw [ev 0 (by omega), ev 1 (by omega), ev 2 (by omega), ev 3 (by omega), ev 4 (by omega)]
  exact q1
theorem okG.add {a : gI} (h : okG a) (h60 : (a 0 22).toInt < 60) {b e : Int32} {v : Nat → Int32} (hv : vR v) (he : 0 ≤ e.toInt) : okG (aGr a b e v) := by
  have h0 := h.1
  obtain ⟨g, hg, eg⟩ := natOf h0.1
  have e1 : gN_ a = g := by unfold gN_; omega
  have e22 : aGr a b e v 0 22 = nI (g + 1) := by show a 0 22 + 1 = _; rw [eg, nI_1]
  have e2 : gN_ (aGr a b e v) = g + 1 := by unfold gN_; rw [e22, nI_toInt (by omega)]; rfl
  refine ⟨by rw [e22, nI_toInt (by omega)]; omega, fun i hi => ?_⟩
  by_cases z : i = g
  · have w : aGr a b e v 29 i = e ∧ aGr a b e v 30 i = v 0 ∧ aGr a b e v 31 i = v 1 ∧ aGr a b e v 32 i = v 2 ∧ aGr a b e v 33 i = v 3 ∧ aGr a b e v 34 i = v 4 ∧ aGr a b e v 35 i = -1 := by
      unfold aGr
      rw [e1, z]
      simp [u2]
    obtain ⟨w29, w30, w31, w32, w33, w34, w35⟩ := w
    refine ⟨?_, by rw [w29]; exact he, Or.inl (by rw [w35]; rfl)⟩
    have ev : gv (aGr a b e v) i 0 = v 0 ∧ gv (aGr a b e v) i 1 = v 1 ∧ gv (aGr a b e v) i 2 = v 2 ∧ gv (aGr a b e v) i 3 = v 3 ∧ gv (aGr a b e v) i 4 = v 4 := ⟨w30, w31, w32, w33, w34⟩
    unfold vR at hv ⊢
    rw [ev.1, ev.2.1, ev.2.2.1, ev.2.2.2.1, ev.2.2.2.2]
    exact hv
  · have rn : ∀ r, r ≠ 0 → aGr a b e v r i = a r i := fun r hr => by
      unfold aGr
      rw [e1, u2_a _ _ _ _ hr, u2_k _ _ _ _ z, u2_k _ _ _ _ z, u2_k _ _ _ _ z, u2_k _ _ _ _ z, u2_k _ _ _ _ z, u2_k _ _ _ _ z, u2_k _ _ _ _ z, u2_k _ _ _ _ z]
    obtain ⟨q1, q2, q3⟩ := h.2 i (by omega)
    rw [rn 29 (by decide), rn 35 (by decide)]
    refine ⟨?_, q2, q3⟩
    have ev : ∀ k, k < 5 → gv (aGr a b e v) i k = gv a i k := fun k hk => rn (30 + k) (by omega)
    unfold vR at q1 ⊢
    rw [ev 0 (by omega), ev 1 (by omega), ev 2 (by omega), ev 3 (by omega), ev 4 (by omega)]
    exact q1
def ovR (a : gI) (i : Nat) : Nat → Int32 := rv (a 42 i) (a 43 i) (a 44 i) (a 45 i) (a 46 i)
theorem clN_rv (a c : gI) (b : Int32) (i : Nat) : clN a b (rv (c 42 i) (c 43 i) (c 44 i) (c 45 i) (c 46 i)) = clN a b (ov c i) := by
  have h : hitN a b (rv (c 42 i) (c 43 i) (c 44 i) (c 45 i) (c 46 i)) = hitN a b (ov c i) := by funext j; rfl
  unfold clN own
  rw [h]
theorem mbN_rv (a : gI) (b e : Int32) (i : Nat) (mi : Int32) : mbN a b e (rv (a 42 i) (a 43 i) (a 44 i) (a 45 i) (a 46 i)) mi = mbN a b e (ov a i) mi := by
  unfold mbN
  rw [clN_rv]
theorem stMa_s (a : gI) (b e : Int32) (v : Nat → Int32) (mi : Int32) : (stMa a b e v mi = 0 ∧ ((0 ≤ b.toInt ∧ b.toInt < (a 0 21).toInt) ∧ (0 ≤ e.toInt ∧ e.toInt < (a 0 8).toInt)) ∧ can v = 1 ∧ (0 ≤ mi.toInt ∧ mi.toInt ≤ 100000)) ∨ (stMa a b e v mi = 1 ∧ ¬ ((0 ≤ b.toInt ∧ b.toInt < (a 0 21).toInt) ∧ (0 ≤ e.toInt ∧ e.toInt < (a 0 8).toInt))) ∨ (stMa a b e v mi = 2 ∧ ((0 ≤ b.toInt ∧ b.toInt < (a 0 21).toInt) ∧ (0 ≤ e.toInt ∧ e.toInt < (a 0 8).toInt)) ∧ ¬ (can v = 1 ∧ (0 ≤ mi.toInt ∧ mi.toInt ≤ 100000))) := by
  simp only [stMa]; (repeat' split) <;> omega
theorem stAs_s (a : gI) (o mi : Int32) : (stAs a o mi = 0 ∧ (0 ≤ o.toInt ∧ o.toInt < (a 0 24).toInt) ∧ (0 ≤ mi.toInt ∧ mi.toInt ≤ 100000) ∧ (a 0 25).toInt ≤ mi.toInt) ∨ (stAs a o mi = 1 ∧ ¬ (0 ≤ o.toInt ∧ o.toInt < (a 0 24).toInt)) ∨ (stAs a o mi = 2 ∧ (0 ≤ o.toInt ∧ o.toInt < (a 0 24).toInt) ∧ ¬ (0 ≤ mi.toInt ∧ mi.toInt ≤ 100000)) ∨ (stAs a o mi = 3 ∧ (0 ≤ o.toInt ∧ o.toInt < (a 0 24).toInt) ∧ (0 ≤ mi.toInt ∧ mi.toInt ≤ 100000) ∧ mi.toInt < (a 0 25).toInt) := by
  simp only [stAs]; (repeat' split) <;> omega
theorem mkN_s (a : gI) (mi : Int32) (i : Nat) : (mkN a mi i).toInt = 0 ↔ ((a 48 i).toInt = 0 ∧ mi.toInt ≤ (a 47 i).toInt) := by
  unfold mkN
  by_cases h : (a 48 i).toInt = 0 ∧ (a 47 i).toInt < mi.toInt
  · rw [if_pos h]; exact ⟨fun z => absurd z (by decide), fun z => by omega⟩
  · rw [if_neg h]; omega
set_option maxRecDepth 100000 in
set_option maxHeartbeats 4000000 in
theorem m_offer (l : Launch) {T : gSh} {I : gI} {J : gJ} {R : gR} {m : Nat} {ad : Nat → Nat} (hM : MO T R m ad) {a : gI} {n : gJ} (hA : MA I J m ad a n) (hN : okN a) (hB : okB a) (hG : okG a) (hO : okO a) (hFo : okF a) (b e p t f d u mi en : Int32) : Con l yX12_offer wsX12_offer ({ frames := 4, cells := 0, slots := 0, locals := 98 }) [.ref m, .int b, .int e, .int p, .int t, .int f, .int d, .int u, .int mi, .int en] T I J R (PZ T I J R m ad (.int (if stOf a b e (rv p t f d u) mi en = 0 then a 0 24 else -1)) (aOf a b e (rv p t f d u) mi en) n) := by
  refine Con.mk (cc := cX12_offer) (maxL := 10) (ret := (some .int)) (by decide) rfl (Nat.le_of_ble_eq_true rfl) ?_
  intro E hE C Z hnm
  subst hE
  change WP E 10 0 0 T I J R 0 [(0, .ref m), (1, .int b), (2, .int e), (3, .int p), (4, .int t), (5, .int f), (6, .int d), (7, .int u), (8, .int mi), (9, .int en)] []
  have hX1 := ((MX.i hA).t hM 0).f hM 0 0
  unfold okN at hN
  unfold okB at hB
  have f60 := hFo.1
  have hca := can_le (rv p t f d u)
  have hml := mbN_le a b e (rv p t f d u) mi
  have hsm := stMa_s a b e (rv p t f d u) mi
  refine wp_aload_n C 0 dX12_offer_0 rfl rfl ?_
  refine wp_iconst C 0 dX12_offer_1 (by decide) ?_
  refine wp_putI C dX12_offer_2 pX12_offer_134 (fun h => nomatch h) hM.ob ?_
  refine wp_aload_n C 0 dX12_offer_5 rfl rfl ?_
  refine wp_iconst C 0 dX12_offer_6 (by decide) ?_
  refine wp_putI C dX12_offer_7 pX12_offer_137 (fun h => nomatch h) hM.ob ?_
  refine wp_aload_n C 0 dX12_offer_10 rfl rfl ?_
  refine wp_iload_n C 1 dX12_offer_11 rfl rfl ?_
  refine wp_cVi C (As := [.int b]) (rest := []) dX12_offer_12 kX12_offer_209 hM.ob (m_isBook _ hM b) rfl (Nat.le_of_ble_eq_true rfl) (by decide) (by decide) ?_
  refine wp_eqi (congrArg (fun z : Int32 => bI (0 ≤ b.toInt ∧ b.toInt < z.toInt)) (((u2_k _ _ _ _ (by decide) _).trans (u2_k _ _ _ _ (by decide) _)).trans (hA.1 21 (by decide)))) ?_
  refine wp_if_eq C 26 dX12_offer_15 (by decide) (fun c15 => ?_) (fun c15 => ?_)
  · have c15 : ¬ (0 ≤ b.toInt ∧ b.toInt < (a 0 21).toInt) := fun z => absurd ((bI_t z).symm.trans c15) (by decide)
    refine wp_aload_n C 0 dX12_offer_26 rfl rfl ?_
    refine wp_iconst C 1 dX12_offer_27 (by decide) ?_
    refine wp_cVi C (As := [.int 1]) (rest := []) dX12_offer_28 kX12_offer_164 hM.ob (m_refuse _ hM 1) rfl (Nat.le_of_ble_eq_true rfl) (by decide) (by decide) ?_
    have hst : stOf a b e (rv p t f d u) mi en = 1 := by simp only [stOf]; (repeat' split) <;> omega
    have hs0 : ¬ stOf a b e (rv p t f d u) mi en = 0 := by rw [hst]; decide
    exact wp_iret C Z dX12_offer_31 (by decide) (by decide) ⟨by rw [if_neg hs0], rfl, rfl, by unfold aOf; rw [if_neg hs0, hst]; exact MX.no hA hM 1⟩
  · have c15 : (0 ≤ b.toInt ∧ b.toInt < (a 0 21).toInt) := Classical.byContradiction (fun z => c15 (bI_f z))
    refine wp_aload_n C 0 dX12_offer_18 rfl rfl ?_
    refine wp_iload_n C 2 dX12_offer_19 rfl rfl ?_
    refine wp_cVi C (As := [.int e]) (rest := []) dX12_offer_20 kX12_offer_170 hM.ob (m_isEditor _ hM e) rfl (Nat.le_of_ble_eq_true rfl) (by decide) (by decide) ?_
    refine wp_eqi (congrArg (fun z : Int32 => bI (0 ≤ e.toInt ∧ e.toInt < z.toInt)) (((u2_k _ _ _ _ (by decide) _).trans (u2_k _ _ _ _ (by decide) _)).trans (hA.1 8 (by decide)))) ?_
    refine wp_if_ne C 32 dX12_offer_23 (by decide) (fun c23 => ?_) (fun c23 => ?_)
    · have c23 : (0 ≤ e.toInt ∧ e.toInt < (a 0 8).toInt) := Classical.byContradiction (fun z => c23 (bI_f z))
      refine wp_iload_n C 3 dX12_offer_32 rfl rfl ?_
      refine wp_iload C 4 dX12_offer_33 rfl ?_
      refine wp_iload C 5 dX12_offer_35 rfl ?_
      refine wp_iload C 6 dX12_offer_37 rfl ?_
      refine wp_iload C 7 dX12_offer_39 rfl ?_
      refine wp_cSi C (As := [.int p, .int t, .int f, .int d, .int u]) (rest := []) dX12_offer_41 kX12_offer_230 (m_areRights _ p t f d u) rfl (Nat.le_of_ble_eq_true rfl) (by decide) (by decide) ?_
      refine wp_if_eq C 70 dX12_offer_44 (by decide) (fun c44 => ?_) (fun c44 => ?_)
      · have c44 : ((can (rv p t f d u) : Nat) : Int) = 0 := by have hcv := p_eq c44; rw [nI_toInt (show can (rv p t f d u) < 2 ^ 31 by omega)] at hcv; exact hcv
        refine wp_aload_n C 0 dX12_offer_70 rfl rfl ?_
        refine wp_iconst C 2 dX12_offer_71 (by decide) ?_
        refine wp_cVi C (As := [.int 2]) (rest := []) dX12_offer_72 kX12_offer_164 hM.ob (m_refuse _ hM 2) rfl (Nat.le_of_ble_eq_true rfl) (by decide) (by decide) ?_
        have hst : stOf a b e (rv p t f d u) mi en = 2 := by simp only [stOf]; (repeat' split) <;> omega
        have hs0 : ¬ stOf a b e (rv p t f d u) mi en = 0 := by rw [hst]; decide
        exact wp_iret C Z dX12_offer_75 (by decide) (by decide) ⟨by rw [if_neg hs0], rfl, rfl, by unfold aOf; rw [if_neg hs0, hst]; exact MX.no hA hM 2⟩
      · have c44 : ¬ ((can (rv p t f d u) : Nat) : Int) = 0 := by have hcv := n_eq c44; rw [nI_toInt (show can (rv p t f d u) < 2 ^ 31 by omega)] at hcv; exact hcv
        refine wp_iload C 8 dX12_offer_47 rfl ?_
        refine wp_cSi C (As := [.int mi]) (rest := []) dX12_offer_49 kX12_offer_251 (m_isMinute _ mi) rfl (Nat.le_of_ble_eq_true rfl) (by decide) (by decide) ?_
        refine wp_if_eq C 70 dX12_offer_52 (by decide) (fun c52 => ?_) (fun c52 => ?_)
        · have c52 : ¬ (0 ≤ mi.toInt ∧ mi.toInt ≤ 100000) := fun z => absurd ((bI_t z).symm.trans c52) (by decide)
          refine wp_aload_n C 0 dX12_offer_70 rfl rfl ?_
          refine wp_iconst C 2 dX12_offer_71 (by decide) ?_
          refine wp_cVi C (As := [.int 2]) (rest := []) dX12_offer_72 kX12_offer_164 hM.ob (m_refuse _ hM 2) rfl (Nat.le_of_ble_eq_true rfl) (by decide) (by decide) ?_
          have hst : stOf a b e (rv p t f d u) mi en = 2 := by simp only [stOf]; (repeat' split) <;> omega
          have hs0 : ¬ stOf a b e (rv p t f d u) mi en = 0 := by rw [hst]; decide
          exact wp_iret C Z dX12_offer_75 (by decide) (by decide) ⟨by rw [if_neg hs0], rfl, rfl, by unfold aOf; rw [if_neg hs0, hst]; exact MX.no hA hM 2⟩
        · have c52 : (0 ≤ mi.toInt ∧ mi.toInt ≤ 100000) := Classical.byContradiction (fun z => c52 (bI_f z))
          refine wp_iload C 9 dX12_offer_55 rfl ?_
          refine wp_cSi C (As := [.int en]) (rest := []) dX12_offer_57 kX12_offer_251 (m_isMinute _ en) rfl (Nat.le_of_ble_eq_true rfl) (by decide) (by decide) ?_
          refine wp_if_eq C 70 dX12_offer_60 (by decide) (fun c60 => ?_) (fun c60 => ?_)
          · have c60 : ¬ (0 ≤ en.toInt ∧ en.toInt ≤ 100000) := fun z => absurd ((bI_t z).symm.trans c60) (by decide)
            refine wp_aload_n C 0 dX12_offer_70 rfl rfl ?_
            refine wp_iconst C 2 dX12_offer_71 (by decide) ?_
            refine wp_cVi C (As := [.int 2]) (rest := []) dX12_offer_72 kX12_offer_164 hM.ob (m_refuse _ hM 2) rfl (Nat.le_of_ble_eq_true rfl) (by decide) (by decide) ?_
            have hst : stOf a b e (rv p t f d u) mi en = 2 := by simp only [stOf]; (repeat' split) <;> omega
            have hs0 : ¬ stOf a b e (rv p t f d u) mi en = 0 := by rw [hst]; decide
            exact wp_iret C Z dX12_offer_75 (by decide) (by decide) ⟨by rw [if_neg hs0], rfl, rfl, by unfold aOf; rw [if_neg hs0, hst]; exact MX.no hA hM 2⟩
          · have c60 : (0 ≤ en.toInt ∧ en.toInt ≤ 100000) := Classical.byContradiction (fun z => c60 (bI_f z))
            refine wp_iload C 9 dX12_offer_63 rfl ?_
            refine wp_iload C 8 dX12_offer_65 rfl ?_
            refine wp_icmp_gt C 76 dX12_offer_67 (by decide) (fun c67 => ?_) (fun c67 => ?_)
            · have c67 : mi.toInt < en.toInt := by have hcv := p_lt c67; exact hcv
              refine wp_iload C 8 dX12_offer_76 rfl ?_
              refine wp_aload_n C 0 dX12_offer_78 rfl rfl ?_
              refine wp_getI C dX12_offer_79 fX12_offer_285 hM.ob ?_
              refine wp_eqi (((u2_k _ _ _ _ (by decide) _).trans (u2_k _ _ _ _ (by decide) _)).trans (hA.1 25 (by decide))) ?_
              refine wp_icmp_ge C 91 dX12_offer_82 (by decide) (fun c82 => ?_) (fun c82 => ?_)
              · have c82 : (a 0 25).toInt ≤ mi.toInt := by have hcv := p_le c82; exact hcv
                refine wp_aload_n C 0 dX12_offer_91 rfl rfl ?_
                refine wp_getI C dX12_offer_92 fX12_offer_288 hM.ob ?_
                refine wp_eqi (((u2_k _ _ _ _ (by decide) _).trans (u2_k _ _ _ _ (by decide) _)).trans (hA.1 24 (by decide))) ?_
                refine wp_bipush C 60 dX12_offer_95 (by decide) ?_
                refine wp_icmp_ne C 107 dX12_offer_97 (by decide) (fun c97 => ?_) (fun c97 => ?_)
                · have c97 : ¬ (a 0 24).toInt = 60 := by have hcv := n_eq c97; exact hcv
                  refine wp_aload_n C 0 dX12_offer_107 rfl rfl ?_
                  refine wp_iload_n C 1 dX12_offer_108 rfl rfl ?_
                  refine wp_iload_n C 2 dX12_offer_109 rfl rfl ?_
                  refine wp_iload_n C 3 dX12_offer_110 rfl rfl ?_
                  refine wp_iload C 4 dX12_offer_111 rfl ?_
                  refine wp_iload C 5 dX12_offer_113 rfl ?_
                  refine wp_iload C 6 dX12_offer_115 rfl ?_
                  refine wp_iload C 7 dX12_offer_117 rfl ?_
                  refine wp_iload C 8 dX12_offer_119 rfl ?_
                  refine wp_cVi C (As := [.int b, .int e, .int p, .int t, .int f, .int d, .int u, .int mi]) (rest := []) dX12_offer_121 kX12_offer_257 hM.ob (m_mayBe _ hM hX1.2 (hG.st 0) hO (by omega) (by omega) p t f d u mi) rfl (Nat.le_of_ble_eq_true rfl) (by decide) (by decide) ?_
                  refine wp_eqi (congrArg nI (mbN_st a 0 b e _ mi)) ?_
                  refine wp_if_ne C 134 dX12_offer_124 (by decide) (fun c124 => ?_) (fun c124 => ?_)
                  · have c124 : ¬ ((mbN a b e (rv p t f d u) mi : Nat) : Int) = 0 := by have hcv := n_eq c124; rw [nI_toInt (show mbN a b e (rv p t f d u) mi < 2 ^ 31 by omega)] at hcv; exact hcv
                    refine wp_aload_n C 0 dX12_offer_134 rfl rfl ?_
                    refine wp_getR C dX12_offer_135 fX12_offer_104 hM.ob (hM.rf 40 rfl) ?_
                    refine wp_aload_n C 0 dX12_offer_138 rfl rfl ?_
                    refine wp_getI C dX12_offer_139 fX12_offer_288 hM.ob ?_
                    refine wp_eqi (((u2_k _ _ _ _ (by decide) _).trans (u2_k _ _ _ _ (by decide) _)).trans (hA.1 24 (by decide))) ?_
                    refine wp_iload_n C 1 dX12_offer_142 rfl rfl ?_
                    refine wp_iast C dX12_offer_143 (hM.ar 40 rfl rfl) (j := fN_ a) (nI_nat (by omega)) (by unfold fN_; omega) (by decide) ?_
                    refine wp_aload_n C 0 dX12_offer_144 rfl rfl ?_
                    refine wp_getR C dX12_offer_145 fX12_offer_107 hM.ob (hM.rf 41 rfl) ?_
                    refine wp_aload_n C 0 dX12_offer_148 rfl rfl ?_
                    refine wp_getI C dX12_offer_149 fX12_offer_288 hM.ob ?_
                    refine wp_eqi (((u2_a _ _ _ _ (Ne.symm (hM.nm 40 rfl)) _).trans ((u2_k _ _ _ _ (by decide) _).trans (u2_k _ _ _ _ (by decide) _))).trans (hA.1 24 (by decide))) ?_
                    refine wp_iload_n C 2 dX12_offer_152 rfl rfl ?_
                    refine wp_iast C dX12_offer_153 (hM.ar 41 rfl rfl) (j := fN_ a) (nI_nat (by omega)) (by unfold fN_; omega) (by decide) ?_
                    refine wp_aload_n C 0 dX12_offer_154 rfl rfl ?_
                    refine wp_getR C dX12_offer_155 fX12_offer_110 hM.ob (hM.rf 42 rfl) ?_
                    refine wp_aload_n C 0 dX12_offer_158 rfl rfl ?_
                    refine wp_getI C dX12_offer_159 fX12_offer_288 hM.ob ?_
                    refine wp_eqi (((u2_a _ _ _ _ (Ne.symm (hM.nm 41 rfl)) _).trans ((u2_a _ _ _ _ (Ne.symm (hM.nm 40 rfl)) _).trans ((u2_k _ _ _ _ (by decide) _).trans (u2_k _ _ _ _ (by decide) _)))).trans (hA.1 24 (by decide))) ?_
                    refine wp_iload_n C 3 dX12_offer_162 rfl rfl ?_
                    refine wp_iast C dX12_offer_163 (hM.ar 42 rfl rfl) (j := fN_ a) (nI_nat (by omega)) (by unfold fN_; omega) (by decide) ?_
                    refine wp_aload_n C 0 dX12_offer_164 rfl rfl ?_
                    refine wp_getR C dX12_offer_165 fX12_offer_113 hM.ob (hM.rf 43 rfl) ?_
                    refine wp_aload_n C 0 dX12_offer_168 rfl rfl ?_
                    refine wp_getI C dX12_offer_169 fX12_offer_288 hM.ob ?_
                    refine wp_eqi (((u2_a _ _ _ _ (Ne.symm (hM.nm 42 rfl)) _).trans ((u2_a _ _ _ _ (Ne.symm (hM.nm 41 rfl)) _).trans ((u2_a _ _ _ _ (Ne.symm (hM.nm 40 rfl)) _).trans ((u2_k _ _ _ _ (by decide) _).trans (u2_k _ _ _ _ (by decide) _))))).trans (hA.1 24 (by decide))) ?_
                    refine wp_iload C 4 dX12_offer_172 rfl ?_
                    refine wp_iast C dX12_offer_174 (hM.ar 43 rfl rfl) (j := fN_ a) (nI_nat (by omega)) (by unfold fN_; omega) (by decide) ?_
                    refine wp_aload_n C 0 dX12_offer_175 rfl rfl ?_
                    refine wp_getR C dX12_offer_176 fX12_offer_116 hM.ob (hM.rf 44 rfl) ?_
                    refine wp_aload_n C 0 dX12_offer_179 rfl rfl ?_
                    refine wp_getI C dX12_offer_180 fX12_offer_288 hM.ob ?_
                    refine wp_eqi (((u2_a _ _ _ _ (Ne.symm (hM.nm 43 rfl)) _).trans ((u2_a _ _ _ _ (Ne.symm (hM.nm 42 rfl)) _).trans ((u2_a _ _ _ _ (Ne.symm (hM.nm 41 rfl)) _).trans ((u2_a _ _ _ _ (Ne.symm (hM.nm 40 rfl)) _).trans ((u2_k _ _ _ _ (by decide) _).trans (u2_k _ _ _ _ (by decide) _)))))).trans (hA.1 24 (by decide))) ?_
                    refine wp_iload C 5 dX12_offer_183 rfl ?_
                    refine wp_iast C dX12_offer_185 (hM.ar 44 rfl rfl) (j := fN_ a) (nI_nat (by omega)) (by unfold fN_; omega) (by decide) ?_
                    refine wp_aload_n C 0 dX12_offer_186 rfl rfl ?_
                    refine wp_getR C dX12_offer_187 fX12_offer_119 hM.ob (hM.rf 45 rfl) ?_
                    refine wp_aload_n C 0 dX12_offer_190 rfl rfl ?_
                    refine wp_getI C dX12_offer_191 fX12_offer_288 hM.ob ?_
                    refine wp_eqi (((u2_a _ _ _ _ (Ne.symm (hM.nm 44 rfl)) _).trans ((u2_a _ _ _ _ (Ne.symm (hM.nm 43 rfl)) _).trans ((u2_a _ _ _ _ (Ne.symm (hM.nm 42 rfl)) _).trans ((u2_a _ _ _ _ (Ne.symm (hM.nm 41 rfl)) _).trans ((u2_a _ _ _ _ (Ne.symm (hM.nm 40 rfl)) _).trans ((u2_k _ _ _ _ (by decide) _).trans (u2_k _ _ _ _ (by decide) _))))))).trans (hA.1 24 (by decide))) ?_
                    refine wp_iload C 6 dX12_offer_194 rfl ?_
                    refine wp_iast C dX12_offer_196 (hM.ar 45 rfl rfl) (j := fN_ a) (nI_nat (by omega)) (by unfold fN_; omega) (by decide) ?_
                    refine wp_aload_n C 0 dX12_offer_197 rfl rfl ?_
                    refine wp_getR C dX12_offer_198 fX12_offer_122 hM.ob (hM.rf 46 rfl) ?_
                    refine wp_aload_n C 0 dX12_offer_201 rfl rfl ?_
                    refine wp_getI C dX12_offer_202 fX12_offer_288 hM.ob ?_
                    refine wp_eqi (((u2_a _ _ _ _ (Ne.symm (hM.nm 45 rfl)) _).trans ((u2_a _ _ _ _ (Ne.symm (hM.nm 44 rfl)) _).trans ((u2_a _ _ _ _ (Ne.symm (hM.nm 43 rfl)) _).trans ((u2_a _ _ _ _ (Ne.symm (hM.nm 42 rfl)) _).trans ((u2_a _ _ _ _ (Ne.symm (hM.nm 41 rfl)) _).trans ((u2_a _ _ _ _ (Ne.symm (hM.nm 40 rfl)) _).trans ((u2_k _ _ _ _ (by decide) _).trans (u2_k _ _ _ _ (by decide) _)))))))).trans (hA.1 24 (by decide))) ?_
                    refine wp_iload C 7 dX12_offer_205 rfl ?_
                    refine wp_iast C dX12_offer_207 (hM.ar 46 rfl rfl) (j := fN_ a) (nI_nat (by omega)) (by unfold fN_; omega) (by decide) ?_
                    refine wp_aload_n C 0 dX12_offer_208 rfl rfl ?_
                    refine wp_getR C dX12_offer_209 fX12_offer_125 hM.ob (hM.rf 47 rfl) ?_
                    refine wp_aload_n C 0 dX12_offer_212 rfl rfl ?_
                    refine wp_getI C dX12_offer_213 fX12_offer_288 hM.ob ?_
                    refine wp_eqi (((u2_a _ _ _ _ (Ne.symm (hM.nm 46 rfl)) _).trans ((u2_a _ _ _ _ (Ne.symm (hM.nm 45 rfl)) _).trans ((u2_a _ _ _ _ (Ne.symm (hM.nm 44 rfl)) _).trans ((u2_a _ _ _ _ (Ne.symm (hM.nm 43 rfl)) _).trans ((u2_a _ _ _ _ (Ne.symm (hM.nm 42 rfl)) _).trans ((u2_a _ _ _ _ (Ne.symm (hM.nm 41 rfl)) _).trans ((u2_a _ _ _ _ (Ne.symm (hM.nm 40 rfl)) _).trans ((u2_k _ _ _ _ (by decide) _).trans (u2_k _ _ _ _ (by decide) _))))))))).trans (hA.1 24 (by decide))) ?_
                    refine wp_iload C 9 dX12_offer_216 rfl ?_
                    refine wp_iast C dX12_offer_218 (hM.ar 47 rfl rfl) (j := fN_ a) (nI_nat (by omega)) (by unfold fN_; omega) (by decide) ?_
                    refine wp_aload_n C 0 dX12_offer_219 rfl rfl ?_
                    refine wp_getR C dX12_offer_220 fX12_offer_128 hM.ob (hM.rf 48 rfl) ?_
                    refine wp_aload_n C 0 dX12_offer_223 rfl rfl ?_
                    refine wp_getI C dX12_offer_224 fX12_offer_288 hM.ob ?_
                    refine wp_eqi (((u2_a _ _ _ _ (Ne.symm (hM.nm 47 rfl)) _).trans ((u2_a _ _ _ _ (Ne.symm (hM.nm 46 rfl)) _).trans ((u2_a _ _ _ _ (Ne.symm (hM.nm 45 rfl)) _).trans ((u2_a _ _ _ _ (Ne.symm (hM.nm 44 rfl)) _).trans ((u2_a _ _ _ _ (Ne.symm (hM.nm 43 rfl)) _).trans ((u2_a _ _ _ _ (Ne.symm (hM.nm 42 rfl)) _).trans ((u2_a _ _ _ _ (Ne.symm (hM.nm 41 rfl)) _).trans ((u2_a _ _ _ _ (Ne.symm (hM.nm 40 rfl)) _).trans ((u2_k _ _ _ _ (by decide) _).trans (u2_k _ _ _ _ (by decide) _)))))))))).trans (hA.1 24 (by decide))) ?_
                    refine wp_iconst C 0 dX12_offer_227 (by decide) ?_
                    refine wp_iast C dX12_offer_228 (hM.ar 48 rfl rfl) (j := fN_ a) (nI_nat (by omega)) (by unfold fN_; omega) (by decide) ?_
                    refine wp_aload_n C 0 dX12_offer_229 rfl rfl ?_
                    refine wp_dup C dX12_offer_230 rfl ?_
                    refine wp_getI C dX12_offer_231 fX12_offer_288 hM.ob ?_
                    refine wp_eqi (((u2_a _ _ _ _ (Ne.symm (hM.nm 48 rfl)) _).trans ((u2_a _ _ _ _ (Ne.symm (hM.nm 47 rfl)) _).trans ((u2_a _ _ _ _ (Ne.symm (hM.nm 46 rfl)) _).trans ((u2_a _ _ _ _ (Ne.symm (hM.nm 45 rfl)) _).trans ((u2_a _ _ _ _ (Ne.symm (hM.nm 44 rfl)) _).trans ((u2_a _ _ _ _ (Ne.symm (hM.nm 43 rfl)) _).trans ((u2_a _ _ _ _ (Ne.symm (hM.nm 42 rfl)) _).trans ((u2_a _ _ _ _ (Ne.symm (hM.nm 41 rfl)) _).trans ((u2_a _ _ _ _ (Ne.symm (hM.nm 40 rfl)) _).trans ((u2_k _ _ _ _ (by decide) _).trans (u2_k _ _ _ _ (by decide) _))))))))))).trans (hA.1 24 (by decide))) ?_
                    refine wp_iconst C 1 dX12_offer_234 (by decide) ?_
                    refine wp_iadd C dX12_offer_235 ?_
                    refine wp_putI C dX12_offer_236 pX12_offer_288 (fun h => nomatch h) hM.ob ?_
                    refine wp_aload_n C 0 dX12_offer_239 rfl rfl ?_
                    refine wp_iload C 8 dX12_offer_240 rfl ?_
                    refine wp_putI C dX12_offer_242 pX12_offer_285 (fun h => nomatch h) hM.ob ?_
                    refine wp_aload_n C 0 dX12_offer_245 rfl rfl ?_
                    refine wp_getI C dX12_offer_246 fX12_offer_288 hM.ob ?_
                    refine wp_eqi ((u2_k _ _ _ _ (by decide) _).trans (u2_s _ _ _ _)) ?_
                    refine wp_iconst C 1 dX12_offer_249 (by decide) ?_
                    refine wp_isub C dX12_offer_250 ?_
                    have hs0 : stOf a b e (rv p t f d u) mi en = 0 := by simp only [stOf]; (repeat' split) <;> omega
                    exact wp_iret C Z dX12_offer_251 (by decide) (by decide) ⟨by rw [if_pos hs0, Int32.add_sub_cancel], rfl, rfl, by unfold aOf; rw [if_pos hs0]; exact ((((((((((((((MX.i hA).t hM 0).f hM 0 0).r hM 40 (by unfold mR; omega) (fN_ a) b).r hM 41 (by unfold mR; omega) (fN_ a) e).r hM 42 (by unfold mR; omega) (fN_ a) p).r hM 43 (by unfold mR; omega) (fN_ a) t).r hM 44 (by unfold mR; omega) (fN_ a) f).r hM 45 (by unfold mR; omega) (fN_ a) d).r hM 46 (by unfold mR; omega) (fN_ a) u).r hM 47 (by unfold mR; omega) (fN_ a) en).r hM 48 (by unfold mR; omega) (fN_ a) 0).f hM 24 ((a 0 24) + 1)).f hM 25 mi)⟩
                  · have c124 : ((mbN a b e (rv p t f d u) mi : Nat) : Int) = 0 := by have hcv := p_eq c124; rw [nI_toInt (show mbN a b e (rv p t f d u) mi < 2 ^ 31 by omega)] at hcv; exact hcv
                    refine wp_aload_n C 0 dX12_offer_127 rfl rfl ?_
                    refine wp_bipush C 12 dX12_offer_128 (by decide) ?_
                    refine wp_cVi C (As := [.int 12]) (rest := []) dX12_offer_130 kX12_offer_164 hM.ob (m_refuse _ hM 12) rfl (Nat.le_of_ble_eq_true rfl) (by decide) (by decide) ?_
                    have hst : stOf a b e (rv p t f d u) mi en = 12 := by simp only [stOf]; (repeat' split) <;> omega
                    have hs0 : ¬ stOf a b e (rv p t f d u) mi en = 0 := by rw [hst]; decide
                    exact wp_iret C Z dX12_offer_133 (by decide) (by decide) ⟨by rw [if_neg hs0], rfl, rfl, by unfold aOf; rw [if_neg hs0, hst]; exact MX.no hA hM 12⟩
                · have c97 : (a 0 24).toInt = 60 := by have hcv := p_eq c97; exact hcv
                  refine wp_aload_n C 0 dX12_offer_100 rfl rfl ?_
                  refine wp_bipush C 7 dX12_offer_101 (by decide) ?_
                  refine wp_cVi C (As := [.int 7]) (rest := []) dX12_offer_103 kX12_offer_164 hM.ob (m_refuse _ hM 7) rfl (Nat.le_of_ble_eq_true rfl) (by decide) (by decide) ?_
                  have hst : stOf a b e (rv p t f d u) mi en = 7 := by simp only [stOf]; (repeat' split) <;> omega
                  have hs0 : ¬ stOf a b e (rv p t f d u) mi en = 0 := by rw [hst]; decide
                  exact wp_iret C Z dX12_offer_106 (by decide) (by decide) ⟨by rw [if_neg hs0], rfl, rfl, by unfold aOf; rw [if_neg hs0, hst]; exact MX.no hA hM 7⟩
              · have c82 : ¬ (a 0 25).toInt ≤ mi.toInt := by have hcv := n_le c82; exact hcv
                refine wp_aload_n C 0 dX12_offer_85 rfl rfl ?_
                refine wp_iconst C 3 dX12_offer_86 (by decide) ?_
                refine wp_cVi C (As := [.int 3]) (rest := []) dX12_offer_87 kX12_offer_164 hM.ob (m_refuse _ hM 3) rfl (Nat.le_of_ble_eq_true rfl) (by decide) (by decide) ?_
                have hst : stOf a b e (rv p t f d u) mi en = 3 := by simp only [stOf]; (repeat' split) <;> omega
                have hs0 : ¬ stOf a b e (rv p t f d u) mi en = 0 := by rw [hst]; decide
                exact wp_iret C Z dX12_offer_90 (by decide) (by decide) ⟨by rw [if_neg hs0], rfl, rfl, by unfold aOf; rw [if_neg hs0, hst]; exact MX.no hA hM 3⟩
            · have c67 : ¬ mi.toInt < en.toInt := by have hcv := n_lt c67; exact hcv
              refine wp_aload_n C 0 dX12_offer_70 rfl rfl ?_
              refine wp_iconst C 2 dX12_offer_71 (by decide) ?_
              refine wp_cVi C (As := [.int 2]) (rest := []) dX12_offer_72 kX12_offer_164 hM.ob (m_refuse _ hM 2) rfl (Nat.le_of_ble_eq_true rfl) (by decide) (by decide) ?_
              have hst : stOf a b e (rv p t f d u) mi en = 2 := by simp only [stOf]; (repeat' split) <;> omega
              have hs0 : ¬ stOf a b e (rv p t f d u) mi en = 0 := by rw [hst]; decide
              exact wp_iret C Z dX12_offer_75 (by decide) (by decide) ⟨by rw [if_neg hs0], rfl, rfl, by unfold aOf; rw [if_neg hs0, hst]; exact MX.no hA hM 2⟩
    · have c23 : ¬ (0 ≤ e.toInt ∧ e.toInt < (a 0 8).toInt) := fun z => absurd ((bI_t z).symm.trans c23) (by decide)
      refine wp_aload_n C 0 dX12_offer_26 rfl rfl ?_
      refine wp_iconst C 1 dX12_offer_27 (by decide) ?_
      refine wp_cVi C (As := [.int 1]) (rest := []) dX12_offer_28 kX12_offer_164 hM.ob (m_refuse _ hM 1) rfl (Nat.le_of_ble_eq_true rfl) (by decide) (by decide) ?_
      have hst : stOf a b e (rv p t f d u) mi en = 1 := by simp only [stOf]; (repeat' split) <;> omega
      have hs0 : ¬ stOf a b e (rv p t f d u) mi en = 0 := by rw [hst]; decide
      exact wp_iret C Z dX12_offer_31 (by decide) (by decide) ⟨by rw [if_neg hs0], rfl, rfl, by unfold aOf; rw [if_neg hs0, hst]; exact MX.no hA hM 1⟩
set_option maxRecDepth 100000 in
set_option maxHeartbeats 4000000 in
theorem m_isOpen (l : Launch) {T : gSh} {I : gI} {J : gJ} {R : gR} {m : Nat} {ad : Nat → Nat} (hM : MO T R m ad) {a : gI} {n : gJ} (hA : MA I J m ad a n) {x : Int32} {i : Nat} (hx : x = nI i) (hi : i < 60) (mi : Int32) : Con l yX12_isOpen wsX12_isOpen ({ frames := 0, cells := 0, slots := 0, locals := 0 }) [.ref m, .int x, .int mi] T I J R (gP (some (.int (bI ((a 48 i).toInt = 0 ∧ mi.toInt ≤ (a 47 i).toInt)))) T I J R) := by
  refine Con.mk (cc := cX12_isOpen) (maxL := 3) (ret := (some .boolean)) (by decide) rfl (Nat.le_of_ble_eq_true rfl) ?_
  intro E hE C Z hnm
  subst hE
  change WP E 3 0 0 T I J R 0 [(0, .ref m), (1, .int x), (2, .int mi)] []
  refine wp_aload_n C 0 dX12_isOpen_0 rfl rfl ?_
  refine wp_getR C dX12_isOpen_1 fX12_isOpen_128 hM.ob (hM.rf 48 rfl) ?_
  refine wp_iload_n C 1 dX12_isOpen_4 rfl rfl ?_
  refine wp_iald C dX12_isOpen_5 (hM.ar 48 rfl rfl) (j := i) hx (by omega) (by decide) ?_
  refine wp_eqi (congrFun (hA.2.1 48 (by unfold mR; omega)) _) ?_
  refine wp_if_ne C 23 dX12_isOpen_6 (by decide) (fun c6 => ?_) (fun c6 => ?_)
  · have c6 : ¬ (a 48 i).toInt = 0 := by have hcv := n_eq c6; exact hcv
    refine wp_iconst C 0 dX12_isOpen_23 (by decide) ?_
    exact wp_zret C Z dX12_isOpen_24 (by decide) (by decide) (by decide) (by rw [bI_f (by omega)]; exact gP_rf)
  · have c6 : (a 48 i).toInt = 0 := by have hcv := p_eq c6; exact hcv
    refine wp_iload_n C 2 dX12_isOpen_9 rfl rfl ?_
    refine wp_aload_n C 0 dX12_isOpen_10 rfl rfl ?_
    refine wp_getR C dX12_isOpen_11 fX12_isOpen_125 hM.ob (hM.rf 47 rfl) ?_
    refine wp_iload_n C 1 dX12_isOpen_14 rfl rfl ?_
    refine wp_iald C dX12_isOpen_15 (hM.ar 47 rfl rfl) (j := i) hx (by omega) (by decide) ?_
    refine wp_eqi (congrFun (hA.2.1 47 (by unfold mR; omega)) _) ?_
    refine wp_icmp_gt C 23 dX12_isOpen_16 (by decide) (fun c16 => ?_) (fun c16 => ?_)
    · have c16 : (a 47 i).toInt < mi.toInt := by have hcv := p_lt c16; exact hcv
      refine wp_iconst C 0 dX12_isOpen_23 (by decide) ?_
      exact wp_zret C Z dX12_isOpen_24 (by decide) (by decide) (by decide) (by rw [bI_f (by omega)]; exact gP_rf)
    · have c16 : ¬ (a 47 i).toInt < mi.toInt := by have hcv := n_lt c16; exact hcv
      refine wp_iconst C 1 dX12_isOpen_19 (by decide) ?_
      refine wp_goto C 24 dX12_isOpen_20 (by decide) ?_
      exact wp_zret C Z dX12_isOpen_24 (by decide) (by decide) (by decide) (by rw [bI_t (by omega)]; exact gP_rf)
set_option maxRecDepth 100000 in
set_option maxHeartbeats 4000000 in
theorem m_state (l : Launch) {T : gSh} {I : gI} {J : gJ} {R : gR} {m : Nat} {ad : Nat → Nat} (hM : MO T R m ad) {a : gI} {n : gJ} (hA : MA I J m ad a n) (hFo : okF a) (o mi : Int32) : Con l yX12_state wsX12_state ({ frames := 1, cells := 0, slots := 0, locals := 21 }) [.ref m, .int o, .int mi] T I J R (PZ T I J R m ad (.int (vSt a o mi)) (u2 a 0 0 (nI (stAs a o mi))) n) := by
  refine Con.mk (cc := cX12_state) (maxL := 3) (ret := (some .int)) (by decide) rfl (Nat.le_of_ble_eq_true rfl) ?_
  intro E hE C Z hnm
  subst hE
  change WP E 3 0 0 T I J R 0 [(0, .ref m), (1, .int o), (2, .int mi)] []
  have hX1 := ((MX.i hA).t hM 0).f hM 0 0
  have f60 := hFo.1
  have hsa := stAs_s a o mi
  refine wp_aload_n C 0 dX12_state_0 rfl rfl ?_
  refine wp_iconst C 0 dX12_state_1 (by decide) ?_
  refine wp_putI C dX12_state_2 pX12_state_134 (fun h => nomatch h) hM.ob ?_
  refine wp_aload_n C 0 dX12_state_5 rfl rfl ?_
  refine wp_iconst C 0 dX12_state_6 (by decide) ?_
  refine wp_putI C dX12_state_7 pX12_state_137 (fun h => nomatch h) hM.ob ?_
  refine wp_iload_n C 1 dX12_state_10 rfl rfl ?_
  refine wp_if_lt C 22 dX12_state_11 (by decide) (fun c11 => ?_) (fun c11 => ?_)
  · have c11 : o.toInt < 0 := by have hcv := p_lt c11; exact hcv
    refine wp_aload_n C 0 dX12_state_22 rfl rfl ?_
    refine wp_iconst C 1 dX12_state_23 (by decide) ?_
    refine wp_cVi C (As := [.int 1]) (rest := []) dX12_state_24 kX12_state_164 hM.ob (m_refuse _ hM 1) rfl (Nat.le_of_ble_eq_true rfl) (by decide) (by decide) ?_
    have hst : stAs a o mi = 1 := by omega
    exact wp_iret C Z dX12_state_27 (by decide) (by decide) ⟨by unfold vSt; rw [if_neg (by rw [hst]; decide)], rfl, rfl, by rw [hst]; exact MX.no hA hM 1⟩
  · have c11 : ¬ o.toInt < 0 := by have hcv := n_lt c11; exact hcv
    refine wp_iload_n C 1 dX12_state_14 rfl rfl ?_
    refine wp_aload_n C 0 dX12_state_15 rfl rfl ?_
    refine wp_getI C dX12_state_16 fX12_state_288 hM.ob ?_
    refine wp_eqi (((u2_k _ _ _ _ (by decide) _).trans (u2_k _ _ _ _ (by decide) _)).trans (hA.1 24 (by decide))) ?_
    refine wp_icmp_lt C 28 dX12_state_19 (by decide) (fun c19 => ?_) (fun c19 => ?_)
    · have c19 : o.toInt < (a 0 24).toInt := by have hcv := p_lt c19; exact hcv
      refine wp_iload_n C 2 dX12_state_28 rfl rfl ?_
      refine wp_cSi C (As := [.int mi]) (rest := []) dX12_state_29 kX12_state_251 (m_isMinute _ mi) rfl (Nat.le_of_ble_eq_true rfl) (by decide) (by decide) ?_
      refine wp_if_ne C 41 dX12_state_32 (by decide) (fun c32 => ?_) (fun c32 => ?_)
      · have c32 : (0 ≤ mi.toInt ∧ mi.toInt ≤ 100000) := Classical.byContradiction (fun z => c32 (bI_f z))
        refine wp_iload_n C 2 dX12_state_41 rfl rfl ?_
        refine wp_aload_n C 0 dX12_state_42 rfl rfl ?_
        refine wp_getI C dX12_state_43 fX12_state_285 hM.ob ?_
        refine wp_eqi (((u2_k _ _ _ _ (by decide) _).trans (u2_k _ _ _ _ (by decide) _)).trans (hA.1 25 (by decide))) ?_
        refine wp_icmp_ge C 55 dX12_state_46 (by decide) (fun c46 => ?_) (fun c46 => ?_)
        · have c46 : (a 0 25).toInt ≤ mi.toInt := by have hcv := p_le c46; exact hcv
          refine wp_aload_n C 0 dX12_state_55 rfl rfl ?_
          refine wp_getR C dX12_state_56 fX12_state_128 hM.ob (hM.rf 48 rfl) ?_
          refine wp_iload_n C 1 dX12_state_59 rfl rfl ?_
          refine wp_iald C dX12_state_60 (hM.ar 48 rfl rfl) (j := o.toInt.toNat) (nI_nat (by omega)) (by omega) (by decide) ?_
          refine wp_eqi (((u2_a _ _ _ _ (hM.nm 48 rfl) _).trans (u2_a _ _ _ _ (hM.nm 48 rfl) _)).trans (congrFun (hA.2.1 48 (by unfold mR; omega)) _)) ?_
          refine wp_if_ne C 78 dX12_state_61 (by decide) (fun c61 => ?_) (fun c61 => ?_)
          · have c61 : ¬ (a 48 o.toInt.toNat).toInt = 0 := by have hcv := n_eq c61; exact hcv
            refine wp_aload_n C 0 dX12_state_78 rfl rfl ?_
            refine wp_getR C dX12_state_79 fX12_state_128 hM.ob (hM.rf 48 rfl) ?_
            refine wp_iload_n C 1 dX12_state_82 rfl rfl ?_
            refine wp_iald C dX12_state_83 (hM.ar 48 rfl rfl) (j := o.toInt.toNat) (nI_nat (by omega)) (by omega) (by decide) ?_
            refine wp_eqi (((u2_a _ _ _ _ (hM.nm 48 rfl) _).trans (u2_a _ _ _ _ (hM.nm 48 rfl) _)).trans (congrFun (hA.2.1 48 (by unfold mR; omega)) _)) ?_
            have hst : stAs a o mi = 0 := by omega
            exact wp_iret C Z dX12_state_84 (by decide) (by decide) ⟨by unfold vSt; rw [if_pos hst, show mkN a mi o.toInt.toNat = a 48 o.toInt.toNat from by unfold mkN; rw [if_neg (by omega)]], rfl, rfl, by rw [hst]; exact hX1⟩
          · have c61 : (a 48 o.toInt.toNat).toInt = 0 := by have hcv := p_eq c61; exact hcv
            refine wp_iload_n C 2 dX12_state_64 rfl rfl ?_
            refine wp_aload_n C 0 dX12_state_65 rfl rfl ?_
            refine wp_getR C dX12_state_66 fX12_state_125 hM.ob (hM.rf 47 rfl) ?_
            refine wp_iload_n C 1 dX12_state_69 rfl rfl ?_
            refine wp_iald C dX12_state_70 (hM.ar 47 rfl rfl) (j := o.toInt.toNat) (nI_nat (by omega)) (by omega) (by decide) ?_
            refine wp_eqi (((u2_a _ _ _ _ (hM.nm 47 rfl) _).trans (u2_a _ _ _ _ (hM.nm 47 rfl) _)).trans (congrFun (hA.2.1 47 (by unfold mR; omega)) _)) ?_
            refine wp_icmp_le C 78 dX12_state_71 (by decide) (fun c71 => ?_) (fun c71 => ?_)
            · have c71 : mi.toInt ≤ (a 47 o.toInt.toNat).toInt := by have hcv := p_le c71; exact hcv
              refine wp_aload_n C 0 dX12_state_78 rfl rfl ?_
              refine wp_getR C dX12_state_79 fX12_state_128 hM.ob (hM.rf 48 rfl) ?_
              refine wp_iload_n C 1 dX12_state_82 rfl rfl ?_
              refine wp_iald C dX12_state_83 (hM.ar 48 rfl rfl) (j := o.toInt.toNat) (nI_nat (by omega)) (by omega) (by decide) ?_
              refine wp_eqi (((u2_a _ _ _ _ (hM.nm 48 rfl) _).trans (u2_a _ _ _ _ (hM.nm 48 rfl) _)).trans (congrFun (hA.2.1 48 (by unfold mR; omega)) _)) ?_
              have hst : stAs a o mi = 0 := by omega
              exact wp_iret C Z dX12_state_84 (by decide) (by decide) ⟨by unfold vSt; rw [if_pos hst, show mkN a mi o.toInt.toNat = a 48 o.toInt.toNat from by unfold mkN; rw [if_neg (by omega)]], rfl, rfl, by rw [hst]; exact hX1⟩
            · have c71 : ¬ mi.toInt ≤ (a 47 o.toInt.toNat).toInt := by have hcv := n_le c71; exact hcv
              refine wp_iconst C 3 dX12_state_74 (by decide) ?_
              refine wp_goto C 84 dX12_state_75 (by decide) ?_
              have hst : stAs a o mi = 0 := by omega
              exact wp_iret C Z dX12_state_84 (by decide) (by decide) ⟨by unfold vSt; rw [if_pos hst, show mkN a mi o.toInt.toNat = 3 from by unfold mkN; rw [if_pos (by omega)]], rfl, rfl, by rw [hst]; exact hX1⟩
        · have c46 : ¬ (a 0 25).toInt ≤ mi.toInt := by have hcv := n_le c46; exact hcv
          refine wp_aload_n C 0 dX12_state_49 rfl rfl ?_
          refine wp_iconst C 3 dX12_state_50 (by decide) ?_
          refine wp_cVi C (As := [.int 3]) (rest := []) dX12_state_51 kX12_state_164 hM.ob (m_refuse _ hM 3) rfl (Nat.le_of_ble_eq_true rfl) (by decide) (by decide) ?_
          have hst : stAs a o mi = 3 := by omega
          exact wp_iret C Z dX12_state_54 (by decide) (by decide) ⟨by unfold vSt; rw [if_neg (by rw [hst]; decide)], rfl, rfl, by rw [hst]; exact MX.no hA hM 3⟩
      · have c32 : ¬ (0 ≤ mi.toInt ∧ mi.toInt ≤ 100000) := fun z => absurd ((bI_t z).symm.trans c32) (by decide)
        refine wp_aload_n C 0 dX12_state_35 rfl rfl ?_
        refine wp_iconst C 2 dX12_state_36 (by decide) ?_
        refine wp_cVi C (As := [.int 2]) (rest := []) dX12_state_37 kX12_state_164 hM.ob (m_refuse _ hM 2) rfl (Nat.le_of_ble_eq_true rfl) (by decide) (by decide) ?_
        have hst : stAs a o mi = 2 := by omega
        exact wp_iret C Z dX12_state_40 (by decide) (by decide) ⟨by unfold vSt; rw [if_neg (by rw [hst]; decide)], rfl, rfl, by rw [hst]; exact MX.no hA hM 2⟩
    · have c19 : ¬ o.toInt < (a 0 24).toInt := by have hcv := n_lt c19; exact hcv
      refine wp_aload_n C 0 dX12_state_22 rfl rfl ?_
      refine wp_iconst C 1 dX12_state_23 (by decide) ?_
      refine wp_cVi C (As := [.int 1]) (rest := []) dX12_state_24 kX12_state_164 hM.ob (m_refuse _ hM 1) rfl (Nat.le_of_ble_eq_true rfl) (by decide) (by decide) ?_
      have hst : stAs a o mi = 1 := by omega
      exact wp_iret C Z dX12_state_27 (by decide) (by decide) ⟨by unfold vSt; rw [if_neg (by rw [hst]; decide)], rfl, rfl, by rw [hst]; exact MX.no hA hM 1⟩
set_option maxRecDepth 100000 in
set_option maxHeartbeats 4000000 in
theorem m_take (l : Launch) {T : gSh} {I : gI} {J : gJ} {R : gR} {m : Nat} {ad : Nat → Nat} (hM : MO T R m ad) {a : gI} {n : gJ} (hA : MA I J m ad a n) (hG : okG a) (hO : okO a) (hFo : okF a) (o mi : Int32) : Con l yX12_take wsX12_take ({ frames := 4, cells := 0, slots := 0, locals := 98 }) [.ref m, .int o, .int mi] T I J R (PZ T I J R m ad (.int (if stTa a o mi = 0 then a 0 22 else -1)) (aTa a o mi) n) := by
  refine Con.mk (cc := cX12_take) (maxL := 6) (ret := (some .int)) (by decide) rfl (Nat.le_of_ble_eq_true rfl) ?_
  intro E hE C Z hnm
  subst hE
  change WP E 6 0 0 T I J R 0 [(0, .ref m), (1, .int o), (2, .int mi)] []
  have hX1 := ((MX.i hA).t hM 0).f hM 0 0
  have f60 := hFo.1
  have g60 := hG.1
  have q24 : (a 0 24).toInt = (fN_ a : Int) := by unfold fN_; omega
  have hsa := stAs_s a o mi
  have hml := mbN_le a (a 40 o.toInt.toNat) (a 41 o.toInt.toNat) (ov a o.toInt.toNat) mi
  have hmk := mkN_s a mi o.toInt.toNat
  have hvo : 0 ≤ o.toInt ∧ o.toInt < (a 0 24).toInt → vR (ov a o.toInt.toNat) ∧ (0 ≤ (a 40 o.toInt.toNat).toInt ∧ (a 40 o.toInt.toNat).toInt < 12) ∧ (0 ≤ (a 41 o.toInt.toNat).toInt ∧ (a 41 o.toInt.toNat).toInt < 10) := fun z => hFo.2 _ (by omega)
  have loop : stTa a o mi = 0 → okG (u2 (aGr (u2 a 0 0 0) (a 40 o.toInt.toNat) (a 41 o.toInt.toNat) (ov a o.toInt.toNat)) 48 o.toInt.toNat 1) → ∀ i, i ≤ fN_ a → ∀ I2 J2, MX I I2 J J2 m ad (vdF (a 40 o.toInt.toNat) mi (u2 (aGr (u2 a 0 0 0) (a 40 o.toInt.toNat) (a 41 o.toInt.toNat) (ov a o.toInt.toNat)) 48 o.toInt.toNat 1) i) n → ∀ lv, lv_pick lv [0, 1, 2, 3, 4, 5] = [(0, .ref m), (1, .int o), (2, .int mi), (3, .int (a 40 o.toInt.toNat)), (4, .int (a 0 22)), (5, .int (nI i))] → WP E 6 0 0 T I2 J2 R 199 lv [] := by
    intro hs0 hG1
    refine loopN (fN_ a) (fun i hi ih => ?_)
    intro I2 J2 hX lv hlv
    refine wp_lv [0, 1, 2, 3, 4, 5] hlv ?_
    obtain ⟨A2, eA⟩ : ∃ A2, A2 = vdF (a 40 o.toInt.toNat) mi (u2 (aGr (u2 a 0 0 0) (a 40 o.toInt.toNat) (a 41 o.toInt.toNat) (ov a o.toInt.toNat)) 48 o.toInt.toNat 1) i := ⟨_, rfl⟩
    rw [← eA] at hX
    have hG2 : okG A2 := hG1.of (by rw [eA, vdF_r _ _ _ _ (by decide)]) (fun r h1 h2 => by rw [eA, vdF_r _ _ _ _ (by omega)])
    have e24 : A2 0 24 = nI (fN_ a) := by rw [eA, vdF_r _ _ _ _ (by decide)]; show a 0 24 = _; exact nI_nat f60.1
    have hmk := mkN_s A2 mi i
    refine wp_iload C 5 dX12_take_199 rfl ?_
    refine wp_aload_n C 0 dX12_take_201 rfl rfl ?_
    refine wp_getI C dX12_take_202 fX12_take_288 hM.ob ?_
    refine wp_eqi ((hX.2.1 24 (by decide)).trans e24) ?_
    refine wp_icmp_ge C 286 dX12_take_205 (by decide) (fun c205 => ?_) (fun c205 => ?_)
    · have c205 : (((fN_ a) : Nat) : Int) ≤ ((i : Nat) : Int) := by have hcv := p_le c205; rw [nI_toInt (show (fN_ a) < 2 ^ 31 by omega), nI_toInt (show i < 2 ^ 31 by omega)] at hcv; exact hcv
      refine wp_aload_n C 0 dX12_take_286 rfl rfl ?_
      refine wp_iload_n C 2 dX12_take_287 rfl rfl ?_
      refine wp_putI C dX12_take_288 pX12_take_285 (fun h => nomatch h) hM.ob ?_
      refine wp_iload C 4 dX12_take_291 rfl ?_
      exact wp_iret C Z dX12_take_293 (by decide) (by decide) ⟨by rw [if_pos hs0], rfl, rfl, by unfold aTa; rw [if_pos hs0]; unfold aTk; rw [show fN_ a = i by omega, ← eA]; exact hX.f hM 25 mi⟩
    · have c205 : ¬ (((fN_ a) : Nat) : Int) ≤ ((i : Nat) : Int) := by have hcv := n_le c205; rw [nI_toInt (show (fN_ a) < 2 ^ 31 by omega), nI_toInt (show i < 2 ^ 31 by omega)] at hcv; exact hcv
      refine wp_aload_n C 0 dX12_take_208 rfl rfl ?_
      refine wp_getR C dX12_take_209 fX12_take_104 hM.ob (hM.rf 40 rfl) ?_
      refine wp_iload C 5 dX12_take_212 rfl ?_
      refine wp_iald C dX12_take_214 (hM.ar 40 rfl rfl) (j := i) rfl (by omega) (by decide) ?_
      refine wp_eqi (congrFun (hX.2.2.1 40 (by unfold mR; omega)) _) ?_
      refine wp_iload_n C 3 dX12_take_215 rfl rfl ?_
      refine wp_icmp_ne C 280 dX12_take_216 (by decide) (fun c216 => ?_) (fun c216 => ?_)
      · have c216 : ¬ (A2 40 i).toInt = (a 40 o.toInt.toNat).toInt := by have hcv := n_eq c216; exact hcv
        refine wp_iinc C 5 (nI (i + 1)) [(5, .int (nI (i + 1))), (0, .ref m), (1, .int o), (2, .int mi), (3, .int (a 40 o.toInt.toNat)), (4, .int (a 0 22))] dX12_take_280 rfl (nI_1 i) (by decide) rfl ?_
        refine wp_goto C 199 dX12_take_283 (by decide) ?_
        refine wp_lv [1, 2, 3, 4, 5, 0] rfl ?_
        have hs : vdS (a 40 o.toInt.toNat) mi A2 i = A2 := by simp only [vdS]; (repeat' split) <;> first | rfl | (exfalso; omega)
        refine ih (i + 1) (by omega) (by omega) _ _ (by show MX I _ J J2 m ad (vdS (a 40 o.toInt.toNat) mi (vdF (a 40 o.toInt.toNat) mi (u2 (aGr (u2 a 0 0 0) (a 40 o.toInt.toNat) (a 41 o.toInt.toNat) (ov a o.toInt.toNat)) 48 o.toInt.toNat 1) i) i) n; rw [← eA, hs]; exact hX) _ rfl
      · have c216 : (A2 40 i).toInt = (a 40 o.toInt.toNat).toInt := by have hcv := p_eq c216; exact hcv
        refine wp_aload_n C 0 dX12_take_219 rfl rfl ?_
        refine wp_iload C 5 dX12_take_220 rfl ?_
        refine wp_iload_n C 2 dX12_take_222 rfl rfl ?_
        refine wp_cVi C (As := [.int (nI i), .int mi]) (rest := []) dX12_take_223 kX12_take_291 hM.ob (m_isOpen _ hM hX.2 (i := i) rfl (by omega) mi) rfl (Nat.le_of_ble_eq_true rfl) (by decide) (by decide) ?_
        refine wp_if_eq C 280 dX12_take_226 (by decide) (fun c226 => ?_) (fun c226 => ?_)
        · have c226 : ¬ ((A2 48 i).toInt = 0 ∧ mi.toInt ≤ (A2 47 i).toInt) := fun z => absurd ((bI_t z).symm.trans c226) (by decide)
          refine wp_iinc C 5 (nI (i + 1)) [(5, .int (nI (i + 1))), (0, .ref m), (1, .int o), (2, .int mi), (3, .int (a 40 o.toInt.toNat)), (4, .int (a 0 22))] dX12_take_280 rfl (nI_1 i) (by decide) rfl ?_
          refine wp_goto C 199 dX12_take_283 (by decide) ?_
          refine wp_lv [1, 2, 3, 4, 5, 0] rfl ?_
          have hs : vdS (a 40 o.toInt.toNat) mi A2 i = A2 := by simp only [vdS]; (repeat' split) <;> first | rfl | (exfalso; omega)
          refine ih (i + 1) (by omega) (by omega) _ _ (by show MX I _ J J2 m ad (vdS (a 40 o.toInt.toNat) mi (vdF (a 40 o.toInt.toNat) mi (u2 (aGr (u2 a 0 0 0) (a 40 o.toInt.toNat) (a 41 o.toInt.toNat) (ov a o.toInt.toNat)) 48 o.toInt.toNat 1) i) i) n; rw [← eA, hs]; exact hX) _ rfl
        · have c226 : ((A2 48 i).toInt = 0 ∧ mi.toInt ≤ (A2 47 i).toInt) := Classical.byContradiction (fun z => c226 (bI_f z))
          refine wp_aload_n C 0 dX12_take_229 rfl rfl ?_
          refine wp_iload_n C 3 dX12_take_230 rfl rfl ?_
          refine wp_aload_n C 0 dX12_take_231 rfl rfl ?_
          refine wp_getR C dX12_take_232 fX12_take_110 hM.ob (hM.rf 42 rfl) ?_
          refine wp_iload C 5 dX12_take_235 rfl ?_
          refine wp_iald C dX12_take_237 (hM.ar 42 rfl rfl) (j := i) rfl (by omega) (by decide) ?_
          refine wp_eqi (congrFun (hX.2.2.1 42 (by unfold mR; omega)) _) ?_
          refine wp_aload_n C 0 dX12_take_238 rfl rfl ?_
          refine wp_getR C dX12_take_239 fX12_take_113 hM.ob (hM.rf 43 rfl) ?_
          refine wp_iload C 5 dX12_take_242 rfl ?_
          refine wp_iald C dX12_take_244 (hM.ar 43 rfl rfl) (j := i) rfl (by omega) (by decide) ?_
          refine wp_eqi (congrFun (hX.2.2.1 43 (by unfold mR; omega)) _) ?_
          refine wp_aload_n C 0 dX12_take_245 rfl rfl ?_
          refine wp_getR C dX12_take_246 fX12_take_116 hM.ob (hM.rf 44 rfl) ?_
          refine wp_iload C 5 dX12_take_249 rfl ?_
          refine wp_iald C dX12_take_251 (hM.ar 44 rfl rfl) (j := i) rfl (by omega) (by decide) ?_
          refine wp_eqi (congrFun (hX.2.2.1 44 (by unfold mR; omega)) _) ?_
          refine wp_aload_n C 0 dX12_take_252 rfl rfl ?_
          refine wp_getR C dX12_take_253 fX12_take_119 hM.ob (hM.rf 45 rfl) ?_
          refine wp_iload C 5 dX12_take_256 rfl ?_
          refine wp_iald C dX12_take_258 (hM.ar 45 rfl rfl) (j := i) rfl (by omega) (by decide) ?_
          refine wp_eqi (congrFun (hX.2.2.1 45 (by unfold mR; omega)) _) ?_
          refine wp_aload_n C 0 dX12_take_259 rfl rfl ?_
          refine wp_getR C dX12_take_260 fX12_take_122 hM.ob (hM.rf 46 rfl) ?_
          refine wp_iload C 5 dX12_take_263 rfl ?_
          refine wp_iald C dX12_take_265 (hM.ar 46 rfl rfl) (j := i) rfl (by omega) (by decide) ?_
          refine wp_eqi (congrFun (hX.2.2.1 46 (by unfold mR; omega)) _) ?_
          have hcl := clN_le A2 (a 40 o.toInt.toNat) (ov A2 i)
          refine wp_cVi C (As := [.int (a 40 o.toInt.toNat), .int (A2 42 i), .int (A2 43 i), .int (A2 44 i), .int (A2 45 i), .int (A2 46 i)]) (rest := []) dX12_take_266 kX12_take_234 hM.ob (m_clashes _ hM hX.2 hG2 (a 40 o.toInt.toNat) (A2 42 i) (A2 43 i) (A2 44 i) (A2 45 i) (A2 46 i)) rfl (Nat.le_of_ble_eq_true rfl) (by decide) (by decide) ?_
          refine wp_eqi (congrArg nI (clN_rv A2 A2 (a 40 o.toInt.toNat) i)) ?_
          refine wp_if_eq C 280 dX12_take_269 (by decide) (fun c269 => ?_) (fun c269 => ?_)
          · have c269 : ((clN A2 (a 40 o.toInt.toNat) (ov A2 i) : Nat) : Int) = 0 := by have hcv := p_eq c269; rw [nI_toInt (show clN A2 (a 40 o.toInt.toNat) (ov A2 i) < 2 ^ 31 by omega)] at hcv; exact hcv
            refine wp_iinc C 5 (nI (i + 1)) [(5, .int (nI (i + 1))), (0, .ref m), (1, .int o), (2, .int mi), (3, .int (a 40 o.toInt.toNat)), (4, .int (a 0 22))] dX12_take_280 rfl (nI_1 i) (by decide) rfl ?_
            refine wp_goto C 199 dX12_take_283 (by decide) ?_
            refine wp_lv [1, 2, 3, 4, 5, 0] rfl ?_
            have hs : vdS (a 40 o.toInt.toNat) mi A2 i = A2 := by simp only [vdS]; (repeat' split) <;> first | rfl | (exfalso; omega)
            refine ih (i + 1) (by omega) (by omega) _ _ (by show MX I _ J J2 m ad (vdS (a 40 o.toInt.toNat) mi (vdF (a 40 o.toInt.toNat) mi (u2 (aGr (u2 a 0 0 0) (a 40 o.toInt.toNat) (a 41 o.toInt.toNat) (ov a o.toInt.toNat)) 48 o.toInt.toNat 1) i) i) n; rw [← eA, hs]; exact hX) _ rfl
          · have c269 : ¬ ((clN A2 (a 40 o.toInt.toNat) (ov A2 i) : Nat) : Int) = 0 := by have hcv := n_eq c269; rw [nI_toInt (show clN A2 (a 40 o.toInt.toNat) (ov A2 i) < 2 ^ 31 by omega)] at hcv; exact hcv
            refine wp_aload_n C 0 dX12_take_272 rfl rfl ?_
            refine wp_getR C dX12_take_273 fX12_take_128 hM.ob (hM.rf 48 rfl) ?_
            refine wp_iload C 5 dX12_take_276 rfl ?_
            refine wp_iconst C 2 dX12_take_278 (by decide) ?_
            refine wp_iast C dX12_take_279 (hM.ar 48 rfl rfl) (j := i) rfl (by omega) (by decide) ?_
            refine wp_iinc C 5 (nI (i + 1)) [(5, .int (nI (i + 1))), (0, .ref m), (1, .int o), (2, .int mi), (3, .int (a 40 o.toInt.toNat)), (4, .int (a 0 22))] dX12_take_280 rfl (nI_1 i) (by decide) rfl ?_
            refine wp_goto C 199 dX12_take_283 (by decide) ?_
            refine wp_lv [1, 2, 3, 4, 5, 0] rfl ?_
            have hs : vdS (a 40 o.toInt.toNat) mi A2 i = u2 A2 48 i 2 := by simp only [vdS]; (repeat' split) <;> first | rfl | (exfalso; omega)
            refine ih (i + 1) (by omega) (by omega) _ _ (by show MX I _ J J2 m ad (vdS (a 40 o.toInt.toNat) mi (vdF (a 40 o.toInt.toNat) mi (u2 (aGr (u2 a 0 0 0) (a 40 o.toInt.toNat) (a 41 o.toInt.toNat) (ov a o.toInt.toNat)) 48 o.toInt.toNat 1) i) i) n; rw [← eA, hs]; exact hX.r hM 48 (by unfold mR; omega) i 2) _ rfl
  refine wp_aload_n C 0 dX12_take_0 rfl rfl ?_
  refine wp_iconst C 0 dX12_take_1 (by decide) ?_
  refine wp_putI C dX12_take_2 pX12_take_134 (fun h => nomatch h) hM.ob ?_
  refine wp_aload_n C 0 dX12_take_5 rfl rfl ?_
  refine wp_iconst C 0 dX12_take_6 (by decide) ?_
  refine wp_putI C dX12_take_7 pX12_take_137 (fun h => nomatch h) hM.ob ?_
  refine wp_iload_n C 1 dX12_take_10 rfl rfl ?_
  refine wp_if_lt C 22 dX12_take_11 (by decide) (fun c11 => ?_) (fun c11 => ?_)
  · have c11 : o.toInt < 0 := by have hcv := p_lt c11; exact hcv
    refine wp_aload_n C 0 dX12_take_22 rfl rfl ?_
    refine wp_iconst C 1 dX12_take_23 (by decide) ?_
    refine wp_cVi C (As := [.int 1]) (rest := []) dX12_take_24 kX12_take_164 hM.ob (m_refuse _ hM 1) rfl (Nat.le_of_ble_eq_true rfl) (by decide) (by decide) ?_
    have hst : stTa a o mi = 1 := by simp only [stTa]; (repeat' split) <;> omega
    have hs0 : ¬ stTa a o mi = 0 := by rw [hst]; decide
    exact wp_iret C Z dX12_take_27 (by decide) (by decide) ⟨by rw [if_neg hs0], rfl, rfl, by unfold aTa; rw [if_neg hs0, hst]; exact MX.no hA hM 1⟩
  · have c11 : ¬ o.toInt < 0 := by have hcv := n_lt c11; exact hcv
    refine wp_iload_n C 1 dX12_take_14 rfl rfl ?_
    refine wp_aload_n C 0 dX12_take_15 rfl rfl ?_
    refine wp_getI C dX12_take_16 fX12_take_288 hM.ob ?_
    refine wp_eqi (((u2_k _ _ _ _ (by decide) _).trans (u2_k _ _ _ _ (by decide) _)).trans (hA.1 24 (by decide))) ?_
    refine wp_icmp_lt C 28 dX12_take_19 (by decide) (fun c19 => ?_) (fun c19 => ?_)
    · have c19 : o.toInt < (a 0 24).toInt := by have hcv := p_lt c19; exact hcv
      refine wp_iload_n C 2 dX12_take_28 rfl rfl ?_
      refine wp_cSi C (As := [.int mi]) (rest := []) dX12_take_29 kX12_take_251 (m_isMinute _ mi) rfl (Nat.le_of_ble_eq_true rfl) (by decide) (by decide) ?_
      refine wp_if_ne C 41 dX12_take_32 (by decide) (fun c32 => ?_) (fun c32 => ?_)
      · have c32 : (0 ≤ mi.toInt ∧ mi.toInt ≤ 100000) := Classical.byContradiction (fun z => c32 (bI_f z))
        refine wp_iload_n C 2 dX12_take_41 rfl rfl ?_
        refine wp_aload_n C 0 dX12_take_42 rfl rfl ?_
        refine wp_getI C dX12_take_43 fX12_take_285 hM.ob ?_
        refine wp_eqi (((u2_k _ _ _ _ (by decide) _).trans (u2_k _ _ _ _ (by decide) _)).trans (hA.1 25 (by decide))) ?_
        refine wp_icmp_ge C 55 dX12_take_46 (by decide) (fun c46 => ?_) (fun c46 => ?_)
        · have c46 : (a 0 25).toInt ≤ mi.toInt := by have hcv := p_le c46; exact hcv
          refine wp_aload_n C 0 dX12_take_55 rfl rfl ?_
          refine wp_iload_n C 1 dX12_take_56 rfl rfl ?_
          refine wp_iload_n C 2 dX12_take_57 rfl rfl ?_
          refine wp_cVi C (As := [.int o, .int mi]) (rest := []) dX12_take_58 kX12_take_291 hM.ob (m_isOpen _ hM hX1.2 (i := o.toInt.toNat) (nI_nat (by omega)) (by omega) mi) rfl (Nat.le_of_ble_eq_true rfl) (by decide) (by decide) ?_
          refine wp_if_ne C 71 dX12_take_61 (by decide) (fun c61 => ?_) (fun c61 => ?_)
          · have c61 : ((a 48 o.toInt.toNat).toInt = 0 ∧ mi.toInt ≤ (a 47 o.toInt.toNat).toInt) := Classical.byContradiction (fun z => c61 (bI_f z))
            refine wp_aload_n C 0 dX12_take_71 rfl rfl ?_
            refine wp_getI C dX12_take_72 fX12_take_221 hM.ob ?_
            refine wp_eqi (((u2_k _ _ _ _ (by decide) _).trans (u2_k _ _ _ _ (by decide) _)).trans (hA.1 22 (by decide))) ?_
            refine wp_bipush C 60 dX12_take_75 (by decide) ?_
            refine wp_icmp_ne C 87 dX12_take_77 (by decide) (fun c77 => ?_) (fun c77 => ?_)
            · have c77 : ¬ (a 0 22).toInt = 60 := by have hcv := n_eq c77; exact hcv
              have hfo := hvo (by omega)
              refine wp_aload_n C 0 dX12_take_87 rfl rfl ?_
              refine wp_getR C dX12_take_88 fX12_take_104 hM.ob (hM.rf 40 rfl) ?_
              refine wp_iload_n C 1 dX12_take_91 rfl rfl ?_
              refine wp_iald C dX12_take_92 (hM.ar 40 rfl rfl) (j := o.toInt.toNat) (nI_nat (by omega)) (by omega) (by decide) ?_
              refine wp_eqi (((u2_a _ _ _ _ (hM.nm 40 rfl) _).trans (u2_a _ _ _ _ (hM.nm 40 rfl) _)).trans (congrFun (hA.2.1 40 (by unfold mR; omega)) _)) ?_
              refine wp_istore_n C [(3, .int (a 40 o.toInt.toNat)), (0, .ref m), (1, .int o), (2, .int mi)] dX12_take_93 rfl (by decide) rfl ?_
              refine wp_aload_n C 1 dX12_take_94 rfl rfl ?_
              refine wp_iload_n C 0 dX12_take_95 rfl rfl ?_
              refine wp_aload_n C 1 dX12_take_96 rfl rfl ?_
              refine wp_getR C dX12_take_97 fX12_take_107 hM.ob (hM.rf 41 rfl) ?_
              refine wp_iload_n C 2 dX12_take_100 rfl rfl ?_
              refine wp_iald C dX12_take_101 (hM.ar 41 rfl rfl) (j := o.toInt.toNat) (nI_nat (by omega)) (by omega) (by decide) ?_
              refine wp_eqi (((u2_a _ _ _ _ (hM.nm 41 rfl) _).trans (u2_a _ _ _ _ (hM.nm 41 rfl) _)).trans (congrFun (hA.2.1 41 (by unfold mR; omega)) _)) ?_
              refine wp_aload_n C 1 dX12_take_102 rfl rfl ?_
              refine wp_getR C dX12_take_103 fX12_take_110 hM.ob (hM.rf 42 rfl) ?_
              refine wp_iload_n C 2 dX12_take_106 rfl rfl ?_
              refine wp_iald C dX12_take_107 (hM.ar 42 rfl rfl) (j := o.toInt.toNat) (nI_nat (by omega)) (by omega) (by decide) ?_
              refine wp_eqi (((u2_a _ _ _ _ (hM.nm 42 rfl) _).trans (u2_a _ _ _ _ (hM.nm 42 rfl) _)).trans (congrFun (hA.2.1 42 (by unfold mR; omega)) _)) ?_
              refine wp_aload_n C 1 dX12_take_108 rfl rfl ?_
              refine wp_getR C dX12_take_109 fX12_take_113 hM.ob (hM.rf 43 rfl) ?_
              refine wp_iload_n C 2 dX12_take_112 rfl rfl ?_
              refine wp_iald C dX12_take_113 (hM.ar 43 rfl rfl) (j := o.toInt.toNat) (nI_nat (by omega)) (by omega) (by decide) ?_
              refine wp_eqi (((u2_a _ _ _ _ (hM.nm 43 rfl) _).trans (u2_a _ _ _ _ (hM.nm 43 rfl) _)).trans (congrFun (hA.2.1 43 (by unfold mR; omega)) _)) ?_
              refine wp_aload_n C 1 dX12_take_114 rfl rfl ?_
              refine wp_getR C dX12_take_115 fX12_take_116 hM.ob (hM.rf 44 rfl) ?_
              refine wp_iload_n C 2 dX12_take_118 rfl rfl ?_
              refine wp_iald C dX12_take_119 (hM.ar 44 rfl rfl) (j := o.toInt.toNat) (nI_nat (by omega)) (by omega) (by decide) ?_
              refine wp_eqi (((u2_a _ _ _ _ (hM.nm 44 rfl) _).trans (u2_a _ _ _ _ (hM.nm 44 rfl) _)).trans (congrFun (hA.2.1 44 (by unfold mR; omega)) _)) ?_
              refine wp_aload_n C 1 dX12_take_120 rfl rfl ?_
              refine wp_getR C dX12_take_121 fX12_take_119 hM.ob (hM.rf 45 rfl) ?_
              refine wp_iload_n C 2 dX12_take_124 rfl rfl ?_
              refine wp_iald C dX12_take_125 (hM.ar 45 rfl rfl) (j := o.toInt.toNat) (nI_nat (by omega)) (by omega) (by decide) ?_
              refine wp_eqi (((u2_a _ _ _ _ (hM.nm 45 rfl) _).trans (u2_a _ _ _ _ (hM.nm 45 rfl) _)).trans (congrFun (hA.2.1 45 (by unfold mR; omega)) _)) ?_
              refine wp_aload_n C 1 dX12_take_126 rfl rfl ?_
              refine wp_getR C dX12_take_127 fX12_take_122 hM.ob (hM.rf 46 rfl) ?_
              refine wp_iload_n C 2 dX12_take_130 rfl rfl ?_
              refine wp_iald C dX12_take_131 (hM.ar 46 rfl rfl) (j := o.toInt.toNat) (nI_nat (by omega)) (by omega) (by decide) ?_
              refine wp_eqi (((u2_a _ _ _ _ (hM.nm 46 rfl) _).trans (u2_a _ _ _ _ (hM.nm 46 rfl) _)).trans (congrFun (hA.2.1 46 (by unfold mR; omega)) _)) ?_
              refine wp_iload_n C 3 dX12_take_132 rfl rfl ?_
              refine wp_cVi C (As := [.int (a 40 o.toInt.toNat), .int (a 41 o.toInt.toNat), .int (a 42 o.toInt.toNat), .int (a 43 o.toInt.toNat), .int (a 44 o.toInt.toNat), .int (a 45 o.toInt.toNat), .int (a 46 o.toInt.toNat), .int mi]) (rest := []) dX12_take_133 kX12_take_257 hM.ob (m_mayBe _ hM hX1.2 (hG.st 0) hO (b := (a 40 o.toInt.toNat)) (e := (a 41 o.toInt.toNat)) (hfo.2.1) (hfo.2.2) (a 42 o.toInt.toNat) (a 43 o.toInt.toNat) (a 44 o.toInt.toNat) (a 45 o.toInt.toNat) (a 46 o.toInt.toNat) mi) rfl (Nat.le_of_ble_eq_true rfl) (by decide) (by decide) ?_
              refine wp_eqi (congrArg nI ((mbN_st a 0 _ _ _ mi).trans (mbN_rv a _ _ o.toInt.toNat mi))) ?_
              refine wp_if_ne C 146 dX12_take_136 (by decide) (fun c136 => ?_) (fun c136 => ?_)
              · have c136 : ¬ ((mbN a (a 40 o.toInt.toNat) (a 41 o.toInt.toNat) (ov a o.toInt.toNat) mi : Nat) : Int) = 0 := by have hcv := n_eq c136; rw [nI_toInt (show mbN a (a 40 o.toInt.toNat) (a 41 o.toInt.toNat) (ov a o.toInt.toNat) mi < 2 ^ 31 by omega)] at hcv; exact hcv
                refine wp_aload_n C 1 dX12_take_146 rfl rfl ?_
                refine wp_iload_n C 0 dX12_take_147 rfl rfl ?_
                refine wp_aload_n C 1 dX12_take_148 rfl rfl ?_
                refine wp_getR C dX12_take_149 fX12_take_107 hM.ob (hM.rf 41 rfl) ?_
                refine wp_iload_n C 2 dX12_take_152 rfl rfl ?_
                refine wp_iald C dX12_take_153 (hM.ar 41 rfl rfl) (j := o.toInt.toNat) (nI_nat (by omega)) (by omega) (by decide) ?_
                refine wp_eqi (((u2_a _ _ _ _ (hM.nm 41 rfl) _).trans (u2_a _ _ _ _ (hM.nm 41 rfl) _)).trans (congrFun (hA.2.1 41 (by unfold mR; omega)) _)) ?_
                refine wp_aload_n C 1 dX12_take_154 rfl rfl ?_
                refine wp_getR C dX12_take_155 fX12_take_110 hM.ob (hM.rf 42 rfl) ?_
                refine wp_iload_n C 2 dX12_take_158 rfl rfl ?_
                refine wp_iald C dX12_take_159 (hM.ar 42 rfl rfl) (j := o.toInt.toNat) (nI_nat (by omega)) (by omega) (by decide) ?_
                refine wp_eqi (((u2_a _ _ _ _ (hM.nm 42 rfl) _).trans (u2_a _ _ _ _ (hM.nm 42 rfl) _)).trans (congrFun (hA.2.1 42 (by unfold mR; omega)) _)) ?_
                refine wp_aload_n C 1 dX12_take_160 rfl rfl ?_
                refine wp_getR C dX12_take_161 fX12_take_113 hM.ob (hM.rf 43 rfl) ?_
                refine wp_iload_n C 2 dX12_take_164 rfl rfl ?_
                refine wp_iald C dX12_take_165 (hM.ar 43 rfl rfl) (j := o.toInt.toNat) (nI_nat (by omega)) (by omega) (by decide) ?_
                refine wp_eqi (((u2_a _ _ _ _ (hM.nm 43 rfl) _).trans (u2_a _ _ _ _ (hM.nm 43 rfl) _)).trans (congrFun (hA.2.1 43 (by unfold mR; omega)) _)) ?_
                refine wp_aload_n C 1 dX12_take_166 rfl rfl ?_
                refine wp_getR C dX12_take_167 fX12_take_116 hM.ob (hM.rf 44 rfl) ?_
                refine wp_iload_n C 2 dX12_take_170 rfl rfl ?_
                refine wp_iald C dX12_take_171 (hM.ar 44 rfl rfl) (j := o.toInt.toNat) (nI_nat (by omega)) (by omega) (by decide) ?_
                refine wp_eqi (((u2_a _ _ _ _ (hM.nm 44 rfl) _).trans (u2_a _ _ _ _ (hM.nm 44 rfl) _)).trans (congrFun (hA.2.1 44 (by unfold mR; omega)) _)) ?_
                refine wp_aload_n C 1 dX12_take_172 rfl rfl ?_
                refine wp_getR C dX12_take_173 fX12_take_119 hM.ob (hM.rf 45 rfl) ?_
                refine wp_iload_n C 2 dX12_take_176 rfl rfl ?_
                refine wp_iald C dX12_take_177 (hM.ar 45 rfl rfl) (j := o.toInt.toNat) (nI_nat (by omega)) (by omega) (by decide) ?_
                refine wp_eqi (((u2_a _ _ _ _ (hM.nm 45 rfl) _).trans (u2_a _ _ _ _ (hM.nm 45 rfl) _)).trans (congrFun (hA.2.1 45 (by unfold mR; omega)) _)) ?_
                refine wp_aload_n C 1 dX12_take_178 rfl rfl ?_
                refine wp_getR C dX12_take_179 fX12_take_122 hM.ob (hM.rf 46 rfl) ?_
                refine wp_iload_n C 2 dX12_take_182 rfl rfl ?_
                refine wp_iald C dX12_take_183 (hM.ar 46 rfl rfl) (j := o.toInt.toNat) (nI_nat (by omega)) (by omega) (by decide) ?_
                refine wp_eqi (((u2_a _ _ _ _ (hM.nm 46 rfl) _).trans (u2_a _ _ _ _ (hM.nm 46 rfl) _)).trans (congrFun (hA.2.1 46 (by unfold mR; omega)) _)) ?_
                refine wp_callV C (As := [.int (a 40 o.toInt.toNat), .int (a 41 o.toInt.toNat), .int (a 42 o.toInt.toNat), .int (a 43 o.toInt.toNat), .int (a 44 o.toInt.toNat), .int (a 45 o.toInt.toNat), .int (a 46 o.toInt.toNat)]) (rest := []) dX12_take_184 kX12_take_238 hM.ob (m_grants _ hM hX1.2 (by rw [u2_k _ _ _ _ (by decide)]; omega) (a 40 o.toInt.toNat) (a 41 o.toInt.toNat) (a 42 o.toInt.toNat) (a 43 o.toInt.toNat) (a 44 o.toInt.toNat) (a 45 o.toInt.toNat) (a 46 o.toInt.toNat)) rfl (Nat.le_of_ble_eq_true rfl) (by decide) (by decide) ?_
                rintro _ _ I2 J2 _ ⟨rfl, rfl, rfl, hX2⟩
                change WP E 6 _ _ T I2 J2 R 187 [(3, .int (a 40 o.toInt.toNat)), (0, .ref m), (1, .int o), (2, .int mi)] [.int (u2 a 0 0 0 0 22)]
                refine wp_eqi (u2_k _ _ _ _ (by decide) _) ?_
                refine wp_istore C [(4, .int (a 0 22)), (3, .int (a 40 o.toInt.toNat)), (0, .ref m), (1, .int o), (2, .int mi)] dX12_take_187 (by decide) rfl ?_
                refine wp_aload_n C 2 dX12_take_189 rfl rfl ?_
                refine wp_getR C dX12_take_190 fX12_take_128 hM.ob (hM.rf 48 rfl) ?_
                refine wp_iload_n C 3 dX12_take_193 rfl rfl ?_
                refine wp_iconst C 1 dX12_take_194 (by decide) ?_
                refine wp_iast C dX12_take_195 (hM.ar 48 rfl rfl) (j := o.toInt.toNat) (nI_nat (by omega)) (by omega) (by decide) ?_
                refine wp_iconst C 0 dX12_take_196 (by decide) ?_
                refine wp_istore C [(5, .int 0), (4, .int (a 0 22)), (3, .int (a 40 o.toInt.toNat)), (0, .ref m), (1, .int o), (2, .int mi)] dX12_take_197 (by decide) rfl ?_
                have hs0 : stTa a o mi = 0 := by simp only [stTa]; (repeat' split) <;> omega
                have hG1 : okG (u2 (aGr (u2 a 0 0 0) (a 40 o.toInt.toNat) (a 41 o.toInt.toNat) (ov a o.toInt.toNat)) 48 o.toInt.toNat 1) := ((hG.st 0).add (by rw [u2_k _ _ _ _ (by decide)]; omega) hfo.1 hfo.2.2.1).of rfl (fun r h1 h2 => u2_rown _ _ _ _ (by omega))
                refine wp_lv [3, 4, 5, 2, 1, 0] rfl ?_
                exact loop hs0 hG1 0 (by omega) _ _ ((hX1.tr hX2).r hM 48 (by unfold mR; omega) o.toInt.toNat 1) _ rfl
              · have c136 : ((mbN a (a 40 o.toInt.toNat) (a 41 o.toInt.toNat) (ov a o.toInt.toNat) mi : Nat) : Int) = 0 := by have hcv := p_eq c136; rw [nI_toInt (show mbN a (a 40 o.toInt.toNat) (a 41 o.toInt.toNat) (ov a o.toInt.toNat) mi < 2 ^ 31 by omega)] at hcv; exact hcv
                refine wp_aload_n C 1 dX12_take_139 rfl rfl ?_
                refine wp_bipush C 12 dX12_take_140 (by decide) ?_
                refine wp_cVi C (As := [.int 12]) (rest := []) dX12_take_142 kX12_take_164 hM.ob (m_refuse _ hM 12) rfl (Nat.le_of_ble_eq_true rfl) (by decide) (by decide) ?_
                have hst : stTa a o mi = 12 := by simp only [stTa]; (repeat' split) <;> omega
                have hs0 : ¬ stTa a o mi = 0 := by rw [hst]; decide
                exact wp_iret C Z dX12_take_145 (by decide) (by decide) ⟨by rw [if_neg hs0], rfl, rfl, by unfold aTa; rw [if_neg hs0, hst]; exact MX.no hA hM 12⟩
            · have c77 : (a 0 22).toInt = 60 := by have hcv := p_eq c77; exact hcv
              refine wp_aload_n C 0 dX12_take_80 rfl rfl ?_
              refine wp_bipush C 7 dX12_take_81 (by decide) ?_
              refine wp_cVi C (As := [.int 7]) (rest := []) dX12_take_83 kX12_take_164 hM.ob (m_refuse _ hM 7) rfl (Nat.le_of_ble_eq_true rfl) (by decide) (by decide) ?_
              have hst : stTa a o mi = 7 := by simp only [stTa]; (repeat' split) <;> omega
              have hs0 : ¬ stTa a o mi = 0 := by rw [hst]; decide
              exact wp_iret C Z dX12_take_86 (by decide) (by decide) ⟨by rw [if_neg hs0], rfl, rfl, by unfold aTa; rw [if_neg hs0, hst]; exact MX.no hA hM 7⟩
          · have c61 : ¬ ((a 48 o.toInt.toNat).toInt = 0 ∧ mi.toInt ≤ (a 47 o.toInt.toNat).toInt) := fun z => absurd ((bI_t z).symm.trans c61) (by decide)
            refine wp_aload_n C 0 dX12_take_64 rfl rfl ?_
            refine wp_bipush C 13 dX12_take_65 (by decide) ?_
            refine wp_cVi C (As := [.int 13]) (rest := []) dX12_take_67 kX12_take_164 hM.ob (m_refuse _ hM 13) rfl (Nat.le_of_ble_eq_true rfl) (by decide) (by decide) ?_
            have hst : stTa a o mi = 13 := by simp only [stTa]; (repeat' split) <;> omega
            have hs0 : ¬ stTa a o mi = 0 := by rw [hst]; decide
            exact wp_iret C Z dX12_take_70 (by decide) (by decide) ⟨by rw [if_neg hs0], rfl, rfl, by unfold aTa; rw [if_neg hs0, hst]; exact MX.no hA hM 13⟩
        · have c46 : ¬ (a 0 25).toInt ≤ mi.toInt := by have hcv := n_le c46; exact hcv
          refine wp_aload_n C 0 dX12_take_49 rfl rfl ?_
          refine wp_iconst C 3 dX12_take_50 (by decide) ?_
          refine wp_cVi C (As := [.int 3]) (rest := []) dX12_take_51 kX12_take_164 hM.ob (m_refuse _ hM 3) rfl (Nat.le_of_ble_eq_true rfl) (by decide) (by decide) ?_
          have hst : stTa a o mi = 3 := by simp only [stTa]; (repeat' split) <;> omega
          have hs0 : ¬ stTa a o mi = 0 := by rw [hst]; decide
          exact wp_iret C Z dX12_take_54 (by decide) (by decide) ⟨by rw [if_neg hs0], rfl, rfl, by unfold aTa; rw [if_neg hs0, hst]; exact MX.no hA hM 3⟩
      · have c32 : ¬ (0 ≤ mi.toInt ∧ mi.toInt ≤ 100000) := fun z => absurd ((bI_t z).symm.trans c32) (by decide)
        refine wp_aload_n C 0 dX12_take_35 rfl rfl ?_
        refine wp_iconst C 2 dX12_take_36 (by decide) ?_
        refine wp_cVi C (As := [.int 2]) (rest := []) dX12_take_37 kX12_take_164 hM.ob (m_refuse _ hM 2) rfl (Nat.le_of_ble_eq_true rfl) (by decide) (by decide) ?_
        have hst : stTa a o mi = 2 := by simp only [stTa]; (repeat' split) <;> omega
        have hs0 : ¬ stTa a o mi = 0 := by rw [hst]; decide
        exact wp_iret C Z dX12_take_40 (by decide) (by decide) ⟨by rw [if_neg hs0], rfl, rfl, by unfold aTa; rw [if_neg hs0, hst]; exact MX.no hA hM 2⟩
    · have c19 : ¬ o.toInt < (a 0 24).toInt := by have hcv := n_lt c19; exact hcv
      refine wp_aload_n C 0 dX12_take_22 rfl rfl ?_
      refine wp_iconst C 1 dX12_take_23 (by decide) ?_
      refine wp_cVi C (As := [.int 1]) (rest := []) dX12_take_24 kX12_take_164 hM.ob (m_refuse _ hM 1) rfl (Nat.le_of_ble_eq_true rfl) (by decide) (by decide) ?_
      have hst : stTa a o mi = 1 := by simp only [stTa]; (repeat' split) <;> omega
      have hs0 : ¬ stTa a o mi = 0 := by rw [hst]; decide
      exact wp_iret C Z dX12_take_27 (by decide) (by decide) ⟨by rw [if_neg hs0], rfl, rfl, by unfold aTa; rw [if_neg hs0, hst]; exact MX.no hA hM 1⟩
