/-! ===== one worth changes ===== -/
set_option maxRecDepth 100000 in
set_option maxHeartbeats 4000000 in
theorem c_changeWorth (l : Launch) {T : gSh} {I : gI} {J : gJ} {R : gR} {ca : Nat → Nat} (hC : CO T R ca) {h : Nat} {w c dg : Nat → Nat} (hB : BS I ca h w c dg) (hO : OpB h w c dg) (hz : ∀ v, v < 19 → I (ca 22) v = 0) {p x : Nat} (hp : p < 80) (hx : x ≤ 100) : Con l yX1_changeWorth wsX1_changeWorth ({ frames := 4, cells := 0, slots := 0, locals := 105 }) [.ref (ca 14), .int (nI p), .int (nI x)] T I J R (PC T R I J ca h (va_up w p x)) := by
  refine Con.mk (cc := cX1_changeWorth) (maxL := 11) (ret := none) (by decide) rfl (Nat.le_of_ble_eq_true rfl) ?_
  intro E hE C Z hnm
  subst hE
  change WP E 11 0 0 T I J R 0 [(0, .ref (ca 14)), (1, .int (nI p)), (2, .int (nI x))] []
  have hw0 := hO.2.1 p hp
  have hdg := hO.2.2.1
  have hh := hO.1
  obtain ⟨π, hπ0⟩ := hO.2.2.2
  have hπ : ∀ u v g, ArcB h (va_up w p x) c dg p u v g → π u + g ≤ π v := fun u v g ha => hπ0 u v g (ArcB_bar hp ha)
  have hw2 : ∀ r, r < 80 → c r = 1 → r ≠ p → 0 < (va_up w p x) r := fun r hr h1 h2 => by rw [vu_n _ _ h2]; exact (hO.2.1 r hr).2.2 h1
  have hw3 : ∀ r, r < 80 → (va_up w p x) r ≤ 100 ∧ c r ≤ 1 ∧ (c r = 1 → r ≠ p → 0 < (va_up w p x) r) := fun r hr => ⟨by
    by_cases e : r = p
    · subst e; rw [vu_s]; exact hx
    · rw [vu_n _ _ e]; exact (hO.2.1 r hr).1, (hO.2.1 r hr).2.1, hw2 r hr⟩
  have ewp : (va_up w p x) p = x := vu_s _ _ _
  have hwp := (hB.2.2.1 p hp).1
  have hcp0 := (hB.2.2.2.1 p hp).1
  rcases (show c p = 0 ∨ c p = 1 by omega) with hcp | hcp
  · have hcr : I (ca 16) p = 0 := by rw [hcp0, hcp]; rfl
    refine wp_aload_n C 0 dX1_changeWorth_0 rfl rfl ?_
    refine wp_getR C dX1_changeWorth_1 fX1_changeWorth_15 (hC.ob 14 (by decide) rfl) (hC.rf 14 1 16 (by decide)) ?_
    refine wp_iload_n C 1 dX1_changeWorth_4 rfl rfl ?_
    refine wp_zald C dX1_changeWorth_5 (hC.ar 16 (by decide) rfl) (j := p) rfl (by omega) (by decide) ?_
    refine wp_eqi hcr ?_
    refine wp_istore_n C [(3, .int 0), (0, .ref (ca 14)), (1, .int (nI p)), (2, .int (nI x))] dX1_changeWorth_6 rfl (by decide) rfl ?_
    refine wp_iload_n C 0 dX1_changeWorth_7 rfl rfl ?_
    refine wp_if_eq C 29 dX1_changeWorth_8 (by decide) (fun c8 => ?_) (fun c8 => ?_)
    · refine wp_iload_n C 3 dX1_changeWorth_29 rfl rfl ?_
      refine wp_aload_n C 1 dX1_changeWorth_30 rfl rfl ?_
      refine wp_getR C dX1_changeWorth_31 fX1_changeWorth_19 (hC.ob 14 (by decide) rfl) (hC.rf 14 2 17 (by decide)) ?_
      refine wp_iload_n C 2 dX1_changeWorth_34 rfl rfl ?_
      refine wp_iald C dX1_changeWorth_35 (hC.ar 17 (by decide) rfl) (j := p) rfl (by omega) (by decide) ?_
      refine wp_eqi hwp ?_
      refine wp_icmp_gt C 43 dX1_changeWorth_36 (by decide) (fun c36 => ?_) (fun c36 => ?_)
      · have c36 : ((w p : Nat) : Int) < ((x : Nat) : Int) := by have h := p_lt c36; rw [nI_toInt (show w p < 2 ^ 31 by omega), nI_toInt (show x < 2 ^ 31 by omega)] at h; exact h
        refine wp_iconst C 0 dX1_changeWorth_43 (by decide) ?_
        refine wp_istore C [(4, .int 0), (3, .int 0), (0, .ref (ca 14)), (1, .int (nI p)), (2, .int (nI x))] dX1_changeWorth_44 (by decide) rfl ?_
        refine wp_aload_n C 2 dX1_changeWorth_46 rfl rfl ?_
        refine wp_getR C dX1_changeWorth_47 fX1_changeWorth_19 (hC.ob 14 (by decide) rfl) (hC.rf 14 2 17 (by decide)) ?_
        refine wp_iload_n C 3 dX1_changeWorth_50 rfl rfl ?_
        refine wp_iload_n C 4 dX1_changeWorth_51 rfl rfl ?_
        refine wp_iast C dX1_changeWorth_52 (hC.ar 17 (by decide) rfl) (j := p) rfl (by omega) (by decide) ?_
        obtain ⟨I1, hI1⟩ : ∃ I1 : gI, I1 = u2 I (ca 17) p (nI x) := ⟨_, rfl⟩
        rw [← hI1]
        have hB1 : BS I1 ca h (va_up w p x) c dg := by rw [hI1]; exact hB.setw hC hx
        have hA1 : Ag5 I I1 ca := fun a n1 n2 n3 n4 n5 => by rw [hI1]; exact u2_rown _ _ _ _ n2
        have hz1 : ∀ v, v < 19 → I1 (ca 22) v = 0 := fun v hv => by rw [hI1, u2_a _ _ _ _ (hC.ne 22 17 (by decide) (by decide) (by decide))]; exact hz v hv
        refine wp_iload C 0 dX1_changeWorth_53 rfl ?_
        refine wp_if_eq C 59 dX1_changeWorth_55 (by decide) (fun c55 => ?_) (fun c55 => ?_)
        · refine wp_iload_n C 1 dX1_changeWorth_59 rfl rfl ?_
          refine wp_if_eq C 70 dX1_changeWorth_60 (by decide) (fun c60 => ?_) (fun c60 => ?_)
          · refine wp_iload_n C 3 dX1_changeWorth_70 rfl rfl ?_
            refine wp_cSi C (As := [.int (nI p)]) (rest := []) dX1_changeWorth_71 kX1_changeWorth_49 (c_editorNode _ hp) rfl (Nat.le_of_ble_eq_true rfl) (by decide) (by decide) ?_
            refine wp_istore C [(5, .int (nI (8 + p % 10))), (4, .int 0), (3, .int 0), (0, .ref (ca 14)), (1, .int (nI p)), (2, .int (nI x))] dX1_changeWorth_74 (by decide) rfl ?_
            refine wp_iload_n C 2 dX1_changeWorth_76 rfl rfl ?_
            refine wp_if_eq C 87 dX1_changeWorth_77 (by decide) (fun c77 => ?_) (fun c77 => ?_)
            · refine wp_iload_n C 4 dX1_changeWorth_87 rfl rfl ?_
              refine wp_cSi C (As := [.int (nI p)]) (rest := []) dX1_changeWorth_88 kX1_changeWorth_45 (c_agentNode _ hp) rfl (Nat.le_of_ble_eq_true rfl) (by decide) (by decide) ?_
              refine wp_istore C [(6, .int (nI (p / 10))), (5, .int (nI (8 + p % 10))), (4, .int 0), (3, .int 0), (0, .ref (ca 14)), (1, .int (nI p)), (2, .int (nI x))] dX1_changeWorth_91 (by decide) rfl ?_
              refine wp_iload_n C 3 dX1_changeWorth_93 rfl rfl ?_
              refine wp_if_ne C 121 dX1_changeWorth_94 (by decide) (fun c94 => ?_) (fun c94 => ?_)
              · exact absurd (by decide) c94
              · refine wp_aload_n C 4 dX1_changeWorth_97 rfl rfl ?_
                refine wp_iload C 1 dX1_changeWorth_98 rfl ?_
                refine wp_cVi C (As := [.int (nI (8 + p % 10))]) (rest := []) dX1_changeWorth_100 kX1_changeWorth_52 (hC.ob 14 (by decide) rfl) (c_isFreeB _ hC hB1 (by omega)) rfl (Nat.le_of_ble_eq_true rfl) (by decide) (by decide) ?_
                refine wp_if_eq C 121 dX1_changeWorth_103 (by decide) (fun c103 => ?_) (fun c103 => ?_)
                · have c103 : ¬ dg (8 + p % 10) < h := bI_0.mp (p_eq c103)
                  refine wp_aload_n C 4 dX1_changeWorth_121 rfl rfl ?_
                  refine wp_iload C 1 dX1_changeWorth_122 rfl ?_
                  refine wp_iload_n C 5 dX1_changeWorth_124 rfl rfl ?_
                  refine wp_callV C (As := [.int (nI (8 + p % 10)), .int (nI p)]) (rest := []) dX1_changeWorth_125 kX1_changeWorth_60 (hC.ob 14 (by decide) rfl) (c_seekWays _ hC hB1 hp (s := 8 + p % 10) (by omega) hπ hz1) rfl (Nat.le_of_ble_eq_true rfl) (by decide) (by decide) ?_
                  rintro _ _ _ _ _ ⟨rfl, rfl, rfl, F2, B2, H2, L2, rfl, rfl, z2, hS2, cl2⟩
                  have hB2 : BS (rwI I1 ca F2 B2) ca h (va_up w p x) c dg := hB1.rw hC
                  have hA2 : Ag5 I (rwI I1 ca F2 B2) ca := fun a n1 n2 n3 n4 n5 => by unfold rwI; rw [vu_n _ _ n5, vu_n _ _ n4]; exact hA1 a n1 n2 n3 n4 n5
                  have hJ2 : AgJ J (rwJ J ca H2 L2) ca := fun a n1 n2 => by unfold rwJ; rw [vu_n _ _ n2, vu_n _ _ n1]
                  have hz2 : ∀ v, v < 19 → rwI I1 ca F2 B2 (ca 22) v = 0 := fun v hv => by rw [rwI_B]; exact z2 v hv
                  obtain ⟨ψ, hψ, eψ⟩ := pot_of (s := 0) hπ ArcB_lt cl2
                  have rs : rch F2 (8 + p % 10) := hS2.1.1.1
                  have ds : ψ (8 + p % 10) = 0 := by rw [eψ _ rs]; exact hS2.1.1.2
                  have rG : rch F2 (p / 10) := goal_0 hp hh.1 hcp (fun r hr => (hO.2.1 r hr).2.1) (fun n hn => (hdg n hn).1) cl2 rs
                  have bG := (hS2.2 _ rG).2.2
                  have bW := hw_wi (w := x) (p := p) hx hp
                  have bN := hw_wN (w := x) (p := p) hx hp
                  change WP E 11 0 0 T (rwI I1 ca F2 B2) (rwJ J ca H2 L2) R 128 [(6, .int (nI (p / 10))), (5, .int (nI (8 + p % 10))), (4, .int 0), (3, .int 0), (0, .ref (ca 14)), (1, .int (nI p)), (2, .int (nI x))] []
                  refine wp_iload_n C 3 dX1_changeWorth_128 rfl rfl ?_
                  refine wp_if_eq C 141 dX1_changeWorth_129 (by decide) (fun c129 => ?_) (fun c129 => ?_)
                  · refine wp_aload_n C 4 dX1_changeWorth_141 rfl rfl ?_
                    refine wp_iload_n C 5 dX1_changeWorth_142 rfl rfl ?_
                    refine wp_cVl C (As := [.int (nI p)]) (rest := []) dX1_changeWorth_143 kX1_changeWorth_64 (hC.ob 14 (by decide) rfl) (c_highWeight _ hC hp (w := x) (by rw [(hB2.2.2.1 p hp).1, ewp]) hx) rfl (Nat.le_of_ble_eq_true rfl) (by decide) (by decide) ?_
                    refine wp_lstore C [(7, .long (hw64 x p)), (6, .int (nI (p / 10))), (5, .int (nI (8 + p % 10))), (4, .int 0), (3, .int 0), (0, .ref (ca 14)), (1, .int (nI p)), (2, .int (nI x))] dX1_changeWorth_146 (by decide) rfl ?_
                    refine wp_iload_n C 4 dX1_changeWorth_148 rfl rfl ?_
                    refine wp_if_eq C 160 dX1_changeWorth_149 (by decide) (fun c149 => ?_) (fun c149 => ?_)
                    · refine wp_iload_n C 6 dX1_changeWorth_160 rfl rfl ?_
                      refine wp_cSl C (As := [.int (nI p)]) (rest := []) dX1_changeWorth_161 kX1_changeWorth_68 (c_lowWeight _ hp) rfl (Nat.le_of_ble_eq_true rfl) (by decide) (by decide) ?_
                      refine wp_lstore C [(9, .long (lw64 p)), (7, .long (hw64 x p)), (6, .int (nI (p / 10))), (5, .int (nI (8 + p % 10))), (4, .int 0), (3, .int 0), (0, .ref (ca 14)), (1, .int (nI p)), (2, .int (nI x))] dX1_changeWorth_164 (by decide) rfl ?_
                      refine wp_aload_n C 6 dX1_changeWorth_166 rfl rfl ?_
                      refine wp_getR C dX1_changeWorth_167 fX1_changeWorth_26 (hC.ob 14 (by decide) rfl) (hC.rf 14 4 19 (by decide)) ?_
                      refine wp_iload C 2 dX1_changeWorth_170 rfl ?_
                      refine wp_lald C dX1_changeWorth_172 (hC.ar 19 (by decide) rfl) (j := p / 10) rfl (by omega) (by decide) ?_
                      refine wp_eql (congrFun (rwJ_H hC) _) ?_
                      refine wp_lload C 1 dX1_changeWorth_173 rfl ?_
                      refine wp_ladd C dX1_changeWorth_175 ?_
                      refine wp_aload_n C 6 dX1_changeWorth_176 rfl rfl ?_
                      refine wp_getR C dX1_changeWorth_177 fX1_changeWorth_30 (hC.ob 14 (by decide) rfl) (hC.rf 14 5 20 (by decide)) ?_
                      refine wp_iload C 2 dX1_changeWorth_180 rfl ?_
                      refine wp_lald C dX1_changeWorth_182 (hC.ar 20 (by decide) rfl) (j := p / 10) rfl (by omega) (by decide) ?_
                      refine wp_eql (congrFun rwJ_L _) ?_
                      refine wp_lload C 0 dX1_changeWorth_183 rfl ?_
                      refine wp_ladd C dX1_changeWorth_185 ?_
                      refine wp_cSi C (As := [.long ((H2 (p / 10)) + (hw64 x p)), .long ((L2 (p / 10)) + (lw64 p))]) (rest := []) dX1_changeWorth_186 kX1_changeWorth_71 (c_isGain _ ((H2 (p / 10)) + (hw64 x p)) ((L2 (p / 10)) + (lw64 p))) rfl (Nat.le_of_ble_eq_true rfl) (by decide) (by decide) ?_
                      refine wp_if_eq C 205 dX1_changeWorth_189 (by decide) (fun c189 => ?_) (fun c189 => ?_)
                      · have c189 : ¬ (0 < ψ (p / 10) + wt x p) := fun g => (bI_0.mp (p_eq c189)) ((gain_iff bG.1 bG.2 bW.1 bW.2).mpr (by have e := wt_I (w := x) (p := p) hx hp; have e2 := eψ _ rG; simp only [Dv] at e2; omega))
                        have hO2 : OpB h (va_up w p x) c dg := by
                          have hxp : 0 < x := by
                            rcases Nat.eq_zero_or_pos x with q | q
                            · subst q; have := wt_0 hp; omega
                            · exact q
                          refine ⟨hh, fun r hr => ⟨(hw3 r hr).1, (hw3 r hr).2.1, fun q => ?_⟩, hdg, ψ, ArcB_all hψ (fun _ _ => by rw [ds, ewp]; omega) (fun q => by omega)⟩
                          by_cases e : r = p
                          · rw [e, ewp]; exact hxp
                          · exact hw2 r hr q e
                        exact wp_vret C Z dX1_changeWorth_205 (by decide) (by decide) ⟨rfl, rfl, rfl, hA2, hJ2, hz2, c, dg, hB2, hO2⟩
                      · have c189 : 0 < ψ (p / 10) + wt x p := by have q := (gain_iff bG.1 bG.2 bW.1 bW.2).mp (Classical.byContradiction (fun g => n_eq c189 (bI_0.mpr g))); have e := wt_I (w := x) (p := p) hx hp; have e2 := eψ _ rG; simp only [Dv] at e2; omega
                        refine wp_aload_n C 6 dX1_changeWorth_192 rfl rfl ?_
                        refine wp_iload C 3 dX1_changeWorth_193 rfl ?_
                        refine wp_iload C 2 dX1_changeWorth_195 rfl ?_
                        obtain ⟨n, hn, xn, x19, xF, xd, xR⟩ := way_of hw2 hS2 cl2 eψ rG (by omega)
                        refine wp_callV C (As := [.int (nI (8 + p % 10)), .int (nI (p / 10))]) (rest := []) dX1_changeWorth_197 kX1_changeWorth_75 (hC.ob 14 (by decide) rfl) (c_turnWay _ hC hB2 (x := fun j => It (bfn F2) j (p / 10)) hp hn.2 rfl xn (by show p / 10 < 18; omega) x19 (fun j hj => (congrFun (rwI_F hC) _).trans (xF j hj)) xd hdg xR) rfl (Nat.le_of_ble_eq_true rfl) (by decide) (by decide) ?_
                        rintro _ _ I3 _ _ ⟨rfl, rfl, rfl, rfl, hA3, cn, dn, hB3, hT3⟩
                        change WP E 11 0 0 T I3 (rwJ J ca H2 L2) R 200 [(9, .long (lw64 p)), (7, .long (hw64 x p)), (6, .int (nI (p / 10))), (5, .int (nI (8 + p % 10))), (4, .int 0), (3, .int 0), (0, .ref (ca 14)), (1, .int (nI p)), (2, .int (nI x))] []
                        refine wp_aload_n C 6 dX1_changeWorth_200 rfl rfl ?_
                        refine wp_iload_n C 7 dX1_changeWorth_201 rfl rfl ?_
                        refine wp_cVv C (As := [.int (nI p)]) (rest := []) dX1_changeWorth_202 kX1_changeWorth_56 (hC.ob 14 (by decide) rfl) (c_turn _ hC hp (hB3.2.2.2.1 _ hp).1 (hB3.2.2.2.1 _ hp).2) rfl (Nat.le_of_ble_eq_true rfl) (by decide) (by decide) ?_
                        have hO2 : OpB h (va_up w p x) (fli cn p) (tdg dn p (cn p)) := ring_done hh hp hw3 hdg hψ hT3 hn.1 xd (Or.inl ⟨hcp, xn, rfl, by rw [ewp]; omega, by show ψ (It (bfn F2) n (p / 10)) < ψ (p / 10) + wt ((va_up w p x) p) p; rw [xn, ds, ewp]; omega⟩)
                        have hB4 := hB3.turn hC (fun y hy => hT3.2.1 y hy) hp
                        refine wp_vret C Z dX1_changeWorth_205 (by decide) (by decide) ⟨rfl, rfl, rfl, fun a n1 n2 n3 n4 n5 => ?_, hJ2, fun v hv => ?_, _, _, hB4, hO2⟩
                        · rw [Ag.turn hA3 a n1 n3]; exact hA2 a n1 n2 n3 n4 n5
                        · rw [Ag.turn hA3 (ca 22) (hC.ne 22 16 (by decide) (by decide) (by decide)) (hC.ne 22 18 (by decide) (by decide) (by decide))]; exact hz2 v hv
                    · exact absurd (by decide) c149
                  · exact absurd (by decide) c129
                · have c103 : dg (8 + p % 10) < h := Classical.byContradiction (fun g => n_eq c103 (bI_0.mpr g))
                  refine wp_aload_n C 4 dX1_changeWorth_106 rfl rfl ?_
                  refine wp_iload C 0 dX1_changeWorth_107 rfl ?_
                  refine wp_cVi C (As := [.int (nI (p / 10))]) (rest := []) dX1_changeWorth_109 kX1_changeWorth_52 (hC.ob 14 (by decide) rfl) (c_isFreeB _ hC hB1 (by omega)) rfl (Nat.le_of_ble_eq_true rfl) (by decide) (by decide) ?_
                  refine wp_if_eq C 121 dX1_changeWorth_112 (by decide) (fun c112 => ?_) (fun c112 => ?_)
                  · have c112 : ¬ dg (p / 10) < h := bI_0.mp (p_eq c112)
                    refine wp_aload_n C 4 dX1_changeWorth_121 rfl rfl ?_
                    refine wp_iload C 1 dX1_changeWorth_122 rfl ?_
                    refine wp_iload_n C 5 dX1_changeWorth_124 rfl rfl ?_
                    refine wp_callV C (As := [.int (nI (8 + p % 10)), .int (nI p)]) (rest := []) dX1_changeWorth_125 kX1_changeWorth_60 (hC.ob 14 (by decide) rfl) (c_seekWays _ hC hB1 hp (s := 8 + p % 10) (by omega) hπ hz1) rfl (Nat.le_of_ble_eq_true rfl) (by decide) (by decide) ?_
                    rintro _ _ _ _ _ ⟨rfl, rfl, rfl, F2, B2, H2, L2, rfl, rfl, z2, hS2, cl2⟩
                    have hB2 : BS (rwI I1 ca F2 B2) ca h (va_up w p x) c dg := hB1.rw hC
                    have hA2 : Ag5 I (rwI I1 ca F2 B2) ca := fun a n1 n2 n3 n4 n5 => by unfold rwI; rw [vu_n _ _ n5, vu_n _ _ n4]; exact hA1 a n1 n2 n3 n4 n5
                    have hJ2 : AgJ J (rwJ J ca H2 L2) ca := fun a n1 n2 => by unfold rwJ; rw [vu_n _ _ n2, vu_n _ _ n1]
                    have hz2 : ∀ v, v < 19 → rwI I1 ca F2 B2 (ca 22) v = 0 := fun v hv => by rw [rwI_B]; exact z2 v hv
                    obtain ⟨ψ, hψ, eψ⟩ := pot_of (s := 0) hπ ArcB_lt cl2
                    have rs : rch F2 (8 + p % 10) := hS2.1.1.1
                    have ds : ψ (8 + p % 10) = 0 := by rw [eψ _ rs]; exact hS2.1.1.2
                    have rG : rch F2 (p / 10) := goal_0 hp hh.1 hcp (fun r hr => (hO.2.1 r hr).2.1) (fun n hn => (hdg n hn).1) cl2 rs
                    have bG := (hS2.2 _ rG).2.2
                    have bW := hw_wi (w := x) (p := p) hx hp
                    have bN := hw_wN (w := x) (p := p) hx hp
                    change WP E 11 0 0 T (rwI I1 ca F2 B2) (rwJ J ca H2 L2) R 128 [(6, .int (nI (p / 10))), (5, .int (nI (8 + p % 10))), (4, .int 0), (3, .int 0), (0, .ref (ca 14)), (1, .int (nI p)), (2, .int (nI x))] []
                    refine wp_iload_n C 3 dX1_changeWorth_128 rfl rfl ?_
                    refine wp_if_eq C 141 dX1_changeWorth_129 (by decide) (fun c129 => ?_) (fun c129 => ?_)
                    · refine wp_aload_n C 4 dX1_changeWorth_141 rfl rfl ?_
                      refine wp_iload_n C 5 dX1_changeWorth_142 rfl rfl ?_
                      refine wp_cVl C (As := [.int (nI p)]) (rest := []) dX1_changeWorth_143 kX1_changeWorth_64 (hC.ob 14 (by decide) rfl) (c_highWeight _ hC hp (w := x) (by rw [(hB2.2.2.1 p hp).1, ewp]) hx) rfl (Nat.le_of_ble_eq_true rfl) (by decide) (by decide) ?_
                      refine wp_lstore C [(7, .long (hw64 x p)), (6, .int (nI (p / 10))), (5, .int (nI (8 + p % 10))), (4, .int 0), (3, .int 0), (0, .ref (ca 14)), (1, .int (nI p)), (2, .int (nI x))] dX1_changeWorth_146 (by decide) rfl ?_
                      refine wp_iload_n C 4 dX1_changeWorth_148 rfl rfl ?_
                      refine wp_if_eq C 160 dX1_changeWorth_149 (by decide) (fun c149 => ?_) (fun c149 => ?_)
                      · refine wp_iload_n C 6 dX1_changeWorth_160 rfl rfl ?_
                        refine wp_cSl C (As := [.int (nI p)]) (rest := []) dX1_changeWorth_161 kX1_changeWorth_68 (c_lowWeight _ hp) rfl (Nat.le_of_ble_eq_true rfl) (by decide) (by decide) ?_
                        refine wp_lstore C [(9, .long (lw64 p)), (7, .long (hw64 x p)), (6, .int (nI (p / 10))), (5, .int (nI (8 + p % 10))), (4, .int 0), (3, .int 0), (0, .ref (ca 14)), (1, .int (nI p)), (2, .int (nI x))] dX1_changeWorth_164 (by decide) rfl ?_
                        refine wp_aload_n C 6 dX1_changeWorth_166 rfl rfl ?_
                        refine wp_getR C dX1_changeWorth_167 fX1_changeWorth_26 (hC.ob 14 (by decide) rfl) (hC.rf 14 4 19 (by decide)) ?_
                        refine wp_iload C 2 dX1_changeWorth_170 rfl ?_
                        refine wp_lald C dX1_changeWorth_172 (hC.ar 19 (by decide) rfl) (j := p / 10) rfl (by omega) (by decide) ?_
                        refine wp_eql (congrFun (rwJ_H hC) _) ?_
                        refine wp_lload C 1 dX1_changeWorth_173 rfl ?_
                        refine wp_ladd C dX1_changeWorth_175 ?_
                        refine wp_aload_n C 6 dX1_changeWorth_176 rfl rfl ?_
                        refine wp_getR C dX1_changeWorth_177 fX1_changeWorth_30 (hC.ob 14 (by decide) rfl) (hC.rf 14 5 20 (by decide)) ?_
                        refine wp_iload C 2 dX1_changeWorth_180 rfl ?_
                        refine wp_lald C dX1_changeWorth_182 (hC.ar 20 (by decide) rfl) (j := p / 10) rfl (by omega) (by decide) ?_
                        refine wp_eql (congrFun rwJ_L _) ?_
                        refine wp_lload C 0 dX1_changeWorth_183 rfl ?_
                        refine wp_ladd C dX1_changeWorth_185 ?_
                        refine wp_cSi C (As := [.long ((H2 (p / 10)) + (hw64 x p)), .long ((L2 (p / 10)) + (lw64 p))]) (rest := []) dX1_changeWorth_186 kX1_changeWorth_71 (c_isGain _ ((H2 (p / 10)) + (hw64 x p)) ((L2 (p / 10)) + (lw64 p))) rfl (Nat.le_of_ble_eq_true rfl) (by decide) (by decide) ?_
                        refine wp_if_eq C 205 dX1_changeWorth_189 (by decide) (fun c189 => ?_) (fun c189 => ?_)
                        · have c189 : ¬ (0 < ψ (p / 10) + wt x p) := fun g => (bI_0.mp (p_eq c189)) ((gain_iff bG.1 bG.2 bW.1 bW.2).mpr (by have e := wt_I (w := x) (p := p) hx hp; have e2 := eψ _ rG; simp only [Dv] at e2; omega))
                          have hO2 : OpB h (va_up w p x) c dg := by
                            have hxp : 0 < x := by
                              rcases Nat.eq_zero_or_pos x with q | q
                              · subst q; have := wt_0 hp; omega
                              · exact q
                            refine ⟨hh, fun r hr => ⟨(hw3 r hr).1, (hw3 r hr).2.1, fun q => ?_⟩, hdg, ψ, ArcB_all hψ (fun _ _ => by rw [ds, ewp]; omega) (fun q => by omega)⟩
                            by_cases e : r = p
                            · rw [e, ewp]; exact hxp
                            · exact hw2 r hr q e
                          exact wp_vret C Z dX1_changeWorth_205 (by decide) (by decide) ⟨rfl, rfl, rfl, hA2, hJ2, hz2, c, dg, hB2, hO2⟩
                        · have c189 : 0 < ψ (p / 10) + wt x p := by have q := (gain_iff bG.1 bG.2 bW.1 bW.2).mp (Classical.byContradiction (fun g => n_eq c189 (bI_0.mpr g))); have e := wt_I (w := x) (p := p) hx hp; have e2 := eψ _ rG; simp only [Dv] at e2; omega
                          refine wp_aload_n C 6 dX1_changeWorth_192 rfl rfl ?_
                          refine wp_iload C 3 dX1_changeWorth_193 rfl ?_
                          refine wp_iload C 2 dX1_changeWorth_195 rfl ?_
                          obtain ⟨n, hn, xn, x19, xF, xd, xR⟩ := way_of hw2 hS2 cl2 eψ rG (by omega)
                          refine wp_callV C (As := [.int (nI (8 + p % 10)), .int (nI (p / 10))]) (rest := []) dX1_changeWorth_197 kX1_changeWorth_75 (hC.ob 14 (by decide) rfl) (c_turnWay _ hC hB2 (x := fun j => It (bfn F2) j (p / 10)) hp hn.2 rfl xn (by show p / 10 < 18; omega) x19 (fun j hj => (congrFun (rwI_F hC) _).trans (xF j hj)) xd hdg xR) rfl (Nat.le_of_ble_eq_true rfl) (by decide) (by decide) ?_
                          rintro _ _ I3 _ _ ⟨rfl, rfl, rfl, rfl, hA3, cn, dn, hB3, hT3⟩
                          change WP E 11 0 0 T I3 (rwJ J ca H2 L2) R 200 [(9, .long (lw64 p)), (7, .long (hw64 x p)), (6, .int (nI (p / 10))), (5, .int (nI (8 + p % 10))), (4, .int 0), (3, .int 0), (0, .ref (ca 14)), (1, .int (nI p)), (2, .int (nI x))] []
                          refine wp_aload_n C 6 dX1_changeWorth_200 rfl rfl ?_
                          refine wp_iload_n C 7 dX1_changeWorth_201 rfl rfl ?_
                          refine wp_cVv C (As := [.int (nI p)]) (rest := []) dX1_changeWorth_202 kX1_changeWorth_56 (hC.ob 14 (by decide) rfl) (c_turn _ hC hp (hB3.2.2.2.1 _ hp).1 (hB3.2.2.2.1 _ hp).2) rfl (Nat.le_of_ble_eq_true rfl) (by decide) (by decide) ?_
                          have hO2 : OpB h (va_up w p x) (fli cn p) (tdg dn p (cn p)) := ring_done hh hp hw3 hdg hψ hT3 hn.1 xd (Or.inl ⟨hcp, xn, rfl, by rw [ewp]; omega, by show ψ (It (bfn F2) n (p / 10)) < ψ (p / 10) + wt ((va_up w p x) p) p; rw [xn, ds, ewp]; omega⟩)
                          have hB4 := hB3.turn hC (fun y hy => hT3.2.1 y hy) hp
                          refine wp_vret C Z dX1_changeWorth_205 (by decide) (by decide) ⟨rfl, rfl, rfl, fun a n1 n2 n3 n4 n5 => ?_, hJ2, fun v hv => ?_, _, _, hB4, hO2⟩
                          · rw [Ag.turn hA3 a n1 n3]; exact hA2 a n1 n2 n3 n4 n5
                          · rw [Ag.turn hA3 (ca 22) (hC.ne 22 16 (by decide) (by decide) (by decide)) (hC.ne 22 18 (by decide) (by decide) (by decide))]; exact hz2 v hv
                      · exact absurd (by decide) c149
                    · exact absurd (by decide) c129
                  · have c112 : dg (p / 10) < h := Classical.byContradiction (fun g => n_eq c112 (bI_0.mpr g))
                    refine wp_aload_n C 4 dX1_changeWorth_115 rfl rfl ?_
                    refine wp_iload_n C 5 dX1_changeWorth_116 rfl rfl ?_
                    refine wp_cVv C (As := [.int (nI p)]) (rest := []) dX1_changeWorth_117 kX1_changeWorth_56 (hC.ob 14 (by decide) rfl) (c_turn _ hC hp (hB1.2.2.2.1 _ hp).1 (hB1.2.2.2.1 _ hp).2) rfl (Nat.le_of_ble_eq_true rfl) (by decide) (by decide) ?_
                    have hO2 := hO.free hp hx hcp (by omega) c112 c103
                    have hB2 := hB1.turn hC (fun n hn => (hdg n hn).1) hp
                    rw [hcp] at hB2
                    rw [hcp]
                    refine wp_vret C Z dX1_changeWorth_120 (by decide) (by decide) ⟨rfl, rfl, rfl, fun a n1 n2 n3 n4 n5 => ?_, fun _ _ _ => rfl, fun v hv => ?_, _, _, hB2, hO2⟩
                    · unfold tuI; rw [u2_rown _ _ _ _ n3, u2_rown _ _ _ _ n3, u2_rown _ _ _ _ n1]; exact hA1 a n1 n2 n3 n4 n5
                    · unfold tuI; rw [u2_a _ _ _ _ (hC.ne 22 18 (by decide) (by decide) (by decide)), u2_a _ _ _ _ (hC.ne 22 18 (by decide) (by decide) (by decide)), u2_a _ _ _ _ (hC.ne 22 16 (by decide) (by decide) (by decide))]; exact hz1 v hv
            · exact absurd (by decide) c77
          · exact absurd (by decide) c60
        · exact absurd (by decide) c55
      · have c36 : ¬ ((w p : Nat) : Int) < ((x : Nat) : Int) := by have h := n_lt c36; rw [nI_toInt (show w p < 2 ^ 31 by omega), nI_toInt (show x < 2 ^ 31 by omega)] at h; exact h
        refine wp_iconst C 1 dX1_changeWorth_39 (by decide) ?_
        refine wp_goto C 44 dX1_changeWorth_40 (by decide) ?_
        refine wp_istore C [(4, .int 1), (3, .int 0), (0, .ref (ca 14)), (1, .int (nI p)), (2, .int (nI x))] dX1_changeWorth_44 (by decide) rfl ?_
        refine wp_aload_n C 2 dX1_changeWorth_46 rfl rfl ?_
        refine wp_getR C dX1_changeWorth_47 fX1_changeWorth_19 (hC.ob 14 (by decide) rfl) (hC.rf 14 2 17 (by decide)) ?_
        refine wp_iload_n C 3 dX1_changeWorth_50 rfl rfl ?_
        refine wp_iload_n C 4 dX1_changeWorth_51 rfl rfl ?_
        refine wp_iast C dX1_changeWorth_52 (hC.ar 17 (by decide) rfl) (j := p) rfl (by omega) (by decide) ?_
        obtain ⟨I1, hI1⟩ : ∃ I1 : gI, I1 = u2 I (ca 17) p (nI x) := ⟨_, rfl⟩
        rw [← hI1]
        have hB1 : BS I1 ca h (va_up w p x) c dg := by rw [hI1]; exact hB.setw hC hx
        have hA1 : Ag5 I I1 ca := fun a n1 n2 n3 n4 n5 => by rw [hI1]; exact u2_rown _ _ _ _ n2
        have hz1 : ∀ v, v < 19 → I1 (ca 22) v = 0 := fun v hv => by rw [hI1, u2_a _ _ _ _ (hC.ne 22 17 (by decide) (by decide) (by decide))]; exact hz v hv
        refine wp_iload C 0 dX1_changeWorth_53 rfl ?_
        refine wp_if_eq C 59 dX1_changeWorth_55 (by decide) (fun c55 => ?_) (fun c55 => ?_)
        · exact absurd c55 (by decide)
        · refine wp_vret C Z dX1_changeWorth_58 (by decide) (by decide) ⟨rfl, rfl, rfl, hA1, fun _ _ _ => rfl, hz1, c, dg, hB1, hO.stay hp hx (fun q => by omega) (fun q => by omega)⟩
    · exact absurd (by decide) c8
  · have hcr : I (ca 16) p = 1 := by rw [hcp0, hcp]; rfl
    refine wp_aload_n C 0 dX1_changeWorth_0 rfl rfl ?_
    refine wp_getR C dX1_changeWorth_1 fX1_changeWorth_15 (hC.ob 14 (by decide) rfl) (hC.rf 14 1 16 (by decide)) ?_
    refine wp_iload_n C 1 dX1_changeWorth_4 rfl rfl ?_
    refine wp_zald C dX1_changeWorth_5 (hC.ar 16 (by decide) rfl) (j := p) rfl (by omega) (by decide) ?_
    refine wp_eqi hcr ?_
    refine wp_istore_n C [(3, .int 1), (0, .ref (ca 14)), (1, .int (nI p)), (2, .int (nI x))] dX1_changeWorth_6 rfl (by decide) rfl ?_
    refine wp_iload_n C 0 dX1_changeWorth_7 rfl rfl ?_
    refine wp_if_eq C 29 dX1_changeWorth_8 (by decide) (fun c8 => ?_) (fun c8 => ?_)
    · exact absurd c8 (by decide)
    · refine wp_iload_n C 3 dX1_changeWorth_11 rfl rfl ?_
      refine wp_aload_n C 1 dX1_changeWorth_12 rfl rfl ?_
      refine wp_getR C dX1_changeWorth_13 fX1_changeWorth_19 (hC.ob 14 (by decide) rfl) (hC.rf 14 2 17 (by decide)) ?_
      refine wp_iload_n C 2 dX1_changeWorth_16 rfl rfl ?_
      refine wp_iald C dX1_changeWorth_17 (hC.ar 17 (by decide) rfl) (j := p) rfl (by omega) (by decide) ?_
      refine wp_eqi hwp ?_
      refine wp_icmp_lt C 25 dX1_changeWorth_18 (by decide) (fun c18 => ?_) (fun c18 => ?_)
      · have c18 : ((x : Nat) : Int) < ((w p : Nat) : Int) := by have h := p_lt c18; rw [nI_toInt (show x < 2 ^ 31 by omega), nI_toInt (show w p < 2 ^ 31 by omega)] at h; exact h
        refine wp_iconst C 0 dX1_changeWorth_25 (by decide) ?_
        refine wp_goto C 44 dX1_changeWorth_26 (by decide) ?_
        refine wp_istore C [(4, .int 0), (3, .int 1), (0, .ref (ca 14)), (1, .int (nI p)), (2, .int (nI x))] dX1_changeWorth_44 (by decide) rfl ?_
        refine wp_aload_n C 2 dX1_changeWorth_46 rfl rfl ?_
        refine wp_getR C dX1_changeWorth_47 fX1_changeWorth_19 (hC.ob 14 (by decide) rfl) (hC.rf 14 2 17 (by decide)) ?_
        refine wp_iload_n C 3 dX1_changeWorth_50 rfl rfl ?_
        refine wp_iload_n C 4 dX1_changeWorth_51 rfl rfl ?_
        refine wp_iast C dX1_changeWorth_52 (hC.ar 17 (by decide) rfl) (j := p) rfl (by omega) (by decide) ?_
        obtain ⟨I1, hI1⟩ : ∃ I1 : gI, I1 = u2 I (ca 17) p (nI x) := ⟨_, rfl⟩
        rw [← hI1]
        have hB1 : BS I1 ca h (va_up w p x) c dg := by rw [hI1]; exact hB.setw hC hx
        have hA1 : Ag5 I I1 ca := fun a n1 n2 n3 n4 n5 => by rw [hI1]; exact u2_rown _ _ _ _ n2
        have hz1 : ∀ v, v < 19 → I1 (ca 22) v = 0 := fun v hv => by rw [hI1, u2_a _ _ _ _ (hC.ne 22 17 (by decide) (by decide) (by decide))]; exact hz v hv
        refine wp_iload C 0 dX1_changeWorth_53 rfl ?_
        refine wp_if_eq C 59 dX1_changeWorth_55 (by decide) (fun c55 => ?_) (fun c55 => ?_)
        · refine wp_iload_n C 1 dX1_changeWorth_59 rfl rfl ?_
          refine wp_if_eq C 70 dX1_changeWorth_60 (by decide) (fun c60 => ?_) (fun c60 => ?_)
          · exact absurd c60 (by decide)
          · refine wp_iload_n C 3 dX1_changeWorth_63 rfl rfl ?_
            refine wp_cSi C (As := [.int (nI p)]) (rest := []) dX1_changeWorth_64 kX1_changeWorth_45 (c_agentNode _ hp) rfl (Nat.le_of_ble_eq_true rfl) (by decide) (by decide) ?_
            refine wp_goto C 74 dX1_changeWorth_67 (by decide) ?_
            refine wp_istore C [(5, .int (nI (p / 10))), (4, .int 0), (3, .int 1), (0, .ref (ca 14)), (1, .int (nI p)), (2, .int (nI x))] dX1_changeWorth_74 (by decide) rfl ?_
            refine wp_iload_n C 2 dX1_changeWorth_76 rfl rfl ?_
            refine wp_if_eq C 87 dX1_changeWorth_77 (by decide) (fun c77 => ?_) (fun c77 => ?_)
            · exact absurd c77 (by decide)
            · refine wp_iload_n C 4 dX1_changeWorth_80 rfl rfl ?_
              refine wp_cSi C (As := [.int (nI p)]) (rest := []) dX1_changeWorth_81 kX1_changeWorth_49 (c_editorNode _ hp) rfl (Nat.le_of_ble_eq_true rfl) (by decide) (by decide) ?_
              refine wp_goto C 91 dX1_changeWorth_84 (by decide) ?_
              refine wp_istore C [(6, .int (nI (8 + p % 10))), (5, .int (nI (p / 10))), (4, .int 0), (3, .int 1), (0, .ref (ca 14)), (1, .int (nI p)), (2, .int (nI x))] dX1_changeWorth_91 (by decide) rfl ?_
              refine wp_iload_n C 3 dX1_changeWorth_93 rfl rfl ?_
              refine wp_if_ne C 121 dX1_changeWorth_94 (by decide) (fun c94 => ?_) (fun c94 => ?_)
              · refine wp_aload_n C 4 dX1_changeWorth_121 rfl rfl ?_
                refine wp_iload C 1 dX1_changeWorth_122 rfl ?_
                refine wp_iload_n C 5 dX1_changeWorth_124 rfl rfl ?_
                refine wp_callV C (As := [.int (nI (p / 10)), .int (nI p)]) (rest := []) dX1_changeWorth_125 kX1_changeWorth_60 (hC.ob 14 (by decide) rfl) (c_seekWays _ hC hB1 hp (s := p / 10) (by omega) hπ hz1) rfl (Nat.le_of_ble_eq_true rfl) (by decide) (by decide) ?_
                rintro _ _ _ _ _ ⟨rfl, rfl, rfl, F2, B2, H2, L2, rfl, rfl, z2, hS2, cl2⟩
                have hB2 : BS (rwI I1 ca F2 B2) ca h (va_up w p x) c dg := hB1.rw hC
                have hA2 : Ag5 I (rwI I1 ca F2 B2) ca := fun a n1 n2 n3 n4 n5 => by unfold rwI; rw [vu_n _ _ n5, vu_n _ _ n4]; exact hA1 a n1 n2 n3 n4 n5
                have hJ2 : AgJ J (rwJ J ca H2 L2) ca := fun a n1 n2 => by unfold rwJ; rw [vu_n _ _ n2, vu_n _ _ n1]
                have hz2 : ∀ v, v < 19 → rwI I1 ca F2 B2 (ca 22) v = 0 := fun v hv => by rw [rwI_B]; exact z2 v hv
                obtain ⟨ψ, hψ, eψ⟩ := pot_of (s := 0) hπ ArcB_lt cl2
                have rs : rch F2 (p / 10) := hS2.1.1.1
                have ds : ψ (p / 10) = 0 := by rw [eψ _ rs]; exact hS2.1.1.2
                obtain ⟨rG, gG0⟩ := goal_1 hp hcp (fun n hn => (hdg n hn).1) cl2 rs
                have gG : 0 ≤ ψ (8 + p % 10) := by rw [eψ _ rG]; have := hS2.1.1.2; omega
                have bG := (hS2.2 _ rG).2.2
                have bW := hw_wi (w := x) (p := p) hx hp
                have bN := hw_wN (w := x) (p := p) hx hp
                change WP E 11 0 0 T (rwI I1 ca F2 B2) (rwJ J ca H2 L2) R 128 [(6, .int (nI (8 + p % 10))), (5, .int (nI (p / 10))), (4, .int 0), (3, .int 1), (0, .ref (ca 14)), (1, .int (nI p)), (2, .int (nI x))] []
                refine wp_iload_n C 3 dX1_changeWorth_128 rfl rfl ?_
                refine wp_if_eq C 141 dX1_changeWorth_129 (by decide) (fun c129 => ?_) (fun c129 => ?_)
                · exact absurd c129 (by decide)
                · refine wp_aload_n C 4 dX1_changeWorth_132 rfl rfl ?_
                  refine wp_iload_n C 5 dX1_changeWorth_133 rfl rfl ?_
                  refine wp_cVl C (As := [.int (nI p)]) (rest := []) dX1_changeWorth_134 kX1_changeWorth_64 (hC.ob 14 (by decide) rfl) (c_highWeight _ hC hp (w := x) (by rw [(hB2.2.2.1 p hp).1, ewp]) hx) rfl (Nat.le_of_ble_eq_true rfl) (by decide) (by decide) ?_
                  refine wp_lneg C dX1_changeWorth_137 ?_
                  refine wp_goto C 146 dX1_changeWorth_138 (by decide) ?_
                  refine wp_lstore C [(7, .long (-(hw64 x p))), (6, .int (nI (8 + p % 10))), (5, .int (nI (p / 10))), (4, .int 0), (3, .int 1), (0, .ref (ca 14)), (1, .int (nI p)), (2, .int (nI x))] dX1_changeWorth_146 (by decide) rfl ?_
                  refine wp_iload_n C 4 dX1_changeWorth_148 rfl rfl ?_
                  refine wp_if_eq C 160 dX1_changeWorth_149 (by decide) (fun c149 => ?_) (fun c149 => ?_)
                  · exact absurd c149 (by decide)
                  · refine wp_iload_n C 6 dX1_changeWorth_152 rfl rfl ?_
                    refine wp_cSl C (As := [.int (nI p)]) (rest := []) dX1_changeWorth_153 kX1_changeWorth_68 (c_lowWeight _ hp) rfl (Nat.le_of_ble_eq_true rfl) (by decide) (by decide) ?_
                    refine wp_lneg C dX1_changeWorth_156 ?_
                    refine wp_goto C 164 dX1_changeWorth_157 (by decide) ?_
                    refine wp_lstore C [(9, .long (-(lw64 p))), (7, .long (-(hw64 x p))), (6, .int (nI (8 + p % 10))), (5, .int (nI (p / 10))), (4, .int 0), (3, .int 1), (0, .ref (ca 14)), (1, .int (nI p)), (2, .int (nI x))] dX1_changeWorth_164 (by decide) rfl ?_
                    refine wp_aload_n C 6 dX1_changeWorth_166 rfl rfl ?_
                    refine wp_getR C dX1_changeWorth_167 fX1_changeWorth_26 (hC.ob 14 (by decide) rfl) (hC.rf 14 4 19 (by decide)) ?_
                    refine wp_iload C 2 dX1_changeWorth_170 rfl ?_
                    refine wp_lald C dX1_changeWorth_172 (hC.ar 19 (by decide) rfl) (j := 8 + p % 10) rfl (by omega) (by decide) ?_
                    refine wp_eql (congrFun (rwJ_H hC) _) ?_
                    refine wp_lload C 1 dX1_changeWorth_173 rfl ?_
                    refine wp_ladd C dX1_changeWorth_175 ?_
                    refine wp_aload_n C 6 dX1_changeWorth_176 rfl rfl ?_
                    refine wp_getR C dX1_changeWorth_177 fX1_changeWorth_30 (hC.ob 14 (by decide) rfl) (hC.rf 14 5 20 (by decide)) ?_
                    refine wp_iload C 2 dX1_changeWorth_180 rfl ?_
                    refine wp_lald C dX1_changeWorth_182 (hC.ar 20 (by decide) rfl) (j := 8 + p % 10) rfl (by omega) (by decide) ?_
                    refine wp_eql (congrFun rwJ_L _) ?_
                    refine wp_lload C 0 dX1_changeWorth_183 rfl ?_
                    refine wp_ladd C dX1_changeWorth_185 ?_
                    refine wp_cSi C (As := [.long ((H2 (8 + p % 10)) + (-(hw64 x p))), .long ((L2 (8 + p % 10)) + (-(lw64 p)))]) (rest := []) dX1_changeWorth_186 kX1_changeWorth_71 (c_isGain _ ((H2 (8 + p % 10)) + (-(hw64 x p))) ((L2 (8 + p % 10)) + (-(lw64 p)))) rfl (Nat.le_of_ble_eq_true rfl) (by decide) (by decide) ?_
                    refine wp_if_eq C 205 dX1_changeWorth_189 (by decide) (fun c189 => ?_) (fun c189 => ?_)
                    · have c189 : ¬ (0 < ψ (8 + p % 10) - wt x p) := fun g => (bI_0.mp (p_eq c189)) ((gain_iff bG.1 bG.2 bN.1 bN.2).mpr (by have e := wt_N (w := x) (p := p) hx hp; have e2 := eψ _ rG; simp only [Dv] at e2; omega))
                      have hO2 : OpB h (va_up w p x) c dg := by
                        have hxp : 0 < x := by
                          rcases Nat.eq_zero_or_pos x with q | q
                          · subst q; have := wt_0 hp; omega
                          · exact q
                        refine ⟨hh, fun r hr => ⟨(hw3 r hr).1, (hw3 r hr).2.1, fun q => ?_⟩, hdg, ψ, ArcB_all hψ (fun q _ => by omega) (fun _ => by rw [ds, ewp]; omega)⟩
                        by_cases e : r = p
                        · rw [e, ewp]; exact hxp
                        · exact hw2 r hr q e
                      exact wp_vret C Z dX1_changeWorth_205 (by decide) (by decide) ⟨rfl, rfl, rfl, hA2, hJ2, hz2, c, dg, hB2, hO2⟩
                    · have c189 : 0 < ψ (8 + p % 10) - wt x p := by have q := (gain_iff bG.1 bG.2 bN.1 bN.2).mp (Classical.byContradiction (fun g => n_eq c189 (bI_0.mpr g))); have e := wt_N (w := x) (p := p) hx hp; have e2 := eψ _ rG; simp only [Dv] at e2; omega
                      refine wp_aload_n C 6 dX1_changeWorth_192 rfl rfl ?_
                      refine wp_iload C 3 dX1_changeWorth_193 rfl ?_
                      refine wp_iload C 2 dX1_changeWorth_195 rfl ?_
                      obtain ⟨n, hn, xn, x19, xF, xd, xR⟩ := way_of hw2 hS2 cl2 eψ rG (by omega)
                      refine wp_callV C (As := [.int (nI (p / 10)), .int (nI (8 + p % 10))]) (rest := []) dX1_changeWorth_197 kX1_changeWorth_75 (hC.ob 14 (by decide) rfl) (c_turnWay _ hC hB2 (x := fun j => It (bfn F2) j (8 + p % 10)) hp hn.2 rfl xn (by show 8 + p % 10 < 18; omega) x19 (fun j hj => (congrFun (rwI_F hC) _).trans (xF j hj)) xd hdg xR) rfl (Nat.le_of_ble_eq_true rfl) (by decide) (by decide) ?_
                      rintro _ _ I3 _ _ ⟨rfl, rfl, rfl, rfl, hA3, cn, dn, hB3, hT3⟩
                      change WP E 11 0 0 T I3 (rwJ J ca H2 L2) R 200 [(9, .long (-(lw64 p))), (7, .long (-(hw64 x p))), (6, .int (nI (8 + p % 10))), (5, .int (nI (p / 10))), (4, .int 0), (3, .int 1), (0, .ref (ca 14)), (1, .int (nI p)), (2, .int (nI x))] []
                      refine wp_aload_n C 6 dX1_changeWorth_200 rfl rfl ?_
                      refine wp_iload_n C 7 dX1_changeWorth_201 rfl rfl ?_
                      refine wp_cVv C (As := [.int (nI p)]) (rest := []) dX1_changeWorth_202 kX1_changeWorth_56 (hC.ob 14 (by decide) rfl) (c_turn _ hC hp (hB3.2.2.2.1 _ hp).1 (hB3.2.2.2.1 _ hp).2) rfl (Nat.le_of_ble_eq_true rfl) (by decide) (by decide) ?_
                      have hO2 : OpB h (va_up w p x) (fli cn p) (tdg dn p (cn p)) := ring_done hh hp hw3 hdg hψ hT3 hn.1 xd (Or.inr ⟨hcp, xn, rfl, by show ψ (It (bfn F2) n (8 + p % 10)) + wt ((va_up w p x) p) p < ψ (8 + p % 10); rw [xn, ds, ewp]; omega⟩)
                      have hB4 := hB3.turn hC (fun y hy => hT3.2.1 y hy) hp
                      refine wp_vret C Z dX1_changeWorth_205 (by decide) (by decide) ⟨rfl, rfl, rfl, fun a n1 n2 n3 n4 n5 => ?_, hJ2, fun v hv => ?_, _, _, hB4, hO2⟩
                      · rw [Ag.turn hA3 a n1 n3]; exact hA2 a n1 n2 n3 n4 n5
                      · rw [Ag.turn hA3 (ca 22) (hC.ne 22 16 (by decide) (by decide) (by decide)) (hC.ne 22 18 (by decide) (by decide) (by decide))]; exact hz2 v hv
              · exact absurd c94 (by decide)
        · exact absurd (by decide) c55
      · have c18 : ¬ ((x : Nat) : Int) < ((w p : Nat) : Int) := by have h := n_lt c18; rw [nI_toInt (show x < 2 ^ 31 by omega), nI_toInt (show w p < 2 ^ 31 by omega)] at h; exact h
        refine wp_iconst C 1 dX1_changeWorth_21 (by decide) ?_
        refine wp_goto C 44 dX1_changeWorth_22 (by decide) ?_
        refine wp_istore C [(4, .int 1), (3, .int 1), (0, .ref (ca 14)), (1, .int (nI p)), (2, .int (nI x))] dX1_changeWorth_44 (by decide) rfl ?_
        refine wp_aload_n C 2 dX1_changeWorth_46 rfl rfl ?_
        refine wp_getR C dX1_changeWorth_47 fX1_changeWorth_19 (hC.ob 14 (by decide) rfl) (hC.rf 14 2 17 (by decide)) ?_
        refine wp_iload_n C 3 dX1_changeWorth_50 rfl rfl ?_
        refine wp_iload_n C 4 dX1_changeWorth_51 rfl rfl ?_
        refine wp_iast C dX1_changeWorth_52 (hC.ar 17 (by decide) rfl) (j := p) rfl (by omega) (by decide) ?_
        obtain ⟨I1, hI1⟩ : ∃ I1 : gI, I1 = u2 I (ca 17) p (nI x) := ⟨_, rfl⟩
        rw [← hI1]
        have hB1 : BS I1 ca h (va_up w p x) c dg := by rw [hI1]; exact hB.setw hC hx
        have hA1 : Ag5 I I1 ca := fun a n1 n2 n3 n4 n5 => by rw [hI1]; exact u2_rown _ _ _ _ n2
        have hz1 : ∀ v, v < 19 → I1 (ca 22) v = 0 := fun v hv => by rw [hI1, u2_a _ _ _ _ (hC.ne 22 17 (by decide) (by decide) (by decide))]; exact hz v hv
        refine wp_iload C 0 dX1_changeWorth_53 rfl ?_
        refine wp_if_eq C 59 dX1_changeWorth_55 (by decide) (fun c55 => ?_) (fun c55 => ?_)
        · exact absurd c55 (by decide)
        · refine wp_vret C Z dX1_changeWorth_58 (by decide) (by decide) ⟨rfl, rfl, rfl, hA1, fun _ _ _ => rfl, hz1, c, dg, hB1, hO.stay hp hx (fun q => by omega) (fun q => by omega)⟩
