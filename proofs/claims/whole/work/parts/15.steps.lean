/-! ===== steps from one node ===== -/
theorem bI_c {p q : Prop} [Decidable p] [Decidable q] (h : p ↔ q) : bI p = bI q := by
  by_cases hp : p
  · rw [bI_t hp, bI_t (h.mp hp)]
  · rw [bI_f hp, bI_f (fun hq => hp (h.mpr hq))]
/-- the end of a node's steps -/
def PX (T : gSh) (R : gR) (I : gI) (J : gJ) (ca : Nat → Nat) (Arc : Nat → Nat → Int → Prop) (π : Nat → Int) (s : Nat) (K : Int) (u : Nat) (F B : Nat → Int32) (Hh Ll : Nat → Int64) : gPost := fun r T' I' J' R' => r = none ∧ T = T' ∧ R = R' ∧ ∃ (F' B' : Nat → Int32) (H' L' : Nat → Int64), I' = rwI I ca F' B' ∧ J' = rwJ J ca H' L' ∧ SI Arc π s K F' H' L' ∧ RX Arc u F B Hh Ll F' B' H' L' ∧ ∀ v g, Arc u v g → rch F' v ∧ Dv Hh Ll u + g ≤ Dv H' L' v
section BSs
variable {T : gSh} {R : gR} {ca : Nat → Nat} {I : gI} {J : gJ} {F B : Nat → Int32} {Hh Ll : Nat → Int64} {h : Nat} {w c dg : Nat → Nat}
theorem BS.h0 (hB : BS I ca h w c dg) (hC : CO T R ca) : rwI I ca F B (ca 14) 0 = nI h := (congrFun (rwI_o hC 14 (by decide) (by decide) (by decide)) 0).trans hB.1
theorem BS.wr (hB : BS I ca h w c dg) (hC : CO T R ca) {p : Nat} (hp : p < 80) : rwI I ca F B (ca 17) p = nI (w p) := (congrFun (rwI_o hC 17 (by decide) (by decide) (by decide)) p).trans (hB.2.2.1 p hp).1
theorem BS.cr (hB : BS I ca h w c dg) (hC : CO T R ca) {p : Nat} (hp : p < 80) : rwI I ca F B (ca 16) p = nI (c p) := (congrFun (rwI_o hC 16 (by decide) (by decide) (by decide)) p).trans (hB.2.2.2.1 p hp).1
theorem BS.dr (hB : BS I ca h w c dg) (hC : CO T R ca) {n : Nat} (hn : n < 18) : rwI I ca F B (ca 18) n = nI (dg n) := (congrFun (rwI_o hC 18 (by decide) (by decide) (by decide)) n).trans (hB.2.2.2.2 n hn).1
theorem c_isFreeR (l : Launch) (hC : CO T R ca) (hB : BS I ca h w c dg) {n : Nat} (hn : n < 18) : Con l yX1_isFree wsX1_isFree ({ frames := 0, cells := 0, slots := 0, locals := 0 }) [.ref (ca 14), .int (nI n)] T (rwI I ca F B) J R (gP (some (.int (bI (dg n < h)))) T (rwI I ca F B) J R) := by
  have q := c_isFree l (I := rwI I ca F B) (J := J) hC hn
  have b1 := (hB.2.2.2.2 n hn).2
  have b2 := hB.2.1
  rw [hB.dr hC hn, hB.h0 hC, bI_c (q := dg n < h) (by rw [nI_toInt (by omega), nI_toInt (by omega)]; omega)] at q
  exact q
theorem wt_I {w p : Nat} (hw : w ≤ 100) (hp : p < 80) : wt w p = (hw64 w p).toInt * 2 ^ 100 + (lw64 p).toInt := by
  rw [hw64_I hw hp, lw64_I p hp]; rfl
theorem wi0 : wi (2 ^ 50) 0 := by unfold wi; decide
theorem hw_wi {w p : Nat} (hw : w ≤ 100) (hp : p < 80) : wi (2 ^ 50) (hw64 w p) ∧ wi (2 ^ 50) (lw64 p) := by
  have h1 := hwI_le hw hp
  have h2 := lwI_le p hp
  simp only [wi]
  rw [hw64_I hw hp, lw64_I p hp]
  omega
theorem wt_N {w p : Nat} (hw : w ≤ 100) (hp : p < 80) : -wt w p = (-hw64 w p).toInt * 2 ^ 100 + (-lw64 p).toInt := by
  have h1 := hw_wi hw hp
  simp only [wi] at h1
  rw [wt_I hw hp, neg64 (by omega), neg64 (by omega)]; omega
theorem hw_wN {w p : Nat} (hw : w ≤ 100) (hp : p < 80) : wi (2 ^ 50) (-hw64 w p) ∧ wi (2 ^ 50) (-lw64 p) := by
  have h1 := hw_wi hw hp
  simp only [wi] at h1 ⊢
  rw [neg64 (by omega), neg64 (by omega)]; omega
end BSs
set_option maxRecDepth 100000 in
set_option maxHeartbeats 4000000 in
theorem c_stepFromHub (l : Launch) {T : gSh} {I : gI} {J : gJ} {R : gR} {ca : Nat → Nat} (hC : CO T R ca) {h : Nat} {w c dg : Nat → Nat} (hB : BS I ca h w c dg) {q : Nat} {π : Nat → Int} {s : Nat} {K K2 : Int} {F B : Nat → Int32} {Hh Ll : Nat → Int64} (hπ : ∀ u v g, ArcB h w c dg q u v g → π u + g ≤ π v) (hS : SI (ArcB h w c dg q) π s K2 F Hh Ll) (hK : K + 2 ^ 50 ≤ K2) (hK2 : K2 ≤ 2 ^ 60) (hu : rch F 18) (hub : wi K (Hh 18) ∧ wi K (Ll 18)) : Con l yX1_stepFromHub wsX1_stepFromHub ({ frames := 2, cells := 0, slots := 0, locals := 56 }) [.ref (ca 14)] T (rwI I ca F B) (rwJ J ca Hh Ll) R (PX T R I J ca (ArcB h w c dg q) π s K2 18 F B Hh Ll) := by
  refine Con.mk (cc := cX1_stepFromHub) (maxL := 2) (ret := none) (by decide) rfl (Nat.le_of_ble_eq_true rfl) ?_
  intro E hE C Z hnm
  subst hE
  change WP E 2 0 0 T (rwI I ca F B) (rwJ J ca Hh Ll) R 0 [(0, .ref (ca 14))] []
  have loop : ∀ i, i ≤ 18 → ∀ (F1 B1 : Nat → Int32) (H1 L1 : Nat → Int64), SI (ArcB h w c dg q) π s K2 F1 H1 L1 → RX (ArcB h w c dg q) 18 F B Hh Ll F1 B1 H1 L1 → (∀ v g, v < i → ArcB h w c dg q 18 v g → rch F1 v ∧ Dv Hh Ll 18 + g ≤ Dv H1 L1 v) → WP E 2 0 0 T (rwI I ca F1 B1) (rwJ J ca H1 L1) R 2 [(0, .ref (ca 14)), (1, .int (nI i))] [] := by
    refine loopN 18 (fun i hi ih => ?_)
    intro F1 B1 H1 L1 hS1 hX1 hc1
    have hu1 := (hX1.1 18 hu).1
    have hb1 : wi K (H1 18) ∧ wi K (L1 18) := by rw [hX1.2.1.2.2.1, hX1.2.1.2.2.2]; exact hub
    have eD : Dv H1 L1 18 = Dv Hh Ll 18 := by simp only [Dv]; rw [hX1.2.1.2.2.1, hX1.2.1.2.2.2]
    refine wp_iload_n C 1 dX1_stepFromHub_2 rfl rfl ?_
    refine wp_bipush C 18 dX1_stepFromHub_3 (by decide) ?_
    refine wp_icmp_ge C 49 dX1_stepFromHub_5 (by decide) (fun c5 => ?_) (fun c5 => ?_)
    · have c5 : 18 ≤ ((i : Nat) : Int) := by have h := p_le c5; rw [nI_toInt (show i < 2 ^ 31 by omega)] at h; exact h
      exact wp_vret C Z dX1_stepFromHub_49 (by decide) (by decide) ⟨rfl, rfl, rfl, F1, B1, H1, L1, rfl, rfl, hS1, hX1, fun v g hg => hc1 v g (by rcases hg with ⟨a, e, a1, a2, a3, a4⟩ | ⟨a, e, a1, a2, a3, a4⟩ | hg | hg | hg | hg <;> omega) hg⟩
    · have c5 : ¬ 18 ≤ ((i : Nat) : Int) := by have h := n_le c5; rw [nI_toInt (show i < 2 ^ 31 by omega)] at h; exact h
      refine wp_iload_n C 1 dX1_stepFromHub_8 rfl rfl ?_
      refine wp_bipush C 8 dX1_stepFromHub_9 (by decide) ?_
      refine wp_icmp_ge C 25 dX1_stepFromHub_11 (by decide) (fun c11 => ?_) (fun c11 => ?_)
      · have c11 : 8 ≤ ((i : Nat) : Int) := by have h := p_le c11; rw [nI_toInt (show i < 2 ^ 31 by omega)] at h; exact h
        refine wp_aload_n C 0 dX1_stepFromHub_25 rfl rfl ?_
        refine wp_getR C dX1_stepFromHub_26 fX1_stepFromHub_23 (hC.ob 14 (by decide) rfl) (hC.rf 14 3 18 (by decide)) ?_
        refine wp_iload_n C 1 dX1_stepFromHub_29 rfl rfl ?_
        refine wp_iald C dX1_stepFromHub_30 (hC.ar 18 (by decide) rfl) (j := i) rfl (by omega) (by decide) ?_
        refine wp_eqi (hB.dr hC (by omega)) ?_
        have bd := (hB.2.2.2.2 i (by omega)).2
        refine wp_if_le C 43 dX1_stepFromHub_31 (by decide) (fun c31 => ?_) (fun c31 => ?_)
        · have c31 : ((dg i : Nat) : Int) ≤ 0 := by have h := p_le c31; rw [nI_toInt (show dg i < 2 ^ 31 by omega)] at h; exact h
          refine wp_iinc C 1 (nI (i + 1)) [(1, .int (nI (i + 1))), (0, .ref (ca 14))] dX1_stepFromHub_43 rfl (nI_1 i) (by decide) rfl ?_
          refine wp_goto C 2 dX1_stepFromHub_46 (by decide) ?_
          refine wp_lv [1, 0] rfl ?_
          refine ih (i + 1) (by omega) (by omega) F1 B1 H1 L1 hS1 hX1 (fun v g hv hg => ?_)
          by_cases hvi : v = i
          · subst hvi
            exfalso
            rcases hg with ⟨a, e, a1, a2, a3, a4⟩ | ⟨a, e, a1, a2, a3, a4⟩ | hg | hg | hg | hg <;> omega
          · exact hc1 v g (by omega) hg
        · have c31 : ¬ ((dg i : Nat) : Int) ≤ 0 := by have h := n_le c31; rw [nI_toInt (show dg i < 2 ^ 31 by omega)] at h; exact h
          have ha : ArcB h w c dg q 18 i 0 := by unfold ArcB; omega
          refine wp_aload_n C 0 dX1_stepFromHub_34 rfl rfl ?_
          refine wp_bipush C 18 dX1_stepFromHub_35 (by decide) ?_
          refine wp_iload_n C 1 dX1_stepFromHub_37 rfl rfl ?_
          refine wp_lconst C 0 dX1_stepFromHub_38 (by decide) ?_
          refine wp_lconst C 0 dX1_stepFromHub_39 (by decide) ?_
          refine wp_cVv C (As := [.int 18, .int (nI i), .long 0, .long 0]) (rest := []) dX1_stepFromHub_40 kX1_stepFromHub_93 (hC.ob 14 (by decide) rfl) (c_stepR _ hC (u := 18) (v := i) (by omega) (by omega) 0 0) rfl (Nat.le_of_ble_eq_true rfl) (by decide) (by decide) ?_
          refine wp_iinc C 1 (nI (i + 1)) [(1, .int (nI (i + 1))), (0, .ref (ca 14))] dX1_stepFromHub_43 rfl (nI_1 i) (by decide) rfl ?_
          refine wp_goto C 2 dX1_stepFromHub_46 (by decide) ?_
          refine wp_lv [1, 0] rfl ?_
          obtain ⟨q1, q2, q3, q4⟩ := relax (B := B1) (h := 0) (g := 0) hπ hS1 hu1 hb1 hK hK2 (w := 0) ha (by omega) (by decide) wi0 wi0
          refine ih (i + 1) (by omega) (by omega) _ _ _ _ q1 (hX1.tr q2) (fun v g hv hg => ?_)
          by_cases hvi : v = i
          · subst hvi
            have hg0 : g = 0 := by rcases hg with ⟨a, e, a1, a2, a3, a4⟩ | ⟨a, e, a1, a2, a3, a4⟩ | hg | hg | hg | hg <;> omega
            subst hg0
            exact ⟨q3, by rw [← eD]; exact q4⟩
          · have h1 := hc1 v g (by omega) hg
            have h2 := q2.1 v h1.1
            exact ⟨h2.1, Int.le_trans h1.2 h2.2⟩
      · have c11 : ¬ 8 ≤ ((i : Nat) : Int) := by have h := n_le c11; rw [nI_toInt (show i < 2 ^ 31 by omega)] at h; exact h
        refine wp_aload_n C 0 dX1_stepFromHub_14 rfl rfl ?_
        refine wp_iload_n C 1 dX1_stepFromHub_15 rfl rfl ?_
        refine wp_cVi C (As := [.int (nI i)]) (rest := []) dX1_stepFromHub_16 kX1_stepFromHub_52 (hC.ob 14 (by decide) rfl) (c_isFreeR _ hC hB (by omega)) rfl (Nat.le_of_ble_eq_true rfl) (by decide) (by decide) ?_
        refine wp_if_eq C 43 dX1_stepFromHub_19 (by decide) (fun c19 => ?_) (fun c19 => ?_)
        · have c19 : ¬ dg i < h := bI_0.mp (p_eq c19)
          refine wp_iinc C 1 (nI (i + 1)) [(1, .int (nI (i + 1))), (0, .ref (ca 14))] dX1_stepFromHub_43 rfl (nI_1 i) (by decide) rfl ?_
          refine wp_goto C 2 dX1_stepFromHub_46 (by decide) ?_
          refine wp_lv [1, 0] rfl ?_
          refine ih (i + 1) (by omega) (by omega) F1 B1 H1 L1 hS1 hX1 (fun v g hv hg => ?_)
          by_cases hvi : v = i
          · subst hvi
            exfalso
            rcases hg with ⟨a, e, a1, a2, a3, a4⟩ | ⟨a, e, a1, a2, a3, a4⟩ | hg | hg | hg | hg <;> omega
          · exact hc1 v g (by omega) hg
        · have c19 : dg i < h := Classical.byContradiction (fun g => n_eq c19 (bI_0.mpr g))
          refine wp_goto C 34 dX1_stepFromHub_22 (by decide) ?_
          have ha : ArcB h w c dg q 18 i 0 := by unfold ArcB; omega
          refine wp_aload_n C 0 dX1_stepFromHub_34 rfl rfl ?_
          refine wp_bipush C 18 dX1_stepFromHub_35 (by decide) ?_
          refine wp_iload_n C 1 dX1_stepFromHub_37 rfl rfl ?_
          refine wp_lconst C 0 dX1_stepFromHub_38 (by decide) ?_
          refine wp_lconst C 0 dX1_stepFromHub_39 (by decide) ?_
          refine wp_cVv C (As := [.int 18, .int (nI i), .long 0, .long 0]) (rest := []) dX1_stepFromHub_40 kX1_stepFromHub_93 (hC.ob 14 (by decide) rfl) (c_stepR _ hC (u := 18) (v := i) (by omega) (by omega) 0 0) rfl (Nat.le_of_ble_eq_true rfl) (by decide) (by decide) ?_
          refine wp_iinc C 1 (nI (i + 1)) [(1, .int (nI (i + 1))), (0, .ref (ca 14))] dX1_stepFromHub_43 rfl (nI_1 i) (by decide) rfl ?_
          refine wp_goto C 2 dX1_stepFromHub_46 (by decide) ?_
          refine wp_lv [1, 0] rfl ?_
          obtain ⟨q1, q2, q3, q4⟩ := relax (B := B1) (h := 0) (g := 0) hπ hS1 hu1 hb1 hK hK2 (w := 0) ha (by omega) (by decide) wi0 wi0
          refine ih (i + 1) (by omega) (by omega) _ _ _ _ q1 (hX1.tr q2) (fun v g hv hg => ?_)
          by_cases hvi : v = i
          · subst hvi
            have hg0 : g = 0 := by rcases hg with ⟨a, e, a1, a2, a3, a4⟩ | ⟨a, e, a1, a2, a3, a4⟩ | hg | hg | hg | hg <;> omega
            subst hg0
            exact ⟨q3, by rw [← eD]; exact q4⟩
          · have h1 := hc1 v g (by omega) hg
            have h2 := q2.1 v h1.1
            exact ⟨h2.1, Int.le_trans h1.2 h2.2⟩
  refine wp_iconst C 0 dX1_stepFromHub_0 (by decide) ?_
  refine wp_istore_n C [(1, .int 0), (0, .ref (ca 14))] dX1_stepFromHub_1 rfl (by decide) rfl ?_
  refine wp_lv [1, 0] rfl ?_
  exact loop 0 (by omega) F B Hh Ll hS RX.rf (fun v g hv => by omega)
set_option maxRecDepth 100000 in
set_option maxHeartbeats 4000000 in
theorem c_stepFromAgent (l : Launch) {T : gSh} {I : gI} {J : gJ} {R : gR} {ca : Nat → Nat} (hC : CO T R ca) {h : Nat} {w c dg : Nat → Nat} (hB : BS I ca h w c dg) {q : Nat} {π : Nat → Int} {s : Nat} {K K2 : Int} {F B : Nat → Int32} {Hh Ll : Nat → Int64} (hπ : ∀ u v g, ArcB h w c dg q u v g → π u + g ≤ π v) (hS : SI (ArcB h w c dg q) π s K2 F Hh Ll) (hK : K + 2 ^ 50 ≤ K2) (hK2 : K2 ≤ 2 ^ 60) {a : Nat} (ha8 : a < 8) (hq : q < 80) (hu : rch F a) (hub : wi K (Hh a) ∧ wi K (Ll a)) : Con l yX1_stepFromAgent wsX1_stepFromAgent ({ frames := 2, cells := 0, slots := 0, locals := 56 }) [.ref (ca 14), .int (nI a), .int (nI q)] T (rwI I ca F B) (rwJ J ca Hh Ll) R (PX T R I J ca (ArcB h w c dg q) π s K2 a F B Hh Ll) := by
  refine Con.mk (cc := cX1_stepFromAgent) (maxL := 5) (ret := none) (by decide) rfl (Nat.le_of_ble_eq_true rfl) ?_
  intro E hE C Z hnm
  subst hE
  change WP E 5 0 0 T (rwI I ca F B) (rwJ J ca Hh Ll) R 0 [(0, .ref (ca 14)), (1, .int (nI a)), (2, .int (nI q))] []
  have loop : ∀ i, i ≤ 10 → ∀ (F1 B1 : Nat → Int32) (H1 L1 : Nat → Int64), SI (ArcB h w c dg q) π s K2 F1 H1 L1 → RX (ArcB h w c dg q) a F B Hh Ll F1 B1 H1 L1 → (∀ v g, 8 ≤ v → v < 8 + i → ArcB h w c dg q a v g → rch F1 v ∧ Dv Hh Ll a + g ≤ Dv H1 L1 v) → WP E 5 0 0 T (rwI I ca F1 B1) (rwJ J ca H1 L1) R 2 [(0, .ref (ca 14)), (1, .int (nI a)), (2, .int (nI q)), (3, .int (nI i))] [] := by
    refine loopN 10 (fun i hi ih => ?_)
    intro F1 B1 H1 L1 hS1 hX1 hc1
    have hu1 := (hX1.1 a hu).1
    have hb1 : wi K (H1 a) ∧ wi K (L1 a) := by rw [hX1.2.1.2.2.1, hX1.2.1.2.2.2]; exact hub
    have eD : Dv H1 L1 a = Dv Hh Ll a := by simp only [Dv]; rw [hX1.2.1.2.2.1, hX1.2.1.2.2.2]
    refine wp_iload_n C 3 dX1_stepFromAgent_2 rfl rfl ?_
    refine wp_bipush C 10 dX1_stepFromAgent_3 (by decide) ?_
    refine wp_icmp_ge C 68 dX1_stepFromAgent_5 (by decide) (fun c5 => ?_) (fun c5 => ?_)
    · have c5 : 10 ≤ ((i : Nat) : Int) := by have h := p_le c5; rw [nI_toInt (show i < 2 ^ 31 by omega)] at h; exact h
      refine wp_aload_n C 0 dX1_stepFromAgent_68 rfl rfl ?_
      refine wp_getR C dX1_stepFromAgent_69 fX1_stepFromAgent_23 (hC.ob 14 (by decide) rfl) (hC.rf 14 3 18 (by decide)) ?_
      refine wp_iload_n C 1 dX1_stepFromAgent_72 rfl rfl ?_
      refine wp_iald C dX1_stepFromAgent_73 (hC.ar 18 (by decide) rfl) (j := a) rfl (by omega) (by decide) ?_
      refine wp_eqi (hB.dr hC (by omega)) ?_
      have bd := (hB.2.2.2.2 a (by omega)).2
      refine wp_if_le C 86 dX1_stepFromAgent_74 (by decide) (fun c74 => ?_) (fun c74 => ?_)
      · have c74 : ((dg a : Nat) : Int) ≤ 0 := by have h := p_le c74; rw [nI_toInt (show dg a < 2 ^ 31 by omega)] at h; exact h
        refine wp_vret C Z dX1_stepFromAgent_86 (by decide) (by decide) ⟨rfl, rfl, rfl, F1, B1, H1, L1, rfl, rfl, hS1, hX1, fun v g hg => hc1 v g ?_ ?_ hg⟩
        all_goals rcases hg with ⟨a1, e, b1, b2, b3, b4, b5⟩ | ⟨a1, e, b1, b2, b3, b4, b5⟩ | hg | hg | hg | hg <;> omega
      · have c74 : ¬ ((dg a : Nat) : Int) ≤ 0 := by have h := n_le c74; rw [nI_toInt (show dg a < 2 ^ 31 by omega)] at h; exact h
        refine wp_aload_n C 0 dX1_stepFromAgent_77 rfl rfl ?_
        refine wp_iload_n C 1 dX1_stepFromAgent_78 rfl rfl ?_
        refine wp_bipush C 18 dX1_stepFromAgent_79 (by decide) ?_
        refine wp_lconst C 0 dX1_stepFromAgent_81 (by decide) ?_
        refine wp_lconst C 0 dX1_stepFromAgent_82 (by decide) ?_
        refine wp_cVv C (As := [.int (nI a), .int 18, .long 0, .long 0]) (rest := []) dX1_stepFromAgent_83 kX1_stepFromAgent_93 (hC.ob 14 (by decide) rfl) (c_stepR _ hC (u := a) (v := 18) (by omega) (by omega) 0 0) rfl (Nat.le_of_ble_eq_true rfl) (by decide) (by decide) ?_
        have ha : ArcB h w c dg q a 18 0 := by unfold ArcB; omega
        obtain ⟨q1, q2, q3, q4⟩ := relax (B := B1) (h := 0) (g := 0) hπ hS1 hu1 hb1 hK hK2 (w := 0) ha (by omega) (by decide) wi0 wi0
        refine wp_vret C Z dX1_stepFromAgent_86 (by decide) (by decide) ⟨rfl, rfl, rfl, _, _, _, _, rfl, rfl, q1, hX1.tr q2, fun v g hg => ?_⟩
        by_cases hv : v = 18
        · subst hv
          have hg0 : g = 0 := by rcases hg with ⟨a1, e, b1, b2, b3, b4, b5⟩ | ⟨a1, e, b1, b2, b3, b4, b5⟩ | hg | hg | hg | hg <;> omega
          subst hg0
          exact ⟨q3, by rw [← eD]; exact q4⟩
        · have h1 := hc1 v g (by rcases hg with ⟨a1, e, b1, b2, b3, b4, b5⟩ | ⟨a1, e, b1, b2, b3, b4, b5⟩ | hg | hg | hg | hg <;> omega) (by rcases hg with ⟨a1, e, b1, b2, b3, b4, b5⟩ | ⟨a1, e, b1, b2, b3, b4, b5⟩ | hg | hg | hg | hg <;> omega) hg
          have h2 := q2.1 v h1.1
          exact ⟨h2.1, Int.le_trans h1.2 h2.2⟩
    · have c5 : ¬ 10 ≤ ((i : Nat) : Int) := by have h := n_le c5; rw [nI_toInt (show i < 2 ^ 31 by omega)] at h; exact h
      refine wp_iload_n C 1 dX1_stepFromAgent_8 rfl rfl ?_
      refine wp_bipush C 10 dX1_stepFromAgent_9 (by decide) ?_
      refine wp_imul C dX1_stepFromAgent_11 ?_
      refine wp_eqi (pk_mul a 10) ?_
      refine wp_iload_n C 3 dX1_stepFromAgent_12 rfl rfl ?_
      refine wp_iadd C dX1_stepFromAgent_13 ?_
      refine wp_eqi (nI_add (a * 10) i) ?_
      refine wp_eqi (congrArg nI (show a * 10 + i = 10 * a + i by omega)) ?_
      have bw := (hB.2.2.1 (10 * a + i) (by omega)).2
      have bc := (hB.2.2.2.1 (10 * a + i) (by omega)).2
      refine wp_istore C [(4, .int (nI (10 * a + i))), (0, .ref (ca 14)), (1, .int (nI a)), (2, .int (nI q)), (3, .int (nI i))] dX1_stepFromAgent_14 (by decide) rfl ?_
      refine wp_aload_n C 1 dX1_stepFromAgent_16 rfl rfl ?_
      refine wp_getR C dX1_stepFromAgent_17 fX1_stepFromAgent_19 (hC.ob 14 (by decide) rfl) (hC.rf 14 2 17 (by decide)) ?_
      refine wp_iload C 0 dX1_stepFromAgent_20 rfl ?_
      refine wp_iald C dX1_stepFromAgent_22 (hC.ar 17 (by decide) rfl) (j := 10 * a + i) rfl (by omega) (by decide) ?_
      refine wp_eqi (hB.wr hC (by omega)) ?_
      refine wp_if_le C 62 dX1_stepFromAgent_23 (by decide) (fun c23 => ?_) (fun c23 => ?_)
      · have c23 : ((w (10 * a + i) : Nat) : Int) ≤ 0 := by have h := p_le c23; rw [nI_toInt (show w (10 * a + i) < 2 ^ 31 by omega)] at h; exact h
        refine wp_iinc C 4 (nI (i + 1)) [(3, .int (nI (i + 1))), (4, .int (nI (10 * a + i))), (0, .ref (ca 14)), (1, .int (nI a)), (2, .int (nI q))] dX1_stepFromAgent_62 rfl (nI_1 i) (by decide) rfl ?_
        refine wp_goto C 2 dX1_stepFromAgent_65 (by decide) ?_
        refine wp_lv [2, 3, 4, 0] rfl ?_
        refine ih (i + 1) (by omega) (by omega) F1 B1 H1 L1 hS1 hX1 (fun v g hv1 hv hg => ?_)
        by_cases hvi : v = 8 + i
        · subst hvi
          exfalso
          rcases hg with ⟨a1, e, b1, b2, b3, b4, b5, b6, b7, b8⟩ | ⟨a1, e, b1, b2, b3, b4, b5, b6, b7⟩ | hg | hg | hg | hg
          · have : e = i := by omega
            subst this; subst b3; omega
          all_goals omega
        · exact hc1 v g hv1 (by omega) hg
      · have c23 : ¬ ((w (10 * a + i) : Nat) : Int) ≤ 0 := by have h := n_le c23; rw [nI_toInt (show w (10 * a + i) < 2 ^ 31 by omega)] at h; exact h
        refine wp_aload_n C 1 dX1_stepFromAgent_26 rfl rfl ?_
        refine wp_getR C dX1_stepFromAgent_27 fX1_stepFromAgent_15 (hC.ob 14 (by decide) rfl) (hC.rf 14 1 16 (by decide)) ?_
        refine wp_iload C 0 dX1_stepFromAgent_30 rfl ?_
        refine wp_zald C dX1_stepFromAgent_32 (hC.ar 16 (by decide) rfl) (j := 10 * a + i) rfl (by omega) (by decide) ?_
        refine wp_eqi (hB.cr hC (by omega)) ?_
        refine wp_if_ne C 62 dX1_stepFromAgent_33 (by decide) (fun c33 => ?_) (fun c33 => ?_)
        · have c33 : ¬ ((c (10 * a + i) : Nat) : Int) = 0 := by have h := n_eq c33; rw [nI_toInt (show c (10 * a + i) < 2 ^ 31 by omega)] at h; exact h
          refine wp_iinc C 4 (nI (i + 1)) [(3, .int (nI (i + 1))), (4, .int (nI (10 * a + i))), (0, .ref (ca 14)), (1, .int (nI a)), (2, .int (nI q))] dX1_stepFromAgent_62 rfl (nI_1 i) (by decide) rfl ?_
          refine wp_goto C 2 dX1_stepFromAgent_65 (by decide) ?_
          refine wp_lv [2, 3, 4, 0] rfl ?_
          refine ih (i + 1) (by omega) (by omega) F1 B1 H1 L1 hS1 hX1 (fun v g hv1 hv hg => ?_)
          by_cases hvi : v = 8 + i
          · subst hvi
            exfalso
            rcases hg with ⟨a1, e, b1, b2, b3, b4, b5, b6, b7, b8⟩ | ⟨a1, e, b1, b2, b3, b4, b5, b6, b7⟩ | hg | hg | hg | hg
            · have : e = i := by omega
              subst this; subst b3; omega
            all_goals omega
          · exact hc1 v g hv1 (by omega) hg
        · have c33 : ((c (10 * a + i) : Nat) : Int) = 0 := by have h := p_eq c33; rw [nI_toInt (show c (10 * a + i) < 2 ^ 31 by omega)] at h; exact h
          refine wp_iload C 0 dX1_stepFromAgent_36 rfl ?_
          refine wp_iload_n C 3 dX1_stepFromAgent_38 rfl rfl ?_
          refine wp_icmp_eq C 62 dX1_stepFromAgent_39 (by decide) (fun c39 => ?_) (fun c39 => ?_)
          · have c39 : ((10 * a + i : Nat) : Int) = ((q : Nat) : Int) := by have h := p_eq c39; rw [nI_toInt (show 10 * a + i < 2 ^ 31 by omega), nI_toInt (show q < 2 ^ 31 by omega)] at h; exact h
            refine wp_iinc C 4 (nI (i + 1)) [(3, .int (nI (i + 1))), (4, .int (nI (10 * a + i))), (0, .ref (ca 14)), (1, .int (nI a)), (2, .int (nI q))] dX1_stepFromAgent_62 rfl (nI_1 i) (by decide) rfl ?_
            refine wp_goto C 2 dX1_stepFromAgent_65 (by decide) ?_
            refine wp_lv [2, 3, 4, 0] rfl ?_
            refine ih (i + 1) (by omega) (by omega) F1 B1 H1 L1 hS1 hX1 (fun v g hv1 hv hg => ?_)
            by_cases hvi : v = 8 + i
            · subst hvi
              exfalso
              rcases hg with ⟨a1, e, b1, b2, b3, b4, b5, b6, b7, b8⟩ | ⟨a1, e, b1, b2, b3, b4, b5, b6, b7⟩ | hg | hg | hg | hg
              · have : e = i := by omega
                subst this; subst b3; omega
              all_goals omega
            · exact hc1 v g hv1 (by omega) hg
          · have c39 : ¬ ((10 * a + i : Nat) : Int) = ((q : Nat) : Int) := by have h := n_eq c39; rw [nI_toInt (show 10 * a + i < 2 ^ 31 by omega), nI_toInt (show q < 2 ^ 31 by omega)] at h; exact h
            refine wp_aload_n C 1 dX1_stepFromAgent_42 rfl rfl ?_
            refine wp_iload_n C 2 dX1_stepFromAgent_43 rfl rfl ?_
            refine wp_bipush C 8 dX1_stepFromAgent_44 (by decide) ?_
            refine wp_iload_n C 4 dX1_stepFromAgent_46 rfl rfl ?_
            refine wp_iadd C dX1_stepFromAgent_47 ?_
            refine wp_eqi (nI_add 8 i) ?_
            refine wp_aload_n C 1 dX1_stepFromAgent_48 rfl rfl ?_
            refine wp_iload C 0 dX1_stepFromAgent_49 rfl ?_
            refine wp_cVl C (As := [.int (nI (10 * a + i))]) (rest := [.int (nI (8 + i)), .int (nI a), .ref (ca 14)]) dX1_stepFromAgent_51 kX1_stepFromAgent_64 (hC.ob 14 (by decide) rfl) (c_highWeight _ hC (by omega) (hB.wr hC (by omega)) (hB.2.2.1 _ (by omega)).2) rfl (Nat.le_of_ble_eq_true rfl) (by decide) (by decide) ?_
            refine wp_iload C 0 dX1_stepFromAgent_54 rfl ?_
            refine wp_cSl C (As := [.int (nI (10 * a + i))]) (rest := [.long (hw64 (w (10 * a + i)) (10 * a + i)), .int (nI (8 + i)), .int (nI a), .ref (ca 14)]) dX1_stepFromAgent_56 kX1_stepFromAgent_68 (c_lowWeight _ (by omega)) rfl (Nat.le_of_ble_eq_true rfl) (by decide) (by decide) ?_
            refine wp_cVv C (As := [.int (nI a), .int (nI (8 + i)), .long (hw64 (w (10 * a + i)) (10 * a + i)), .long (lw64 (10 * a + i))]) (rest := []) dX1_stepFromAgent_59 kX1_stepFromAgent_93 (hC.ob 14 (by decide) rfl) (c_stepR _ hC (u := a) (v := 8 + i) (by omega) (by omega) _ _) rfl (Nat.le_of_ble_eq_true rfl) (by decide) (by decide) ?_
            refine wp_iinc C 4 (nI (i + 1)) [(3, .int (nI (i + 1))), (4, .int (nI (10 * a + i))), (0, .ref (ca 14)), (1, .int (nI a)), (2, .int (nI q))] dX1_stepFromAgent_62 rfl (nI_1 i) (by decide) rfl ?_
            refine wp_goto C 2 dX1_stepFromAgent_65 (by decide) ?_
            refine wp_lv [2, 3, 4, 0] rfl ?_
            have ha : ArcB h w c dg q a (8 + i) (wt (w (10 * a + i)) (10 * a + i)) := Or.inl ⟨a, i, by omega, by omega, rfl, rfl, by omega, by omega, by omega, rfl⟩
            obtain ⟨q1, q2, q3, q4⟩ := relax (B := B1) hπ hS1 hu1 hb1 hK hK2 ha (by omega) (wt_I bw (by omega)) (hw_wi bw (by omega)).1 (hw_wi bw (by omega)).2
            refine ih (i + 1) (by omega) (by omega) _ _ _ _ q1 (hX1.tr q2) (fun v g hv1 hv hg => ?_)
            by_cases hvi : v = 8 + i
            · subst hvi
              have hg0 : g = wt (w (10 * a + i)) (10 * a + i) := by
                rcases hg with ⟨a1, e, b1, b2, b3, b4, b5, b6, b7, b8⟩ | ⟨a1, e, b1, b2, b3, b4, b5, b6, b7⟩ | hg | hg | hg | hg
                · have : e = i := by omega
                  subst this; subst b3; exact b8
                all_goals omega
              subst hg0
              exact ⟨q3, by rw [← eD]; exact q4⟩
            · have h1 := hc1 v g hv1 (by omega) hg
              have h2 := q2.1 v h1.1
              exact ⟨h2.1, Int.le_trans h1.2 h2.2⟩
  refine wp_iconst C 0 dX1_stepFromAgent_0 (by decide) ?_
  refine wp_istore_n C [(3, .int 0), (0, .ref (ca 14)), (1, .int (nI a)), (2, .int (nI q))] dX1_stepFromAgent_1 rfl (by decide) rfl ?_
  refine wp_lv [1, 2, 3, 0] rfl ?_
  exact loop 0 (by omega) F B Hh Ll hS RX.rf (fun v g hv1 hv => by omega)
set_option maxRecDepth 100000 in
set_option maxHeartbeats 4000000 in
theorem c_stepFromEditor (l : Launch) {T : gSh} {I : gI} {J : gJ} {R : gR} {ca : Nat → Nat} (hC : CO T R ca) {h : Nat} {w c dg : Nat → Nat} (hB : BS I ca h w c dg) {q : Nat} {π : Nat → Int} {s : Nat} {K K2 : Int} {F B : Nat → Int32} {Hh Ll : Nat → Int64} (hπ : ∀ u v g, ArcB h w c dg q u v g → π u + g ≤ π v) (hS : SI (ArcB h w c dg q) π s K2 F Hh Ll) (hK : K + 2 ^ 50 ≤ K2) (hK2 : K2 ≤ 2 ^ 60) {b : Nat} (hb10 : b < 10) (hq : q < 80) (hu : rch F (8 + b)) (hub : wi K (Hh (8 + b)) ∧ wi K (Ll (8 + b))) : Con l yX1_stepFromEditor wsX1_stepFromEditor ({ frames := 2, cells := 0, slots := 0, locals := 56 }) [.ref (ca 14), .int (nI (8 + b)), .int (nI q)] T (rwI I ca F B) (rwJ J ca Hh Ll) R (PX T R I J ca (ArcB h w c dg q) π s K2 (8 + b) F B Hh Ll) := by
  refine Con.mk (cc := cX1_stepFromEditor) (maxL := 5) (ret := none) (by decide) rfl (Nat.le_of_ble_eq_true rfl) ?_
  intro E hE C Z hnm
  subst hE
  change WP E 5 0 0 T (rwI I ca F B) (rwJ J ca Hh Ll) R 0 [(0, .ref (ca 14)), (1, .int (nI (8 + b))), (2, .int (nI q))] []
  have loop : ∀ i, i ≤ 8 → ∀ (F1 B1 : Nat → Int32) (H1 L1 : Nat → Int64), SI (ArcB h w c dg q) π s K2 F1 H1 L1 → RX (ArcB h w c dg q) (8 + b) F B Hh Ll F1 B1 H1 L1 → (∀ v g, v < i → ArcB h w c dg q (8 + b) v g → rch F1 v ∧ Dv Hh Ll (8 + b) + g ≤ Dv H1 L1 v) → WP E 5 0 0 T (rwI I ca F1 B1) (rwJ J ca H1 L1) R 2 [(0, .ref (ca 14)), (1, .int (nI (8 + b))), (2, .int (nI q)), (3, .int (nI i))] [] := by
    refine loopN 8 (fun i hi ih => ?_)
    intro F1 B1 H1 L1 hS1 hX1 hc1
    have hu1 := (hX1.1 (8 + b) hu).1
    have hb1 : wi K (H1 (8 + b)) ∧ wi K (L1 (8 + b)) := by rw [hX1.2.1.2.2.1, hX1.2.1.2.2.2]; exact hub
    have eD : Dv H1 L1 (8 + b) = Dv Hh Ll (8 + b) := by simp only [Dv]; rw [hX1.2.1.2.2.1, hX1.2.1.2.2.2]
    refine wp_iload_n C 3 dX1_stepFromEditor_2 rfl rfl ?_
    refine wp_bipush C 8 dX1_stepFromEditor_3 (by decide) ?_
    refine wp_icmp_ge C 60 dX1_stepFromEditor_5 (by decide) (fun c5 => ?_) (fun c5 => ?_)
    · have c5 : 8 ≤ ((i : Nat) : Int) := by have h := p_le c5; rw [nI_toInt (show i < 2 ^ 31 by omega)] at h; exact h
      refine wp_aload_n C 0 dX1_stepFromEditor_60 rfl rfl ?_
      refine wp_iload_n C 1 dX1_stepFromEditor_61 rfl rfl ?_
      refine wp_cVi C (As := [.int (nI (8 + b))]) (rest := []) dX1_stepFromEditor_62 kX1_stepFromEditor_52 (hC.ob 14 (by decide) rfl) (c_isFreeR _ hC hB (by omega)) rfl (Nat.le_of_ble_eq_true rfl) (by decide) (by decide) ?_
      refine wp_if_eq C 77 dX1_stepFromEditor_65 (by decide) (fun c65 => ?_) (fun c65 => ?_)
      · have c65 : ¬ dg (8 + b) < h := bI_0.mp (p_eq c65)
        refine wp_vret C Z dX1_stepFromEditor_77 (by decide) (by decide) ⟨rfl, rfl, rfl, F1, B1, H1, L1, rfl, rfl, hS1, hX1, fun v g hg => hc1 v g ?_ hg⟩
        rcases hg with ⟨a1, e, b1, b2, b3, b4, b5⟩ | ⟨a1, e, b1, b2, b3, b4, b5⟩ | hg | hg | hg | hg <;> omega
      · have c65 : dg (8 + b) < h := Classical.byContradiction (fun g => n_eq c65 (bI_0.mpr g))
        refine wp_aload_n C 0 dX1_stepFromEditor_68 rfl rfl ?_
        refine wp_iload_n C 1 dX1_stepFromEditor_69 rfl rfl ?_
        refine wp_bipush C 18 dX1_stepFromEditor_70 (by decide) ?_
        refine wp_lconst C 0 dX1_stepFromEditor_72 (by decide) ?_
        refine wp_lconst C 0 dX1_stepFromEditor_73 (by decide) ?_
        refine wp_cVv C (As := [.int (nI (8 + b)), .int 18, .long 0, .long 0]) (rest := []) dX1_stepFromEditor_74 kX1_stepFromEditor_93 (hC.ob 14 (by decide) rfl) (c_stepR _ hC (u := 8 + b) (v := 18) (by omega) (by omega) 0 0) rfl (Nat.le_of_ble_eq_true rfl) (by decide) (by decide) ?_
        have ha : ArcB h w c dg q (8 + b) 18 0 := by unfold ArcB; omega
        obtain ⟨q1, q2, q3, q4⟩ := relax (B := B1) (h := 0) (g := 0) hπ hS1 hu1 hb1 hK hK2 (w := 0) ha (by omega) (by decide) wi0 wi0
        refine wp_vret C Z dX1_stepFromEditor_77 (by decide) (by decide) ⟨rfl, rfl, rfl, _, _, _, _, rfl, rfl, q1, hX1.tr q2, fun v g hg => ?_⟩
        by_cases hv : v = 18
        · subst hv
          have hg0 : g = 0 := by rcases hg with ⟨a1, e, b1, b2, b3, b4, b5⟩ | ⟨a1, e, b1, b2, b3, b4, b5⟩ | hg | hg | hg | hg <;> omega
          subst hg0
          exact ⟨q3, by rw [← eD]; exact q4⟩
        · have h1 := hc1 v g (by rcases hg with ⟨a1, e, b1, b2, b3, b4, b5⟩ | ⟨a1, e, b1, b2, b3, b4, b5⟩ | hg | hg | hg | hg <;> omega) hg
          have h2 := q2.1 v h1.1
          exact ⟨h2.1, Int.le_trans h1.2 h2.2⟩
    · have c5 : ¬ 8 ≤ ((i : Nat) : Int) := by have h := n_le c5; rw [nI_toInt (show i < 2 ^ 31 by omega)] at h; exact h
      refine wp_iload_n C 3 dX1_stepFromEditor_8 rfl rfl ?_
      refine wp_bipush C 10 dX1_stepFromEditor_9 (by decide) ?_
      refine wp_imul C dX1_stepFromEditor_11 ?_
      refine wp_eqi (pk_mul i 10) ?_
      refine wp_iload_n C 1 dX1_stepFromEditor_12 rfl rfl ?_
      refine wp_iadd C dX1_stepFromEditor_13 ?_
      refine wp_eqi (nI_add (i * 10) (8 + b)) ?_
      refine wp_bipush C 8 dX1_stepFromEditor_14 (by decide) ?_
      refine wp_isub C dX1_stepFromEditor_16 ?_
      refine wp_eqi ((pk_sub (show 8 ≤ i * 10 + (8 + b) by omega)).trans (congrArg nI (show i * 10 + (8 + b) - 8 = 10 * i + b by omega))) ?_
      have bw := (hB.2.2.1 (10 * i + b) (by omega)).2
      have bc := (hB.2.2.2.1 (10 * i + b) (by omega)).2
      refine wp_istore C [(4, .int (nI (10 * i + b))), (0, .ref (ca 14)), (1, .int (nI (8 + b))), (2, .int (nI q)), (3, .int (nI i))] dX1_stepFromEditor_17 (by decide) rfl ?_
      refine wp_aload_n C 1 dX1_stepFromEditor_19 rfl rfl ?_
      refine wp_getR C dX1_stepFromEditor_20 fX1_stepFromEditor_15 (hC.ob 14 (by decide) rfl) (hC.rf 14 1 16 (by decide)) ?_
      refine wp_iload C 0 dX1_stepFromEditor_23 rfl ?_
      refine wp_zald C dX1_stepFromEditor_25 (hC.ar 16 (by decide) rfl) (j := 10 * i + b) rfl (by omega) (by decide) ?_
      refine wp_eqi (hB.cr hC (by omega)) ?_
      refine wp_if_eq C 54 dX1_stepFromEditor_26 (by decide) (fun c26 => ?_) (fun c26 => ?_)
      · have c26 : ((c (10 * i + b) : Nat) : Int) = 0 := by have h := p_eq c26; rw [nI_toInt (show c (10 * i + b) < 2 ^ 31 by omega)] at h; exact h
        refine wp_iinc C 4 (nI (i + 1)) [(3, .int (nI (i + 1))), (4, .int (nI (10 * i + b))), (0, .ref (ca 14)), (1, .int (nI (8 + b))), (2, .int (nI q))] dX1_stepFromEditor_54 rfl (nI_1 i) (by decide) rfl ?_
        refine wp_goto C 2 dX1_stepFromEditor_57 (by decide) ?_
        refine wp_lv [2, 3, 4, 0] rfl ?_
        refine ih (i + 1) (by omega) (by omega) F1 B1 H1 L1 hS1 hX1 (fun v g hv hg => ?_)
        by_cases hvi : v = i
        · subst hvi
          exfalso
          rcases hg with ⟨a1, e, b1, b2, b3, b4, b5⟩ | ⟨a1, e, b1, b2, b3, b4, b5, b6, b7⟩ | hg | hg | hg | hg
          · omega
          · have : e = b := by omega
            subst this; subst b4; omega
          all_goals omega
        · exact hc1 v g (by omega) hg
      · have c26 : ¬ ((c (10 * i + b) : Nat) : Int) = 0 := by have h := n_eq c26; rw [nI_toInt (show c (10 * i + b) < 2 ^ 31 by omega)] at h; exact h
        refine wp_iload C 0 dX1_stepFromEditor_29 rfl ?_
        refine wp_iload_n C 3 dX1_stepFromEditor_31 rfl rfl ?_
        refine wp_icmp_eq C 54 dX1_stepFromEditor_32 (by decide) (fun c32 => ?_) (fun c32 => ?_)
        · have c32 : ((10 * i + b : Nat) : Int) = ((q : Nat) : Int) := by have h := p_eq c32; rw [nI_toInt (show 10 * i + b < 2 ^ 31 by omega), nI_toInt (show q < 2 ^ 31 by omega)] at h; exact h
          refine wp_iinc C 4 (nI (i + 1)) [(3, .int (nI (i + 1))), (4, .int (nI (10 * i + b))), (0, .ref (ca 14)), (1, .int (nI (8 + b))), (2, .int (nI q))] dX1_stepFromEditor_54 rfl (nI_1 i) (by decide) rfl ?_
          refine wp_goto C 2 dX1_stepFromEditor_57 (by decide) ?_
          refine wp_lv [2, 3, 4, 0] rfl ?_
          refine ih (i + 1) (by omega) (by omega) F1 B1 H1 L1 hS1 hX1 (fun v g hv hg => ?_)
          by_cases hvi : v = i
          · subst hvi
            exfalso
            rcases hg with ⟨a1, e, b1, b2, b3, b4, b5⟩ | ⟨a1, e, b1, b2, b3, b4, b5, b6, b7⟩ | hg | hg | hg | hg
            · omega
            · have : e = b := by omega
              subst this; subst b4; omega
            all_goals omega
          · exact hc1 v g (by omega) hg
        · have c32 : ¬ ((10 * i + b : Nat) : Int) = ((q : Nat) : Int) := by have h := n_eq c32; rw [nI_toInt (show 10 * i + b < 2 ^ 31 by omega), nI_toInt (show q < 2 ^ 31 by omega)] at h; exact h
          refine wp_aload_n C 1 dX1_stepFromEditor_35 rfl rfl ?_
          refine wp_iload_n C 2 dX1_stepFromEditor_36 rfl rfl ?_
          refine wp_iload_n C 4 dX1_stepFromEditor_37 rfl rfl ?_
          refine wp_aload_n C 1 dX1_stepFromEditor_38 rfl rfl ?_
          refine wp_iload C 0 dX1_stepFromEditor_39 rfl ?_
          refine wp_cVl C (As := [.int (nI (10 * i + b))]) (rest := [.int (nI i), .int (nI (8 + b)), .ref (ca 14)]) dX1_stepFromEditor_41 kX1_stepFromEditor_64 (hC.ob 14 (by decide) rfl) (c_highWeight _ hC (by omega) (hB.wr hC (by omega)) (hB.2.2.1 _ (by omega)).2) rfl (Nat.le_of_ble_eq_true rfl) (by decide) (by decide) ?_
          refine wp_lneg C dX1_stepFromEditor_44 ?_
          refine wp_iload C 0 dX1_stepFromEditor_45 rfl ?_
          refine wp_cSl C (As := [.int (nI (10 * i + b))]) (rest := [.long (-(hw64 (w (10 * i + b)) (10 * i + b))), .int (nI i), .int (nI (8 + b)), .ref (ca 14)]) dX1_stepFromEditor_47 kX1_stepFromEditor_68 (c_lowWeight _ (by omega)) rfl (Nat.le_of_ble_eq_true rfl) (by decide) (by decide) ?_
          refine wp_lneg C dX1_stepFromEditor_50 ?_
          refine wp_cVv C (As := [.int (nI (8 + b)), .int (nI i), .long (-(hw64 (w (10 * i + b)) (10 * i + b))), .long (-(lw64 (10 * i + b)))]) (rest := []) dX1_stepFromEditor_51 kX1_stepFromEditor_93 (hC.ob 14 (by decide) rfl) (c_stepR _ hC (u := 8 + b) (v := i) (by omega) (by omega) _ _) rfl (Nat.le_of_ble_eq_true rfl) (by decide) (by decide) ?_
          refine wp_iinc C 4 (nI (i + 1)) [(3, .int (nI (i + 1))), (4, .int (nI (10 * i + b))), (0, .ref (ca 14)), (1, .int (nI (8 + b))), (2, .int (nI q))] dX1_stepFromEditor_54 rfl (nI_1 i) (by decide) rfl ?_
          refine wp_goto C 2 dX1_stepFromEditor_57 (by decide) ?_
          refine wp_lv [2, 3, 4, 0] rfl ?_
          have ha : ArcB h w c dg q (8 + b) i (-wt (w (10 * i + b)) (10 * i + b)) := Or.inr (Or.inl ⟨i, b, by omega, by omega, rfl, rfl, by omega, by omega, rfl⟩)
          obtain ⟨q1, q2, q3, q4⟩ := relax (B := B1) hπ hS1 hu1 hb1 hK hK2 ha (by omega) (wt_N bw (by omega)) (hw_wN bw (by omega)).1 (hw_wN bw (by omega)).2
          refine ih (i + 1) (by omega) (by omega) _ _ _ _ q1 (hX1.tr q2) (fun v g hv hg => ?_)
          by_cases hvi : v = i
          · subst hvi
            have hg0 : g = -wt (w (10 * v + b)) (10 * v + b) := by
              rcases hg with ⟨a1, e, b1, b2, b3, b4, b5⟩ | ⟨a1, e, b1, b2, b3, b4, b5, b6, b7⟩ | hg | hg | hg | hg
              · omega
              · have : e = b := by omega
                subst this; subst b4; exact b7
              all_goals omega
            subst hg0
            exact ⟨q3, by rw [← eD]; exact q4⟩
          · have h1 := hc1 v g (by omega) hg
            have h2 := q2.1 v h1.1
            exact ⟨h2.1, Int.le_trans h1.2 h2.2⟩
  refine wp_iconst C 0 dX1_stepFromEditor_0 (by decide) ?_
  refine wp_istore_n C [(3, .int 0), (0, .ref (ca 14)), (1, .int (nI (8 + b))), (2, .int (nI q))] dX1_stepFromEditor_1 rfl (by decide) rfl ?_
  refine wp_lv [1, 2, 3, 0] rfl ?_
  exact loop 0 (by omega) F B Hh Ll hS RX.rf (fun v g hv => by omega)
