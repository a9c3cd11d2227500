/-! ===== the search ===== -/
theorem ArcB_lt {h : Nat} {w c dg : Nat → Nat} {q : Nat} : ∀ u v g, ArcB h w c dg q u v g → v < 19 := by
  intro u v g hg
  rcases hg with ⟨a, e, b1, b2, b3, b4, b5⟩ | ⟨a, e, b1, b2, b3, b4, b5⟩ | hg | hg | hg | hg <;> omega
/-- the end of a search -/
def PS (T : gSh) (R : gR) (I : gI) (J : gJ) (ca : Nat → Nat) (Arc : Nat → Nat → Int → Prop) (π : Nat → Int) (s : Nat) : gPost := fun r T' I' J' R' => r = none ∧ T = T' ∧ R = R' ∧ ∃ (F' B' : Nat → Int32) (H' L' : Nat → Int64), I' = rwI I ca F' B' ∧ J' = rwJ J ca H' L' ∧ (∀ v, v < 19 → B' v = 0) ∧ SI Arc π s (2 ^ 60) F' H' L' ∧ ∀ u v g, rch F' u → Arc u v g → rch F' v ∧ Dv H' L' u + g ≤ Dv H' L' v
set_option maxRecDepth 100000 in
set_option maxHeartbeats 4000000 in
theorem c_seekWays (l : Launch) {T : gSh} {I : gI} {J : gJ} {R : gR} {ca : Nat → Nat} (hC : CO T R ca) {h : Nat} {w c dg : Nat → Nat} (hB : BS I ca h w c dg) {q s : Nat} (hq : q < 80) (hs : s < 19) {π : Nat → Int} (hπ : ∀ u v g, ArcB h w c dg q u v g → π u + g ≤ π v) (hz0 : ∀ v, v < 19 → I (ca 22) v = 0) : Con l yX1_seekWays wsX1_seekWays ({ frames := 3, cells := 0, slots := 0, locals := 80 }) [.ref (ca 14), .int (nI s), .int (nI q)] T I J R (PS T R I J ca (ArcB h w c dg q) π s) := by
  refine Con.mk (cc := cX1_seekWays) (maxL := 6) (ret := none) (by decide) rfl (Nat.le_of_ble_eq_true rfl) ?_
  intro E hE C Z hnm
  subst hE
  change WP E 6 0 0 T I J R 0 [(0, .ref (ca 14)), (1, .int (nI s)), (2, .int (nI q))] []
  have outer : ∀ i, i ≤ 19 → ∀ (gv : Nat) (F1 B1 : Nat → Int32) (H1 L1 : Nat → Int64), gv ≤ 1 → SV (ArcB h w c dg q) π s i 0 1 F1 B1 H1 L1 → ((gv = 0 ∨ 19 ≤ i) → ∀ x, x < 19 → B1 x = 0) → ∀ lv, lv_pick lv [0, 1, 2, 3, 4] = [(0, .ref (ca 14)), (1, .int (nI s)), (2, .int (nI q)), (3, .int (nI gv)), (4, .int (nI i))] → WP E 6 0 0 T (rwI I ca F1 B1) (rwJ J ca H1 L1) R 21 lv [] := by
    refine loopN 19 (fun i hi ih => ?_)
    intro gv F1 B1 H1 L1 hgv hV hz lv hlv
    refine wp_lv [0, 1, 2, 3, 4] hlv ?_
    have inner : 32 ≤ 32 → i < 19 → ∀ j, j ≤ 19 → ∀ (gv : Nat) (F1 B1 : Nat → Int32) (H1 L1 : Nat → Int64), gv ≤ 1 → SV (ArcB h w c dg q) π s i j gv F1 B1 H1 L1 → WP E 6 0 0 T (rwI I ca F1 B1) (rwJ J ca H1 L1) R 37 [(0, .ref (ca 14)), (1, .int (nI s)), (2, .int (nI q)), (3, .int (nI gv)), (4, .int (nI i)), (5, .int (nI j))] [] := by
      intro _ hi19
      refine loopN 19 (fun j hj ih2 => ?_)
      intro gv F1 B1 H1 L1 hgv hV
      refine wp_iload C 5 dX1_seekWays_37 rfl ?_
      refine wp_bipush C 19 dX1_seekWays_39 (by decide) ?_
      refine wp_icmp_ge C 111 dX1_seekWays_41 (by decide) (fun c41 => ?_) (fun c41 => ?_)
      · have c41 : 19 ≤ ((j : Nat) : Int) := by have h := p_le c41; rw [nI_toInt (show j < 2 ^ 31 by omega)] at h; exact h
        refine wp_iinc C 4 (nI (i + 1)) [(4, .int (nI (i + 1))), (0, .ref (ca 14)), (1, .int (nI s)), (2, .int (nI q)), (3, .int (nI gv)), (5, .int (nI j))] dX1_seekWays_111 rfl (nI_1 i) (by decide) rfl ?_
        refine wp_goto C 21 dX1_seekWays_114 (by decide) ?_
        have hj19 : j = 19 := by omega
        subst hj19
        obtain ⟨n1, n2⟩ := hV.next
        refine wp_lv [1, 2, 3, 4, 0] rfl (ih (i + 1) (by omega) (by omega) gv F1 B1 H1 L1 hgv n1 (fun hg => n2 (by omega)) _ rfl)
      · have c41 : ¬ 19 ≤ ((j : Nat) : Int) := by have h := n_le c41; rw [nI_toInt (show j < 2 ^ 31 by omega)] at h; exact h
        refine wp_aload_n C 0 dX1_seekWays_44 rfl rfl ?_
        refine wp_getR C dX1_seekWays_45 fX1_seekWays_36 (hC.ob 14 (by decide) rfl) (hC.rf 14 7 22 (by decide)) ?_
        refine wp_iload C 5 dX1_seekWays_48 rfl ?_
        refine wp_zald C dX1_seekWays_50 (hC.ar 22 (by decide) rfl) (j := j) rfl (by omega) (by decide) ?_
        refine wp_eqi (congrFun rwI_B j) ?_
        refine wp_if_ne C 57 dX1_seekWays_51 (by decide) (fun c51 => ?_) (fun c51 => ?_)
        · have hr : rch F1 j := hV.2.2.2.1 j (by omega) c51
          obtain ⟨K1, hK1⟩ : ∃ K1 : Int, K1 = ((19 * i + j : Nat) : Int) * 2 ^ 50 := ⟨_, rfl⟩
          have hsb : wi K1 (H1 j) ∧ wi K1 (L1 j) := by rw [hK1]; exact (hV.1.2 j hr).2.2
          have hKm : ((19 * i + j : Nat) : Int) * 2 ^ 50 ≤ ((19 * i + (j + 1) : Nat) : Int) * 2 ^ 50 := by omega
          refine wp_aload_n C 0 dX1_seekWays_57 rfl rfl ?_
          refine wp_getR C dX1_seekWays_58 fX1_seekWays_36 (hC.ob 14 (by decide) rfl) (hC.rf 14 7 22 (by decide)) ?_
          refine wp_iload C 5 dX1_seekWays_61 rfl ?_
          refine wp_iconst C 0 dX1_seekWays_63 (by decide) ?_
          refine wp_zast C dX1_seekWays_64 (hC.ar 22 (by decide) rfl) (j := j) rfl (by omega) (by decide) (by decide) ?_
          refine wp_eI (u2_in _ _ _ _ _) ?_
          change WP E 6 0 0 T (rwI I ca F1 (fun x => if x = j then 0 else B1 x)) (rwJ J ca H1 L1) R 65 [(0, .ref (ca 14)), (1, .int (nI s)), (2, .int (nI q)), (3, .int (nI gv)), (4, .int (nI i)), (5, .int (nI j))] []
          refine wp_iconst C 1 dX1_seekWays_65 (by decide) ?_
          refine wp_istore_n C [(3, .int 1), (0, .ref (ca 14)), (1, .int (nI s)), (2, .int (nI q)), (4, .int (nI i)), (5, .int (nI j))] dX1_seekWays_66 rfl (by decide) rfl ?_
          refine wp_iload C 5 dX1_seekWays_67 rfl ?_
          refine wp_bipush C 8 dX1_seekWays_69 (by decide) ?_
          refine wp_icmp_ge C 84 dX1_seekWays_71 (by decide) (fun c71 => ?_) (fun c71 => ?_)
          · have c71 : 8 ≤ ((j : Nat) : Int) := by have h := p_le c71; rw [nI_toInt (show j < 2 ^ 31 by omega)] at h; exact h
            refine wp_iload C 5 dX1_seekWays_84 rfl ?_
            refine wp_bipush C 18 dX1_seekWays_86 (by decide) ?_
            refine wp_icmp_ge C 101 dX1_seekWays_88 (by decide) (fun c88 => ?_) (fun c88 => ?_)
            · have c88 : 18 ≤ ((j : Nat) : Int) := by have h := p_le c88; rw [nI_toInt (show j < 2 ^ 31 by omega)] at h; exact h
              refine wp_aload_n C 1 dX1_seekWays_101 rfl rfl ?_
              have ej : 18 = j := (show 18 = j by omega)
              rw [← ej] at hr hsb
              refine wp_callV C (As := []) (rest := []) dX1_seekWays_102 kX1_seekWays_90 (hC.ob 14 (by decide) rfl) (c_stepFromHub _ hC hB (K := K1) hπ (hV.1.mono hKm) (by omega) (by omega) hr hsb) rfl (Nat.le_of_ble_eq_true rfl) (by decide) (by decide) ?_
              rintro _ _ _ _ _ ⟨rfl, rfl, rfl, F2, B2, H2, L2, rfl, rfl, q1, q2, q3⟩
              rw [ej] at hr q2 q3
              have hV2 := SV.proc hπ ArcB_lt hV (by omega) hr q1 q2 q3
              change WP E 6 0 0 T (rwI I ca F2 B2) (rwJ J ca H2 L2) R 105 [(3, .int 1), (0, .ref (ca 14)), (1, .int (nI s)), (2, .int (nI q)), (4, .int (nI i)), (5, .int (nI j))] []
              refine wp_iinc C 5 (nI (j + 1)) [(5, .int (nI (j + 1))), (3, .int 1), (0, .ref (ca 14)), (1, .int (nI s)), (2, .int (nI q)), (4, .int (nI i))] dX1_seekWays_105 rfl (nI_1 j) (by decide) rfl ?_
              refine wp_goto C 37 dX1_seekWays_108 (by decide) ?_
              refine wp_lv [2, 3, 4, 1, 5, 0] rfl ?_
              exact ih2 (j + 1) (by omega) (by omega) 1 _ _ _ _ (by omega) hV2
            · have c88 : ¬ 18 ≤ ((j : Nat) : Int) := by have h := n_le c88; rw [nI_toInt (show j < 2 ^ 31 by omega)] at h; exact h
              refine wp_aload_n C 1 dX1_seekWays_91 rfl rfl ?_
              refine wp_iload C 5 dX1_seekWays_92 rfl ?_
              refine wp_iload_n C 3 dX1_seekWays_94 rfl rfl ?_
              have ej : 8 + (j - 8) = j := (show 8 + (j - 8) = j by omega)
              rw [← ej] at hr hsb
              refine wp_callV C (As := [.int (nI (8 + (j - 8))), .int (nI q)]) (rest := []) dX1_seekWays_95 kX1_seekWays_87 (hC.ob 14 (by decide) rfl) (c_stepFromEditor _ hC hB (K := K1) hπ (hV.1.mono hKm) (by omega) (by omega) (b := j - 8) (by omega) hq hr hsb) (by rw [ej]; rfl) (Nat.le_of_ble_eq_true rfl) (by decide) (by decide) ?_
              rintro _ _ _ _ _ ⟨rfl, rfl, rfl, F2, B2, H2, L2, rfl, rfl, q1, q2, q3⟩
              rw [ej] at hr q2 q3
              have hV2 := SV.proc hπ ArcB_lt hV (by omega) hr q1 q2 q3
              change WP E 6 0 0 T (rwI I ca F2 B2) (rwJ J ca H2 L2) R 98 [(3, .int 1), (0, .ref (ca 14)), (1, .int (nI s)), (2, .int (nI q)), (4, .int (nI i)), (5, .int (nI j))] []
              refine wp_goto C 105 dX1_seekWays_98 (by decide) ?_
              refine wp_iinc C 5 (nI (j + 1)) [(5, .int (nI (j + 1))), (3, .int 1), (0, .ref (ca 14)), (1, .int (nI s)), (2, .int (nI q)), (4, .int (nI i))] dX1_seekWays_105 rfl (nI_1 j) (by decide) rfl ?_
              refine wp_goto C 37 dX1_seekWays_108 (by decide) ?_
              refine wp_lv [2, 3, 4, 1, 5, 0] rfl ?_
              exact ih2 (j + 1) (by omega) (by omega) 1 _ _ _ _ (by omega) hV2
          · have c71 : ¬ 8 ≤ ((j : Nat) : Int) := by have h := n_le c71; rw [nI_toInt (show j < 2 ^ 31 by omega)] at h; exact h
            refine wp_aload_n C 1 dX1_seekWays_74 rfl rfl ?_
            refine wp_iload C 5 dX1_seekWays_75 rfl ?_
            refine wp_iload_n C 3 dX1_seekWays_77 rfl rfl ?_
            have ej : j = j := rfl
            refine wp_callV C (As := [.int (nI j), .int (nI q)]) (rest := []) dX1_seekWays_78 kX1_seekWays_84 (hC.ob 14 (by decide) rfl) (c_stepFromAgent _ hC hB (K := K1) hπ (hV.1.mono hKm) (by omega) (by omega) (show j < 8 by omega) hq hr hsb) rfl (Nat.le_of_ble_eq_true rfl) (by decide) (by decide) ?_
            rintro _ _ _ _ _ ⟨rfl, rfl, rfl, F2, B2, H2, L2, rfl, rfl, q1, q2, q3⟩
            have hV2 := SV.proc hπ ArcB_lt hV (by omega) hr q1 q2 q3
            change WP E 6 0 0 T (rwI I ca F2 B2) (rwJ J ca H2 L2) R 81 [(3, .int 1), (0, .ref (ca 14)), (1, .int (nI s)), (2, .int (nI q)), (4, .int (nI i)), (5, .int (nI j))] []
            refine wp_goto C 105 dX1_seekWays_81 (by decide) ?_
            refine wp_iinc C 5 (nI (j + 1)) [(5, .int (nI (j + 1))), (3, .int 1), (0, .ref (ca 14)), (1, .int (nI s)), (2, .int (nI q)), (4, .int (nI i))] dX1_seekWays_105 rfl (nI_1 j) (by decide) rfl ?_
            refine wp_goto C 37 dX1_seekWays_108 (by decide) ?_
            refine wp_lv [2, 3, 4, 1, 5, 0] rfl ?_
            exact ih2 (j + 1) (by omega) (by omega) 1 _ _ _ _ (by omega) hV2
        · refine wp_goto C 105 dX1_seekWays_54 (by decide) ?_
          refine wp_iinc C 5 (nI (j + 1)) [(5, .int (nI (j + 1))), (0, .ref (ca 14)), (1, .int (nI s)), (2, .int (nI q)), (3, .int (nI gv)), (4, .int (nI i))] dX1_seekWays_105 rfl (nI_1 j) (by decide) rfl ?_
          refine wp_goto C 37 dX1_seekWays_108 (by decide) ?_
          refine wp_lv [1, 2, 3, 4, 5, 0] rfl ?_
          exact ih2 (j + 1) (by omega) (by omega) gv F1 B1 H1 L1 hgv (hV.skip (by omega) c51)
    refine wp_iload_n C 3 dX1_seekWays_21 rfl rfl ?_
    refine wp_if_eq C 117 dX1_seekWays_22 (by decide) (fun c22 => ?_) (fun c22 => ?_)
    · have c22 : ((gv : Nat) : Int) = 0 := by have h := p_eq c22; rw [nI_toInt (show gv < 2 ^ 31 by omega)] at h; exact h
      have hz2 := hz (by omega)
      refine wp_vret C Z dX1_seekWays_117 (by decide) (by decide) ⟨rfl, rfl, rfl, F1, B1, H1, L1, rfl, rfl, hz2, hV.1.mono (by omega), fun u v g hu ha => hV.2.1 u hu (hz2 u hu.1) v g ha⟩
    · have c22 : ¬ ((gv : Nat) : Int) = 0 := by have h := n_eq c22; rw [nI_toInt (show gv < 2 ^ 31 by omega)] at h; exact h
      refine wp_iload C 4 dX1_seekWays_25 rfl ?_
      refine wp_bipush C 19 dX1_seekWays_27 (by decide) ?_
      refine wp_icmp_ge C 117 dX1_seekWays_29 (by decide) (fun c29 => ?_) (fun c29 => ?_)
      · have c29 : 19 ≤ ((i : Nat) : Int) := by have h := p_le c29; rw [nI_toInt (show i < 2 ^ 31 by omega)] at h; exact h
        have hz2 := hz (by omega)
        refine wp_vret C Z dX1_seekWays_117 (by decide) (by decide) ⟨rfl, rfl, rfl, F1, B1, H1, L1, rfl, rfl, hz2, hV.1.mono (by omega), fun u v g hu ha => hV.2.1 u hu (hz2 u hu.1) v g ha⟩
      · have c29 : ¬ 19 ≤ ((i : Nat) : Int) := by have h := n_le c29; rw [nI_toInt (show i < 2 ^ 31 by omega)] at h; exact h
        refine wp_iconst C 0 dX1_seekWays_32 (by decide) ?_
        refine wp_istore_n C [(3, .int 0), (0, .ref (ca 14)), (1, .int (nI s)), (2, .int (nI q)), (4, .int (nI i))] dX1_seekWays_33 rfl (by decide) rfl ?_
        refine wp_iconst C 0 dX1_seekWays_34 (by decide) ?_
        refine wp_istore C [(5, .int 0), (3, .int 0), (0, .ref (ca 14)), (1, .int (nI s)), (2, .int (nI q)), (4, .int (nI i))] dX1_seekWays_35 (by decide) rfl ?_
        refine wp_lv [2, 3, 4, 1, 5, 0] rfl ?_
        exact inner (Nat.le_refl _) (by omega) 0 (by omega) 0 F1 B1 H1 L1 (by omega) ⟨hV.1, hV.2.1, hV.2.2.1, hV.2.2.2.1, hV.2.2.2.2.1, hV.2.2.2.2.2.1, fun _ x hx => absurd hx (by omega)⟩
  refine wp_aload_n C 0 dX1_seekWays_0 rfl rfl ?_
  refine wp_getR C dX1_seekWays_1 fX1_seekWays_33 (hC.ob 14 (by decide) rfl) (hC.rf 14 6 21 (by decide)) ?_
  refine wp_iconst C (-1) dX1_seekWays_4 (by decide) ?_
  refine wp_cSv C (As := [.ref (ca 21), .int (-1)]) (rest := []) dX1_seekWays_5 kX1_seekWays_39 (c_fillI _ (hC.ar 21 (by decide) rfl) (by decide) (-1)) rfl (Nat.le_of_ble_eq_true rfl) (by decide) (by decide) ?_
  refine wp_aload_n C 0 dX1_seekWays_8 rfl rfl ?_
  refine wp_iload_n C 1 dX1_seekWays_9 rfl rfl ?_
  refine wp_iload_n C 1 dX1_seekWays_10 rfl rfl ?_
  refine wp_lconst C 0 dX1_seekWays_11 (by decide) ?_
  refine wp_lconst C 0 dX1_seekWays_12 (by decide) ?_
  refine wp_cVv C (As := [.int (nI s), .int (nI s), .long 0, .long 0]) (rest := []) dX1_seekWays_13 kX1_seekWays_80 (hC.ob 14 (by decide) rfl) (c_reach _ hC (u := s) (v := s) hs hs 0 0) rfl (Nat.le_of_ble_eq_true rfl) (by decide) (by decide) ?_
  refine wp_iconst C 1 dX1_seekWays_16 (by decide) ?_
  refine wp_istore_n C [(3, .int 1), (0, .ref (ca 14)), (1, .int (nI s)), (2, .int (nI q))] dX1_seekWays_17 rfl (by decide) rfl ?_
  refine wp_iconst C 0 dX1_seekWays_18 (by decide) ?_
  refine wp_istore C [(4, .int 0), (3, .int 1), (0, .ref (ca 14)), (1, .int (nI s)), (2, .int (nI q))] dX1_seekWays_19 (by decide) rfl ?_
  have e1 : u2 (u2 (va_up I (ca 21) (fl (I (ca 21)) (-1) 19)) (ca 21) s (nI s)) (ca 22) s 1 = rwI I ca (fun x => if x = s then nI s else fl (I (ca 21)) (-1) 19 x) (fun x => if x = s then 1 else I (ca 22) x) := by
    unfold rwI
    rw [u2_in, u2_vu, vu_n _ _ (hC.ne 22 21 (by decide) (by decide) (by decide))]
  have e2 : u2 (u2 J (ca 19) s 0) (ca 20) s 0 = rwJ J ca (fun x => if x = s then 0 else J (ca 19) x) (fun x => if x = s then 0 else J (ca 20) x) := by
    unfold rwJ
    rw [u2_vu, u2_vu, vu_n _ _ (hC.ne 20 19 (by decide) (by decide) (by decide))]
  refine wp_eI e1 (wp_eJ e2 ?_)
  refine wp_lv [2, 3, 4, 1, 0] rfl ?_
  refine outer 0 (by omega) 1 _ _ _ _ (by omega) (SV.init hs (fun v => ?_) (fun v hv => ?_) (by simp) (by simp)) (fun hg => by omega) _ rfl
  · simp only [fl]
    by_cases h1 : v = s
    · simp only [if_pos h1]
    · simp only [if_neg h1]
      by_cases h2 : v < 19
      · simp only [if_pos h2]
      · simp only [if_neg h2]
  · by_cases h1 : v = s
    · simp only [if_pos h1]
    · simp only [if_neg h1]; exact hz0 v hv
