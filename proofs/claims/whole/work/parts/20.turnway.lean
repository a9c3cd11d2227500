/-! ===== a way is turned ===== -/
set_option maxRecDepth 100000 in
set_option maxHeartbeats 4000000 in
theorem c_turnWay (l : Launch) {T : gSh} {I : gI} {J : gJ} {R : gR} {ca : Nat → Nat} (hC : CO T R ca) {h : Nat} {w c dg : Nat → Nat} (hB : BS I ca h w c dg) {ψ : Nat → Int} {p n s G : Nat} {x : Nat → Nat} (hp : p < 80) (hn : n ≤ 18) (hx0 : x 0 = G) (hxn : x n = s) (h0 : x 0 < 18) (hx19 : ∀ j, j ≤ n → x j < 19) (hF : ∀ j, j < n → I (ca 21) (x j) = nI (x (j + 1))) (hdist : ∀ i k, i ≤ n → k ≤ n → x i = x k → i = k) (hdg : ∀ y, y < 18 → dg y = cnt c y ∧ dg y ≤ h) (hR : ∀ j, j < n → Rg h w c dg ψ p x j) : Con l yX1_turnWay wsX1_turnWay ({ frames := 2, cells := 0, slots := 0, locals := 42 }) [.ref (ca 14), .int (nI s), .int (nI G)] T I J R (PW T R I J ca h w c dg ψ p n x) := by
  refine Con.mk (cc := cX1_turnWay) (maxL := 8) (ret := none) (by decide) rfl (Nat.le_of_ble_eq_true rfl) ?_
  intro E hE C Z hnm
  subst hE
  change WP E 8 0 0 T I J R 0 [(0, .ref (ca 14)), (1, .int (nI s)), (2, .int (nI G))] []
  have loop : ∀ j, j ≤ n → ∀ (I1 : gI) (cj dj : Nat → Nat), BS I1 ca h w cj dj → Tn h w c dg ψ p n x j cj dj → Ag I I1 ca → ∀ lv, lv_pick lv [0, 1, 2, 3, 4] = [(0, .ref (ca 14)), (1, .int (nI s)), (2, .int (nI G)), (3, .int (nI (x j))), (4, .int (nI j))] → WP E 8 0 0 T I1 J R 5 lv [] := by
    refine loopN n (fun j hj ih => ?_)
    intro I1 cj dj hB1 hT1 hA1 lv hlv
    refine wp_lv [0, 1, 2, 3, 4] hlv ?_
    have xj := hx19 j hj
    have s19 : s < 19 := by rw [← hxn]; exact hx19 n (Nat.le_refl _)
    refine wp_iload C 4 dX1_turnWay_5 rfl ?_
    refine wp_bipush C 19 dX1_turnWay_7 (by decide) ?_
    refine wp_icmp_ge C 88 dX1_turnWay_9 (by decide) (fun c9 => ?_) (fun c9 => ?_)
    · exact absurd (p_le c9) (by rw [nI_toInt (by omega)]; show ¬ (19 : Int) ≤ _; omega)
    · have c9 : ¬ 19 ≤ ((j : Nat) : Int) := by have h := n_le c9; rw [nI_toInt (show j < 2 ^ 31 by omega)] at h; exact h
      refine wp_iload_n C 3 dX1_turnWay_12 rfl rfl ?_
      refine wp_iload_n C 1 dX1_turnWay_13 rfl rfl ?_
      refine wp_icmp_eq C 88 dX1_turnWay_14 (by decide) (fun c14 => ?_) (fun c14 => ?_)
      · have c14 : ((x j : Nat) : Int) = ((s : Nat) : Int) := by have h := p_eq c14; rw [nI_toInt (show x j < 2 ^ 31 by omega), nI_toInt (show s < 2 ^ 31 by omega)] at h; exact h
        have hjn : j = n := by
          first
          | omega
          | exact hdist j n hj (Nat.le_refl _) (by rw [hxn]; omega)
        subst hjn
        exact wp_vret C Z dX1_turnWay_88 (by decide) (by decide) ⟨rfl, rfl, rfl, rfl, hA1, cj, dj, hB1, hT1⟩
      · have c14 : ¬ ((x j : Nat) : Int) = ((s : Nat) : Int) := by have h := n_eq c14; rw [nI_toInt (show x j < 2 ^ 31 by omega), nI_toInt (show s < 2 ^ 31 by omega)] at h; exact h
        refine wp_iload_n C 3 dX1_turnWay_17 rfl rfl ?_
        refine wp_iconst C (-1) dX1_turnWay_18 (by decide) ?_
        refine wp_icmp_eq C 88 dX1_turnWay_19 (by decide) (fun c19 => ?_) (fun c19 => ?_)
        · exact absurd c19 (nI_ne1 (by omega))
        · have hjn : j < n := by
            rcases Nat.lt_or_ge j n with q | q
            · exact q
            · exact absurd (show x j = s by rw [show j = n by omega]; exact hxn) (by omega)
          have xj1 := hx19 (j + 1) (by omega)
          refine wp_aload_n C 0 dX1_turnWay_22 rfl rfl ?_
          refine wp_getR C dX1_turnWay_23 fX1_turnWay_33 (hC.ob 14 (by decide) rfl) (hC.rf 14 6 21 (by decide)) ?_
          refine wp_iload_n C 3 dX1_turnWay_26 rfl rfl ?_
          refine wp_iald C dX1_turnWay_27 (hC.ar 21 (by decide) rfl) (j := x j) rfl (by omega) (by decide) ?_
          refine wp_eqi ((congrFun (hA1 (ca 21) (hC.ne 21 16 (by decide) (by decide) (by decide)) (hC.ne 21 18 (by decide) (by decide) (by decide))) _).trans (hF j hjn)) ?_
          refine wp_istore C [(5, .int (nI (x (j + 1)))), (0, .ref (ca 14)), (1, .int (nI s)), (2, .int (nI G)), (3, .int (nI (x j))), (4, .int (nI j))] dX1_turnWay_28 (by decide) rfl ?_
          refine wp_iload C 0 dX1_turnWay_30 rfl ?_
          refine wp_if_lt C 79 dX1_turnWay_32 (by decide) (fun c32 => ?_) (fun c32 => ?_)
          · exact absurd c32 (nI_pos (by omega))
          · refine wp_iload C 0 dX1_turnWay_35 rfl ?_
            refine wp_bipush C 18 dX1_turnWay_37 (by decide) ?_
            refine wp_icmp_ge C 79 dX1_turnWay_39 (by decide) (fun c39 => ?_) (fun c39 => ?_)
            · have c39 : 18 ≤ ((x (j + 1) : Nat) : Int) := by have h := p_le c39; rw [nI_toInt (show x (j + 1) < 2 ^ 31 by omega)] at h; exact h
              refine wp_iload C 0 dX1_turnWay_79 rfl ?_
              refine wp_istore_n C [(3, .int (nI (x (j + 1)))), (5, .int (nI (x (j + 1)))), (0, .ref (ca 14)), (1, .int (nI s)), (2, .int (nI G)), (4, .int (nI j))] dX1_turnWay_81 rfl (by decide) rfl ?_
              refine wp_iinc C 5 (nI (j + 1)) [(4, .int (nI (j + 1))), (3, .int (nI (x (j + 1)))), (5, .int (nI (x (j + 1)))), (0, .ref (ca 14)), (1, .int (nI s)), (2, .int (nI G))] dX1_turnWay_82 rfl (nI_1 j) (by decide) rfl ?_
              refine wp_goto C 5 dX1_turnWay_85 (by decide) ?_
              have hub := (hR j hjn).resolve_right (fun ⟨a, e, g1, g2, g3, g4, g5, g6⟩ => by omega)
              refine wp_lv [3, 4, 5, 1, 0] rfl ?_
              exact ih (j + 1) (by omega) (by omega) I1 cj dj hB1 (hT1.hub hjn hdist h0 (fun y hy => (hdg y hy).2) hub) hA1 _ rfl
            · have c39 : ¬ 18 ≤ ((x (j + 1) : Nat) : Int) := by have h := n_le c39; rw [nI_toInt (show x (j + 1) < 2 ^ 31 by omega)] at h; exact h
              refine wp_iload_n C 4 dX1_turnWay_42 rfl rfl ?_
              refine wp_bipush C 18 dX1_turnWay_43 (by decide) ?_
              refine wp_icmp_ge C 79 dX1_turnWay_45 (by decide) (fun c45 => ?_) (fun c45 => ?_)
              · have c45 : 18 ≤ ((x j : Nat) : Int) := by have h := p_le c45; rw [nI_toInt (show x j < 2 ^ 31 by omega)] at h; exact h
                refine wp_iload C 0 dX1_turnWay_79 rfl ?_
                refine wp_istore_n C [(3, .int (nI (x (j + 1)))), (5, .int (nI (x (j + 1)))), (0, .ref (ca 14)), (1, .int (nI s)), (2, .int (nI G)), (4, .int (nI j))] dX1_turnWay_81 rfl (by decide) rfl ?_
                refine wp_iinc C 5 (nI (j + 1)) [(4, .int (nI (j + 1))), (3, .int (nI (x (j + 1)))), (5, .int (nI (x (j + 1)))), (0, .ref (ca 14)), (1, .int (nI s)), (2, .int (nI G))] dX1_turnWay_82 rfl (nI_1 j) (by decide) rfl ?_
                refine wp_goto C 5 dX1_turnWay_85 (by decide) ?_
                have hub := (hR j hjn).resolve_right (fun ⟨a, e, g1, g2, g3, g4, g5, g6⟩ => by omega)
                refine wp_lv [3, 4, 5, 1, 0] rfl ?_
                exact ih (j + 1) (by omega) (by omega) I1 cj dj hB1 (hT1.hub hjn hdist h0 (fun y hy => (hdg y hy).2) hub) hA1 _ rfl
              · have c45 : ¬ 18 ≤ ((x j : Nat) : Int) := by have h := n_le c45; rw [nI_toInt (show x j < 2 ^ 31 by omega)] at h; exact h
                obtain ⟨a, e, g1, g2, g3, g4, g5, g6⟩ : ∃ a e, a < 8 ∧ e < 10 ∧ 10 * a + e ≠ p ∧ 0 < w (10 * a + e) ∧ ψ (8 + e) = ψ a + wt (w (10 * a + e)) (10 * a + e) ∧ ((x (j + 1) = a ∧ x j = 8 + e ∧ c (10 * a + e) = 0) ∨ (x (j + 1) = 8 + e ∧ x j = a ∧ c (10 * a + e) = 1)) := by
                  rcases hR j hjn with (q | q) | q
                  · omega
                  · omega
                  · exact q
                have hmin : (if nI (x j) < nI (x (j + 1)) then nI (x j) else nI (x (j + 1))) = nI a := by
                  rcases g6 with ⟨z1, z2, _⟩ | ⟨z1, z2, _⟩ <;> rw [z1, z2]
                  · exact (mm_ea (by omega) (by omega)).1
                  · exact (mm_ae (by omega) (by omega)).1
                have hmax : (if nI (x (j + 1)) < nI (x j) then nI (x j) else nI (x (j + 1))) = nI (8 + e) := by
                  rcases g6 with ⟨z1, z2, _⟩ | ⟨z1, z2, _⟩ <;> rw [z1, z2]
                  · exact (mm_ea (by omega) (by omega)).2
                  · exact (mm_ae (by omega) (by omega)).2
                obtain ⟨er, hT2⟩ := hT1.pair hjn hdist h0 hp g1 g2 g3 g4 g5 hdg g6
                refine wp_iload C 0 dX1_turnWay_48 rfl ?_
                refine wp_iload_n C 4 dX1_turnWay_50 rfl rfl ?_
                refine wp_min C dX1_turnWay_51 (by decide +kernel) (by decide +kernel) (by decide +kernel) (by decide +kernel) (Nat.le_of_ble_eq_true rfl) (by decide) (by decide) ?_
                refine wp_eqi hmin ?_
                refine wp_istore C [(6, .int (nI a)), (5, .int (nI (x (j + 1)))), (0, .ref (ca 14)), (1, .int (nI s)), (2, .int (nI G)), (3, .int (nI (x j))), (4, .int (nI j))] dX1_turnWay_54 (by decide) rfl ?_
                refine wp_iload C 1 dX1_turnWay_56 rfl ?_
                refine wp_iload_n C 5 dX1_turnWay_58 rfl rfl ?_
                refine wp_max C dX1_turnWay_59 (by decide +kernel) (by decide +kernel) (by decide +kernel) (by decide +kernel) (Nat.le_of_ble_eq_true rfl) (by decide) (by decide) ?_
                refine wp_eqi hmax ?_
                refine wp_bipush C 8 dX1_turnWay_62 (by decide) ?_
                refine wp_isub C dX1_turnWay_64 ?_
                refine wp_eqi ((pk_sub (show 8 ≤ 8 + e by omega)).trans (congrArg nI (show 8 + e - 8 = e by omega))) ?_
                refine wp_istore C [(7, .int (nI e)), (6, .int (nI a)), (5, .int (nI (x (j + 1)))), (0, .ref (ca 14)), (1, .int (nI s)), (2, .int (nI G)), (3, .int (nI (x j))), (4, .int (nI j))] dX1_turnWay_65 (by decide) rfl ?_
                refine wp_aload_n C 3 dX1_turnWay_67 rfl rfl ?_
                refine wp_iload C 1 dX1_turnWay_68 rfl ?_
                refine wp_bipush C 10 dX1_turnWay_70 (by decide) ?_
                refine wp_imul C dX1_turnWay_72 ?_
                refine wp_eqi (pk_mul a 10) ?_
                refine wp_iload C 0 dX1_turnWay_73 rfl ?_
                refine wp_iadd C dX1_turnWay_75 ?_
                refine wp_eqi (nI_add (a * 10) e) ?_
                refine wp_eqi (congrArg nI (show a * 10 + e = 10 * a + e by omega)) ?_
                refine wp_cVv C (As := [.int (nI (10 * a + e))]) (rest := []) dX1_turnWay_76 kX1_turnWay_56 (hC.ob 14 (by decide) rfl) (c_turn _ hC (p := 10 * a + e) (by omega) (hB1.2.2.2.1 _ (by omega)).1 (hB1.2.2.2.1 _ (by omega)).2) rfl (Nat.le_of_ble_eq_true rfl) (by decide) (by decide) ?_
                refine wp_iload C 2 dX1_turnWay_79 rfl ?_
                refine wp_istore_n C [(3, .int (nI (x (j + 1)))), (7, .int (nI e)), (6, .int (nI a)), (5, .int (nI (x (j + 1)))), (0, .ref (ca 14)), (1, .int (nI s)), (2, .int (nI G)), (4, .int (nI j))] dX1_turnWay_81 rfl (by decide) rfl ?_
                refine wp_iinc C 7 (nI (j + 1)) [(4, .int (nI (j + 1))), (3, .int (nI (x (j + 1)))), (7, .int (nI e)), (6, .int (nI a)), (5, .int (nI (x (j + 1)))), (0, .ref (ca 14)), (1, .int (nI s)), (2, .int (nI G))] dX1_turnWay_82 rfl (nI_1 j) (by decide) rfl ?_
                refine wp_goto C 5 dX1_turnWay_85 (by decide) ?_
                refine wp_lv [5, 6, 7, 1, 0] rfl ?_
                exact ih (j + 1) (by omega) (by omega) _ _ _ (hB1.turn hC (fun y hy => hT1.2.1 y hy) (by omega)) hT2 hA1.turn _ rfl
  refine wp_iload_n C 2 dX1_turnWay_0 rfl rfl ?_
  refine wp_istore_n C [(3, .int (nI G)), (0, .ref (ca 14)), (1, .int (nI s)), (2, .int (nI G))] dX1_turnWay_1 rfl (by decide) rfl ?_
  refine wp_iconst C 0 dX1_turnWay_2 (by decide) ?_
  refine wp_istore C [(4, .int 0), (3, .int (nI G)), (0, .ref (ca 14)), (1, .int (nI s)), (2, .int (nI G))] dX1_turnWay_3 (by decide) rfl ?_
  refine wp_lv [2, 3, 4, 1, 0] rfl ?_
  have h9 := loop 0 (by omega) I c dg hB (Tn.init hp (fun r hr => (hB.2.2.2.1 r hr).2) (fun y hy => (hdg y hy).1)) (fun _ _ _ => rfl) [(0, .ref (ca 14)), (1, .int (nI s)), (2, .int (nI G)), (3, .int (nI G)), (4, .int 0)] (by rw [hx0]; rfl)
  exact h9
