/-! ===== goes() of the reference ===== -/
/-- the end of goes(): the set has grown by the way to e0, from the agent s -/
def PG (T : gSh) (J : gJ) (R : gR) (I : gI) (m : Nat) (ad : Nat → Nat) (A B : Nat) (w fx mt al el : Nat → Nat) (ψ : Nat → Int) (L : Int) (e0 : Nat) : gPost := fun r T' I' J' R' => r = some (.int (I (ad 15) (8 + e0))) ∧ T = T' ∧ J = J' ∧ R = R' ∧ (∀ b, b ≠ ad 12 → b ≠ ad 13 → b ≠ ad 14 → I' b = I b)
  ∧ ∃ (s : Nat) (mt' : Nat → Nat), (s < A ∧ 0 < al s) ∧ MS I' m ad A B w fx mt' (fun y => if y = s then al y - 1 else al y) (fun y => if y = e0 then el y - 1 else el y) ∧ (∀ p, p < 80 → mt' p ≤ 1 ∧ (mt' p = 1 → okM A B fx p)) ∧ (∀ y, y < 8 → cnt mt' y = cnt mt y + (if y = s then 1 else 0)) ∧ (∀ y, y < 10 → cnt mt' (8 + y) = cnt mt (8 + y) + (if y = e0 then 1 else 0)) ∧ totN w mt' = totN w mt + L ∧ PV A B w fx mt' (fun y => if y = s then al y - 1 else al y) (fun y => if y = e0 then el y - 1 else el y) ψ L
set_option maxRecDepth 100000 in
set_option maxHeartbeats 4000000 in
theorem m_goes (l : Launch) {T : gSh} {I : gI} {J : gJ} {R : gR} {m : Nat} {ad : Nat → Nat} (hM : MO T R m ad) {A B : Nat} {w fx mt al el : Nat → Nat} (hS : MS I m ad A B w fx mt al el) {ψ : Nat → Int} {L : Int} {e0 n : Nat} {x : Nat → Nat} (Wm : WM A B w fx mt al ψ (I (ad 16)) x n) (hn : 2 ≤ n) (hx0 : x 0 = 8 + e0) (e0B : e0 < B) (hel : 0 < el e0) (H : PV A B w fx mt al el ψ L) (hL : ψ (8 + e0) = L) (hmt : ∀ p, p < 80 → mt p ≤ 1 ∧ (mt p = 1 → okM A B fx p)) (hf0 : ∀ a, a < A → 0 < al a → I (ad 15) a = 0) : Con l yX12_goes wsX12_goes ({ frames := 0, cells := 0, slots := 0, locals := 0 }) [.ref m, .int (nI e0)] T I J R (PG T J R I m ad A B w fx mt al el ψ L e0) := by
  refine Con.mk (cc := cX12_goes) (maxL := 6) (ret := (some .int)) (by decide) rfl (Nat.le_of_ble_eq_true rfl) ?_
  intro E hE C Z hnm
  subst hE
  change WP E 6 0 0 T I J R 0 [(0, .ref m), (1, .int (nI e0))] []
  have hA8 := hS.1.2
  have hB10 := hS.2.1.2
  have loop : ∀ j, j ≤ n → ∀ (e : Nat) (I1 : gI) (c : Nat → Nat), j < n → x j = 8 + e → e < B → Gm A B w fx mt ψ x n j c → (∀ a e, a < A → e < B → I1 (ad 12) (10 * a + e) = nI (c (10 * a + e))) → (∀ b, b ≠ ad 12 → b ≠ ad 14 → I1 b = I b) → I1 (ad 14) = (u2 I (ad 14) e0 (nI (el e0) - 1)) (ad 14) → ∀ lv, lv_pick lv [0, 1, 2, 3, 4] = [(0, .ref m), (1, .int (nI e0)), (2, .int (I (ad 15) (8 + e0))), (3, .int (nI e)), (4, .int 1)] → WP E 6 0 0 T I1 J R 25 lv [] := by
    refine loopN n (fun j hjn ih => ?_)
    intro e I1 c hj xe eB hG hc1 hF1 hE1 lv hlv
    refine wp_lv [0, 1, 2, 3, 4] hlv ?_
    obtain ⟨a, xa⟩ : ∃ a, x (j + 1) = a := ⟨_, rfl⟩
    have k1 := Wm.2.2.2.1 j hj (by omega)
    rw [xa, xe, show 8 + e - 8 = e by omega] at k1
    have aA := k1.1
    have ba := (hS.2.2.2.2.2.1 a aA).2
    have j1 : j + 1 < n := by
      rcases Nat.lt_or_ge (j + 1) n with q | q
      · exact q
      · have : x (j + 1) = 18 := by rw [show j + 1 = n by omega]; exact Wm.1
        omega
    have k5 := Wm.2.2.2.2 (j + 1) j1 (by omega)
    rw [xa, show j + 1 + 1 = j + 2 from rfl] at k5
    refine wp_iload C 4 dX12_goes_25 rfl ?_
    refine wp_if_eq C 124 dX12_goes_27 (by decide) (fun c27 => ?_) (fun c27 => ?_)
    · exact absurd c27 (by decide)
    · refine wp_aload_n C 0 dX12_goes_30 rfl rfl ?_
      refine wp_getR C dX12_goes_31 fX12_goes_47 hM.ob (hM.rf 16 rfl) ?_
      refine wp_bipush C 8 dX12_goes_34 (by decide) ?_
      refine wp_iload_n C 3 dX12_goes_36 rfl rfl ?_
      refine wp_iadd C dX12_goes_37 ?_
      refine wp_eqi (nI_add 8 e) ?_
      refine wp_iald C dX12_goes_38 (hM.ar 16 rfl rfl) (j := 8 + e) rfl (by omega) (by decide) ?_
      refine wp_eqi ((congrFun (hF1 (ad 16) (hM.ne 16 12 rfl rfl (by decide)) (hM.ne 16 14 rfl rfl (by decide))) _).trans k1.2.2.1) ?_
      refine wp_istore C [(5, .int (nI a)), (0, .ref m), (1, .int (nI e0)), (2, .int (I (ad 15) (8 + e0))), (3, .int (nI e)), (4, .int 1)] dX12_goes_39 (by decide) rfl ?_
      refine wp_aload_n C 1 dX12_goes_41 rfl rfl ?_
      refine wp_getR C dX12_goes_42 fX12_goes_34 hM.ob (hM.rf 12 rfl) ?_
      refine wp_bipush C 10 dX12_goes_45 (by decide) ?_
      refine wp_iload C 0 dX12_goes_47 rfl ?_
      refine wp_imul C dX12_goes_49 ?_
      refine wp_eqi (pk_mul 10 a) ?_
      refine wp_iload_n C 4 dX12_goes_50 rfl rfl ?_
      refine wp_iadd C dX12_goes_51 ?_
      refine wp_eqi (nI_add (10 * a) e) ?_
      refine wp_iconst C 1 dX12_goes_52 (by decide) ?_
      refine wp_zast C dX12_goes_53 (hM.ar 12 rfl rfl) (j := (10 * a) + e) rfl (by omega) (by decide) (by decide) ?_
      refine wp_aload_n C 1 dX12_goes_54 rfl rfl ?_
      refine wp_getR C dX12_goes_55 fX12_goes_44 hM.ob (hM.rf 15 rfl) ?_
      refine wp_iload C 0 dX12_goes_58 rfl ?_
      refine wp_iald C dX12_goes_60 (hM.ar 15 rfl rfl) (j := a) rfl (by omega) (by decide) ?_
      refine wp_eqi ((u2_a _ _ _ _ (hM.ne 15 12 rfl rfl (by decide)) _).trans (congrFun (hF1 (ad 15) (hM.ne 15 12 rfl rfl (by decide)) (hM.ne 15 14 rfl rfl (by decide))) _)) ?_
      refine wp_if_ne C 74 dX12_goes_61 (by decide) (fun c61 => ?_) (fun c61 => ?_)
      · refine wp_iconst C 1 dX12_goes_74 (by decide) ?_
        refine wp_goto C 79 dX12_goes_75 (by decide) ?_
        refine wp_istore C [(4, .int 1), (5, .int (nI a)), (0, .ref m), (1, .int (nI e0)), (2, .int (I (ad 15) (8 + e0))), (3, .int (nI e))] dX12_goes_79 (by decide) rfl ?_
        refine wp_iload C 0 dX12_goes_81 rfl ?_
        refine wp_if_ne C 100 dX12_goes_83 (by decide) (fun c83 => ?_) (fun c83 => ?_)
        · have al0 : al a = 0 := by
            rcases Nat.eq_zero_or_pos (al a) with q | q
            · exact q
            · exfalso; have := hf0 a aA q; first | omega | exact c61 this
          have k7 := k5.resolve_left (fun q => by omega)
          obtain ⟨e2, xe2⟩ : ∃ e2, x (j + 2) = 8 + e2 := ⟨x (j + 2) - 8, by have := k7.2.2.1; show x (j + 2) = _; omega⟩
          rw [xe2, show 8 + e2 - 8 = e2 by omega] at k7
          have k6 := k7.2.2.2.2.2.1
          have e2B := k7.2.2.2.2.1
          have j2 : j + 2 < n := by
            rcases Nat.lt_or_ge (j + 2) n with q | q
            · exact q
            · have : x (j + 2) = 18 := by rw [show j + 2 = n by omega]; exact Wm.1
              omega
          obtain ⟨cz, cz2, hG2⟩ := hG.step hA8 hB10 Wm j2 xa xe xe2 aA eB e2B
          refine wp_aload_n C 2 dX12_goes_100 rfl rfl ?_
          refine wp_getR C dX12_goes_101 fX12_goes_47 hM.ob (hM.rf 16 rfl) ?_
          refine wp_iload C 1 dX12_goes_104 rfl ?_
          refine wp_iald C dX12_goes_106 (hM.ar 16 rfl rfl) (j := a) rfl (by omega) (by decide) ?_
          refine wp_eqi ((u2_a _ _ _ _ (hM.ne 16 12 rfl rfl (by decide)) _).trans ((congrFun (hF1 (ad 16) (hM.ne 16 12 rfl rfl (by decide)) (hM.ne 16 14 rfl rfl (by decide))) _).trans k6)) ?_
          refine wp_istore_n C [(3, .int (nI e2)), (4, .int 1), (5, .int (nI a)), (0, .ref m), (1, .int (nI e0)), (2, .int (I (ad 15) (8 + e0)))] dX12_goes_107 rfl (by decide) rfl ?_
          refine wp_aload_n C 3 dX12_goes_108 rfl rfl ?_
          refine wp_getR C dX12_goes_109 fX12_goes_34 hM.ob (hM.rf 12 rfl) ?_
          refine wp_bipush C 10 dX12_goes_112 (by decide) ?_
          refine wp_iload C 2 dX12_goes_114 rfl ?_
          refine wp_imul C dX12_goes_116 ?_
          refine wp_eqi (pk_mul 10 a) ?_
          refine wp_iload_n C 0 dX12_goes_117 rfl rfl ?_
          refine wp_iadd C dX12_goes_118 ?_
          refine wp_eqi (nI_add (10 * a) e2) ?_
          refine wp_iconst C 0 dX12_goes_119 (by decide) ?_
          refine wp_zast C dX12_goes_120 (hM.ar 12 rfl rfl) (j := (10 * a) + e2) rfl (by omega) (by decide) (by decide) ?_
          refine wp_goto C 25 dX12_goes_121 (by decide) ?_
          refine wp_lv [3, 4, 5, 0, 1] rfl ?_
          refine ih (j + 2) (by omega) (by omega) e2 _ _ j2 xe2 e2B hG2 (fun a3 e3 h1 h2 => ?_) (fun b h1 h2 => ?_) ?_ _ rfl
          · by_cases q : 10 * a3 + e3 = 10 * a + e2
            · rw [q, u2_s, fli_s, cz2]; rfl
            · rw [u2_k _ _ _ _ q, fli_n q]
              by_cases q2 : 10 * a3 + e3 = 10 * a + e
              · rw [q2, u2_s, fli_s, cz]; rfl
              · rw [u2_k _ _ _ _ q2, fli_n q2]; exact hc1 a3 e3 h1 h2
          · rw [u2_rown _ _ _ _ h1, u2_rown _ _ _ _ h1]; exact hF1 b h1 h2
          · rw [u2_rown _ _ _ _ (hM.ne 14 12 rfl rfl (by decide)), u2_rown _ _ _ _ (hM.ne 14 12 rfl rfl (by decide))]; exact hE1
        · exact absurd c83 (by decide)
      · refine wp_aload_n C 1 dX12_goes_64 rfl rfl ?_
        refine wp_getR C dX12_goes_65 fX12_goes_38 hM.ob (hM.rf 13 rfl) ?_
        refine wp_iload C 0 dX12_goes_68 rfl ?_
        refine wp_iald C dX12_goes_70 (hM.ar 13 rfl rfl) (j := a) rfl (by omega) (by decide) ?_
        refine wp_eqi ((u2_a _ _ _ _ (hM.ne 13 12 rfl rfl (by decide)) _).trans ((congrFun (hF1 (ad 13) (hM.ne 13 12 rfl rfl (by decide)) (hM.ne 13 14 rfl rfl (by decide))) _).trans (hS.2.2.2.2.2.1 _ (by omega)).1)) ?_
        refine wp_if_ne C 78 dX12_goes_71 (by decide) (fun c71 => ?_) (fun c71 => ?_)
        · have c71 : ¬ ((al a : Nat) : Int) = 0 := by have h := n_eq c71; rw [nI_toInt (show al a < 2 ^ 31 by omega)] at h; exact h
          refine wp_iconst C 0 dX12_goes_78 (by decide) ?_
          refine wp_istore C [(4, .int 0), (5, .int (nI a)), (0, .ref m), (1, .int (nI e0)), (2, .int (I (ad 15) (8 + e0))), (3, .int (nI e))] dX12_goes_79 (by decide) rfl ?_
          refine wp_iload C 0 dX12_goes_81 rfl ?_
          refine wp_if_ne C 100 dX12_goes_83 (by decide) (fun c83 => ?_) (fun c83 => ?_)
          · exact absurd (by decide) c83
          · refine wp_aload_n C 2 dX12_goes_86 rfl rfl ?_
            refine wp_getR C dX12_goes_87 fX12_goes_38 hM.ob (hM.rf 13 rfl) ?_
            refine wp_iload C 1 dX12_goes_90 rfl ?_
            refine wp_dup2 C dX12_goes_92 rfl rfl ?_
            refine wp_iald C dX12_goes_93 (hM.ar 13 rfl rfl) (j := a) rfl (by omega) (by decide) ?_
            refine wp_eqi ((u2_a _ _ _ _ (hM.ne 13 12 rfl rfl (by decide)) _).trans ((congrFun (hF1 (ad 13) (hM.ne 13 12 rfl rfl (by decide)) (hM.ne 13 14 rfl rfl (by decide))) _).trans (hS.2.2.2.2.2.1 _ (by omega)).1)) ?_
            refine wp_iconst C 1 dX12_goes_94 (by decide) ?_
            refine wp_isub C dX12_goes_95 ?_
            refine wp_iast C dX12_goes_96 (hM.ar 13 rfl rfl) (j := a) rfl (by omega) (by decide) ?_
            refine wp_goto C 121 dX12_goes_97 (by decide) ?_
            refine wp_goto C 25 dX12_goes_121 (by decide) ?_
            refine wp_iload C 0 dX12_goes_25 rfl ?_
            refine wp_if_eq C 124 dX12_goes_27 (by decide) (fun c27 => ?_) (fun c27 => ?_)
            · refine wp_iload_n C 4 dX12_goes_124 rfl rfl ?_
              have al1 : 0 < al a := by omega
              have jn : j + 2 = n := by omega
              have z := hG.done hA8 hB10 Wm jn xa xe hx0 aA eB e0B al1 hel H hL
              refine wp_iret C Z dX12_goes_125 (by decide) (by decide) ⟨rfl, rfl, rfl, rfl, fun b h1 h2 h3 => ?_, a, _, ⟨aA, al1⟩, ⟨⟨?_, hA8⟩, ⟨?_, hB10⟩, fun p hp => ⟨?_, (hS.2.2.1 p hp).2⟩, fun p hp => ⟨?_, (hS.2.2.2.1 p hp).2⟩, fun a3 e3 h1 h2 => ⟨?_, (z.2.1 _ (by omega)).1⟩, fun y hy => ⟨?_, ?_⟩, fun y hy => ⟨?_, ?_⟩⟩, z.2.1, z.2.2.1, z.2.2.2.1, z.2.2.2.2.1, z.2.2.2.2.2⟩
              · rw [u2_rown _ _ _ _ h2, u2_rown _ _ _ _ h1]; exact hF1 b h1 h3
              · rw [u2_a _ _ _ _ (Ne.symm (hM.nm 13 rfl)), u2_a _ _ _ _ (Ne.symm (hM.nm 12 rfl)), hF1 m (Ne.symm (hM.nm 12 rfl)) (Ne.symm (hM.nm 14 rfl))]; exact hS.1.1
              · rw [u2_a _ _ _ _ (Ne.symm (hM.nm 13 rfl)), u2_a _ _ _ _ (Ne.symm (hM.nm 12 rfl)), hF1 m (Ne.symm (hM.nm 12 rfl)) (Ne.symm (hM.nm 14 rfl))]; exact hS.2.1.1
              · rw [u2_a _ _ _ _ (hM.ne 10 13 rfl rfl (by decide)), u2_a _ _ _ _ (hM.ne 10 12 rfl rfl (by decide)), hF1 (ad 10) (hM.ne 10 12 rfl rfl (by decide)) (hM.ne 10 14 rfl rfl (by decide))]; exact (hS.2.2.1 p hp).1
              · rw [u2_a _ _ _ _ (hM.ne 11 13 rfl rfl (by decide)), u2_a _ _ _ _ (hM.ne 11 12 rfl rfl (by decide)), hF1 (ad 11) (hM.ne 11 12 rfl rfl (by decide)) (hM.ne 11 14 rfl rfl (by decide))]; exact (hS.2.2.2.1 p hp).1
              · rw [u2_a _ _ _ _ (hM.ne 12 13 rfl rfl (by decide))]
                by_cases q2 : 10 * a3 + e3 = 10 * a + e
                · rw [q2, u2_s, fli_s, z.1]; rfl
                · rw [u2_k _ _ _ _ q2, fli_n q2]; exact hc1 a3 e3 h1 h2
              · dsimp only
                by_cases q2 : y = a
                · rw [q2, u2_s, if_pos rfl]
                  have := nI_pred (al a - 1)
                  rw [show al a - 1 + 1 = al a by omega] at this
                  exact this
                · rw [u2_k _ _ _ _ q2, u2_a _ _ _ _ (hM.ne 13 12 rfl rfl (by decide)), hF1 (ad 13) (hM.ne 13 12 rfl rfl (by decide)) (hM.ne 13 14 rfl rfl (by decide)), if_neg q2]; exact (hS.2.2.2.2.2.1 y hy).1
              · have := (hS.2.2.2.2.2.1 y hy).2
                dsimp only
                by_cases q2 : y = a
                · rw [if_pos q2]; omega
                · rw [if_neg q2]; exact this
              · rw [u2_a _ _ _ _ (hM.ne 14 13 rfl rfl (by decide)), u2_a _ _ _ _ (hM.ne 14 12 rfl rfl (by decide)), hE1]
                dsimp only
                by_cases q2 : y = e0
                · rw [q2, u2_s, if_pos rfl]
                  have := nI_pred (el e0 - 1)
                  rw [show el e0 - 1 + 1 = el e0 by omega] at this
                  exact this
                · rw [u2_k _ _ _ _ q2, if_neg q2]; exact (hS.2.2.2.2.2.2 y hy).1
              · have := (hS.2.2.2.2.2.2 y hy).2
                dsimp only
                by_cases q2 : y = e0
                · rw [if_pos q2]; omega
                · rw [if_neg q2]; exact this
            · exact absurd (by decide) c27
        · have c71 : ((al a : Nat) : Int) = 0 := by have h := p_eq c71; rw [nI_toInt (show al a < 2 ^ 31 by omega)] at h; exact h
          refine wp_iconst C 1 dX12_goes_74 (by decide) ?_
          refine wp_goto C 79 dX12_goes_75 (by decide) ?_
          refine wp_istore C [(4, .int 1), (5, .int (nI a)), (0, .ref m), (1, .int (nI e0)), (2, .int (I (ad 15) (8 + e0))), (3, .int (nI e))] dX12_goes_79 (by decide) rfl ?_
          refine wp_iload C 0 dX12_goes_81 rfl ?_
          refine wp_if_ne C 100 dX12_goes_83 (by decide) (fun c83 => ?_) (fun c83 => ?_)
          · have al0 : al a = 0 := by
              rcases Nat.eq_zero_or_pos (al a) with q | q
              · exact q
              · exfalso; have := hf0 a aA q; first | omega | exact c61 this
            have k7 := k5.resolve_left (fun q => by omega)
            obtain ⟨e2, xe2⟩ : ∃ e2, x (j + 2) = 8 + e2 := ⟨x (j + 2) - 8, by have := k7.2.2.1; show x (j + 2) = _; omega⟩
            rw [xe2, show 8 + e2 - 8 = e2 by omega] at k7
            have k6 := k7.2.2.2.2.2.1
            have e2B := k7.2.2.2.2.1
            have j2 : j + 2 < n := by
              rcases Nat.lt_or_ge (j + 2) n with q | q
              · exact q
              · have : x (j + 2) = 18 := by rw [show j + 2 = n by omega]; exact Wm.1
                omega
            obtain ⟨cz, cz2, hG2⟩ := hG.step hA8 hB10 Wm j2 xa xe xe2 aA eB e2B
            refine wp_aload_n C 2 dX12_goes_100 rfl rfl ?_
            refine wp_getR C dX12_goes_101 fX12_goes_47 hM.ob (hM.rf 16 rfl) ?_
            refine wp_iload C 1 dX12_goes_104 rfl ?_
            refine wp_iald C dX12_goes_106 (hM.ar 16 rfl rfl) (j := a) rfl (by omega) (by decide) ?_
            refine wp_eqi ((u2_a _ _ _ _ (hM.ne 16 12 rfl rfl (by decide)) _).trans ((congrFun (hF1 (ad 16) (hM.ne 16 12 rfl rfl (by decide)) (hM.ne 16 14 rfl rfl (by decide))) _).trans k6)) ?_
            refine wp_istore_n C [(3, .int (nI e2)), (4, .int 1), (5, .int (nI a)), (0, .ref m), (1, .int (nI e0)), (2, .int (I (ad 15) (8 + e0)))] dX12_goes_107 rfl (by decide) rfl ?_
            refine wp_aload_n C 3 dX12_goes_108 rfl rfl ?_
            refine wp_getR C dX12_goes_109 fX12_goes_34 hM.ob (hM.rf 12 rfl) ?_
            refine wp_bipush C 10 dX12_goes_112 (by decide) ?_
            refine wp_iload C 2 dX12_goes_114 rfl ?_
            refine wp_imul C dX12_goes_116 ?_
            refine wp_eqi (pk_mul 10 a) ?_
            refine wp_iload_n C 0 dX12_goes_117 rfl rfl ?_
            refine wp_iadd C dX12_goes_118 ?_
            refine wp_eqi (nI_add (10 * a) e2) ?_
            refine wp_iconst C 0 dX12_goes_119 (by decide) ?_
            refine wp_zast C dX12_goes_120 (hM.ar 12 rfl rfl) (j := (10 * a) + e2) rfl (by omega) (by decide) (by decide) ?_
            refine wp_goto C 25 dX12_goes_121 (by decide) ?_
            refine wp_lv [3, 4, 5, 0, 1] rfl ?_
            refine ih (j + 2) (by omega) (by omega) e2 _ _ j2 xe2 e2B hG2 (fun a3 e3 h1 h2 => ?_) (fun b h1 h2 => ?_) ?_ _ rfl
            · by_cases q : 10 * a3 + e3 = 10 * a + e2
              · rw [q, u2_s, fli_s, cz2]; rfl
              · rw [u2_k _ _ _ _ q, fli_n q]
                by_cases q2 : 10 * a3 + e3 = 10 * a + e
                · rw [q2, u2_s, fli_s, cz]; rfl
                · rw [u2_k _ _ _ _ q2, fli_n q2]; exact hc1 a3 e3 h1 h2
            · rw [u2_rown _ _ _ _ h1, u2_rown _ _ _ _ h1]; exact hF1 b h1 h2
            · rw [u2_rown _ _ _ _ (hM.ne 14 12 rfl rfl (by decide)), u2_rown _ _ _ _ (hM.ne 14 12 rfl rfl (by decide))]; exact hE1
          · exact absurd c83 (by decide)
  refine wp_aload_n C 0 dX12_goes_0 rfl rfl ?_
  refine wp_getR C dX12_goes_1 fX12_goes_44 hM.ob (hM.rf 15 rfl) ?_
  refine wp_bipush C 8 dX12_goes_4 (by decide) ?_
  refine wp_iload_n C 1 dX12_goes_6 rfl rfl ?_
  refine wp_iadd C dX12_goes_7 ?_
  refine wp_eqi (nI_add 8 e0) ?_
  refine wp_iald C dX12_goes_8 (hM.ar 15 rfl rfl) (j := 8 + e0) rfl (by omega) (by decide) ?_
  refine wp_istore_n C [(2, .int (I (ad 15) (8 + e0))), (0, .ref m), (1, .int (nI e0))] dX12_goes_9 rfl (by decide) rfl ?_
  refine wp_aload_n C 1 dX12_goes_10 rfl rfl ?_
  refine wp_getR C dX12_goes_11 fX12_goes_41 hM.ob (hM.rf 14 rfl) ?_
  refine wp_iload_n C 2 dX12_goes_14 rfl rfl ?_
  refine wp_dup2 C dX12_goes_15 rfl rfl ?_
  refine wp_iald C dX12_goes_16 (hM.ar 14 rfl rfl) (j := e0) rfl (by omega) (by decide) ?_
  refine wp_eqi (hS.2.2.2.2.2.2 _ (by omega)).1 ?_
  refine wp_iconst C 1 dX12_goes_17 (by decide) ?_
  refine wp_isub C dX12_goes_18 ?_
  refine wp_iast C dX12_goes_19 (hM.ar 14 rfl rfl) (j := e0) rfl (by omega) (by decide) ?_
  refine wp_iload_n C 2 dX12_goes_20 rfl rfl ?_
  refine wp_istore_n C [(3, .int (nI e0)), (2, .int (I (ad 15) (8 + e0))), (0, .ref m), (1, .int (nI e0))] dX12_goes_21 rfl (by decide) rfl ?_
  refine wp_iconst C 1 dX12_goes_22 (by decide) ?_
  refine wp_istore C [(4, .int 1), (3, .int (nI e0)), (2, .int (I (ad 15) (8 + e0))), (0, .ref m), (1, .int (nI e0))] dX12_goes_23 (by decide) rfl ?_
  refine wp_lv [3, 4, 2, 1, 0] rfl ?_
  exact loop 0 (by omega) e0 _ mt (by omega) hx0 e0B (Gm.init hmt) (fun a e h1 h2 => by rw [u2_a _ _ _ _ (hM.ne 12 14 rfl rfl (by decide))]; exact (hS.2.2.2.2.1 a e h1 h2).1) (fun b h1 h2 => u2_rown _ _ _ _ h2) rfl _ rfl
