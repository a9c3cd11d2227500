/-! ===== bests() of the reference ===== -/
/-- what the reference's table of worths holds -/
def MW (I : gI) (m : Nat) (ad : Nat → Nat) (A B h : Nat) (w : Nat → Nat) : Prop := (I m 7 = nI A ∧ A ≤ 8) ∧ (I m 8 = nI B ∧ B ≤ 10) ∧ (I m 9 = nI h ∧ 1 ≤ h ∧ h ≤ 8) ∧ (∀ p, p < 80 → I (ad 10) p = nI (w p) ∧ w p ≤ 100)
theorem MW.mi {I : gI} {m : Nat} {ad : Nat → Nat} {A B h : Nat} {w fx : Nat → Nat} (H : MW I m ad A B h w) (hf : ∀ p, p < 80 → I (ad 11) p = nI (fx p) ∧ fx p ≤ 2) : MI I m ad A B h w fx := ⟨H.1, H.2.1, H.2.2.1, H.2.2.2, hf⟩
theorem MI.mw {I : gI} {m : Nat} {ad : Nat → Nat} {A B h : Nat} {w fx : Nat → Nat} (H : MI I m ad A B h w fx) : MW I m ad A B h w := ⟨H.1, H.2.1, H.2.2.1, H.2.2.2.1⟩
/-- the rows of the search and of what is fixed alone have changed -/
def Fr6 (I I' : gI) (ad : Nat → Nat) : Prop := ∀ b, b ≠ ad 11 → b ≠ ad 12 → b ≠ ad 13 → b ≠ ad 14 → b ≠ ad 15 → b ≠ ad 16 → I' b = I b
theorem Fr6.rf (I : gI) (ad : Nat → Nat) : Fr6 I I ad := fun _ _ _ _ _ _ _ => rfl
theorem Fr6.put {I I1 : gI} {ad : Nat → Nat} (H : Fr6 I I1 ad) (p : Nat) (v : Int32) : Fr6 I (u2 I1 (ad 11) p v) ad := fun b h1 h2 h3 h4 h5 h6 => (u2_rown _ _ _ _ h1).trans (H b h1 h2 h3 h4 h5 h6)
theorem Fr6.fr5 {I I1 I2 : gI} {ad : Nat → Nat} (H : Fr6 I I1 ad) (G : Fr5 I1 I2 ad) : Fr6 I I2 ad := fun b h1 h2 h3 h4 h5 h6 => (G b h2 h3 h4 h5 h6).trans (H b h1 h2 h3 h4 h5 h6)
section MIs
variable {T : gSh} {R : gR} {I I1 : gI} {m : Nat} {ad : Nat → Nat} {A B h : Nat} {w fx : Nat → Nat}
theorem MW.fr6 (hM : MO T R m ad) (H : MW I m ad A B h w) (G : Fr6 I I1 ad) : MW I1 m ad A B h w := by
  have e := G m (Ne.symm (hM.nm 11 rfl)) (Ne.symm (hM.nm 12 rfl)) (Ne.symm (hM.nm 13 rfl)) (Ne.symm (hM.nm 14 rfl)) (Ne.symm (hM.nm 15 rfl)) (Ne.symm (hM.nm 16 rfl))
  have e2 := G (ad 10) (hM.ne 10 11 rfl rfl (by decide)) (hM.ne 10 12 rfl rfl (by decide)) (hM.ne 10 13 rfl rfl (by decide)) (hM.ne 10 14 rfl rfl (by decide)) (hM.ne 10 15 rfl rfl (by decide)) (hM.ne 10 16 rfl rfl (by decide))
  unfold MW; rw [e, e2]; exact H
theorem MI.fr5 (hM : MO T R m ad) (H : MI I m ad A B h w fx) (G : Fr5 I I1 ad) : MI I1 m ad A B h w fx := by
  have e := G m (Ne.symm (hM.nm 12 rfl)) (Ne.symm (hM.nm 13 rfl)) (Ne.symm (hM.nm 14 rfl)) (Ne.symm (hM.nm 15 rfl)) (Ne.symm (hM.nm 16 rfl))
  have e2 := G (ad 10) (hM.ne 10 12 rfl rfl (by decide)) (hM.ne 10 13 rfl rfl (by decide)) (hM.ne 10 14 rfl rfl (by decide)) (hM.ne 10 15 rfl rfl (by decide)) (hM.ne 10 16 rfl rfl (by decide))
  have e3 := G (ad 11) (hM.ne 11 12 rfl rfl (by decide)) (hM.ne 11 13 rfl rfl (by decide)) (hM.ne 11 14 rfl rfl (by decide)) (hM.ne 11 15 rfl rfl (by decide)) (hM.ne 11 16 rfl rfl (by decide))
  unfold MI; rw [e, e2, e3]; exact H
theorem MI.put (hM : MO T R m ad) (H : MI I m ad A B h w fx) (p : Nat) {x : Nat} (hx : x ≤ 2) : MI (u2 I (ad 11) p (nI x)) m ad A B h w (va_up fx p x) := by
  refine ⟨⟨?_, H.1.2⟩, ⟨?_, H.2.1.2⟩, ⟨?_, H.2.2.1.2⟩, fun q hq => ⟨?_, (H.2.2.2.1 q hq).2⟩, fun q hq => ?_⟩
  · rw [u2_a _ _ _ _ (Ne.symm (hM.nm 11 rfl))]; exact H.1.1
  · rw [u2_a _ _ _ _ (Ne.symm (hM.nm 11 rfl))]; exact H.2.1.1
  · rw [u2_a _ _ _ _ (Ne.symm (hM.nm 11 rfl))]; exact H.2.2.1.1
  · rw [u2_a _ _ _ _ (hM.ne 10 11 rfl rfl (by decide))]; exact (H.2.2.2.1 q hq).1
  · by_cases e : q = p
    · subst e; rw [u2_s, vu_s]; exact ⟨rfl, hx⟩
    · rw [u2_k _ _ _ _ e, vu_n _ _ e]; exact H.2.2.2.2 q hq
theorem MI.cg (H : MI I m ad A B h w fx) {fy : Nat → Nat} (e : ∀ p, p < 80 → fx p = fy p) : MI I m ad A B h w fy := ⟨H.1, H.2.1, H.2.2.1, H.2.2.2.1, fun p hp => by rw [← e p hp]; exact H.2.2.2.2 p hp⟩
end MIs
/-- the pairs without worth, up to the k-th -/
def fzk (A B : Nat) (w : Nat → Nat) (k : Nat) : Nat → Nat := fun p => if p < k then fz A B w p else 0
theorem fzk_put {A B : Nat} {w : Nat → Nat} {k : Nat} (h1 : k / 10 < A) (h2 : k % 10 < B) (h3 : w k = 0) (p : Nat) : va_up (fzk A B w k) k 2 p = fzk A B w (k + 1) p := by
  by_cases e : p = k
  · subst e; rw [vu_s]; unfold fzk fz; rw [if_pos (by omega), if_pos ⟨h1, h2, h3⟩]
  · rw [vu_n _ _ e]; unfold fzk
    by_cases q : p < k
    · rw [if_pos q, if_pos (by omega)]
    · rw [if_neg q, if_neg (by omega)]
theorem fzk_skip {A B : Nat} {w : Nat → Nat} {k : Nat} (h : ¬ (k / 10 < A ∧ k % 10 < B ∧ w k = 0)) (p : Nat) : fzk A B w k p = fzk A B w (k + 1) p := by
  unfold fzk
  by_cases e : p = k
  · subst e; rw [if_neg (by omega), if_pos (by omega)]; unfold fz; rw [if_neg h]
  · by_cases q : p < k
    · rw [if_pos q, if_pos (by omega)]
    · rw [if_neg q, if_neg (by omega)]
theorem fzk_skips {A B : Nat} {w : Nat → Nat} {k k2 : Nat} (hk : k ≤ k2) (h : ∀ j, k ≤ j → j < k2 → ¬ (j / 10 < A ∧ j % 10 < B)) (p : Nat) : fzk A B w k p = fzk A B w k2 p := by
  obtain ⟨d, rfl⟩ : ∃ d, k2 = k + d := ⟨k2 - k, by omega⟩
  clear hk
  induction d with
  | zero => rfl
  | succ d ih =>
    rw [ih (fun j h1 h2 => h j h1 (by omega)), show k + (d + 1) = (k + d) + 1 by omega]
    exact fzk_skip (fun z => h (k + d) (by omega) (by omega) ⟨z.1, z.2.1⟩) p
theorem Q4.offs {A B h : Nat} {w : Nat → Nat} {M : Int} {k k2 : Nat} {fx : Nat → Nat} (Q : Q4 A B h w M k fx) (hk : k ≤ k2) (hh : ∀ j, k ≤ j → j < k2 → ¬ (j / 10 < A ∧ j % 10 < B)) : Q4 A B h w M k2 fx := by
  obtain ⟨d, rfl⟩ : ∃ d, k2 = k + d := ⟨k2 - k, by omega⟩
  clear hk
  induction d with
  | zero => exact Q
  | succ d ih => exact (ih (fun j h1 h2 => hh j h1 (by omega))).off (hh (k + d) (by omega) (by omega))
/-- the end of bests() -/
def PB (T : gSh) (J : gJ) (R : gR) (I : gI) (ad : Nat → Nat) (A B h : Nat) (w : Nat → Nat) : gPost := fun r T' I' J' R' => ∃ (v : Int32) (c : Nat → Nat), r = some (.int v) ∧ T = T' ∧ J = J' ∧ R = R' ∧ Fr6 I I' ad ∧ Lex h w c ∧ v.toInt = totN w c ∧ ∀ p, p < 80 → p / 10 < A → p % 10 < B → I' (ad 11) p = nI (if c p = 1 then 1 else 2)
set_option maxRecDepth 100000 in
set_option maxHeartbeats 4000000 in
theorem m_bests (l : Launch) {T : gSh} {I : gI} {J : gJ} {R : gR} {m : Nat} {ad : Nat → Nat} (hM : MO T R m ad) {A B h : Nat} {w : Nat → Nat} (hS : MW I m ad A B h w) (hw0 : ∀ p, p < 80 → ¬ (p / 10 < A ∧ p % 10 < B) → w p = 0) : Con l yX12_bests wsX12_bests ({ frames := 2, cells := 0, slots := 0, locals := 49 }) [.ref m] T I J R (PB T J R I ad A B h w) := by
  refine Con.mk (cc := cX12_bests) (maxL := 5) (ret := (some .int)) (by decide) rfl (Nat.le_of_ble_eq_true rfl) ?_
  intro E hE C Z hnm
  subst hE
  change WP E 5 0 0 T I J R 0 [(0, .ref m)] []
  have hA8 := hS.1.2
  have hB10 := hS.2.1.2
  have hw : ∀ p, p < 80 → w p ≤ 100 := fun p hp => (hS.2.2.2 p hp).2
  have decA : ∀ (v : Int32), 0 ≤ v.toInt → ∀ a, a ≤ A → ∀ (I1 : gI) (fx : Nat → Nat), Fr6 I I1 ad → MI I1 m ad A B h w fx → Q4 A B h w v.toInt (10 * a) fx → ∀ lv, lv_pick lv [0, 1, 2] = [(0, .ref m), (1, .int v), (2, .int (nI a))] → WP E 5 0 0 T I1 J R 86 lv [] := by
    intro v hv
    refine loopN A (fun a ha iha => ?_)
    have loopE : a < A → ∀ e, e ≤ B → ∀ (I1 : gI) (fx : Nat → Nat), Fr6 I I1 ad → MI I1 m ad A B h w fx → Q4 A B h w v.toInt (10 * a + e) fx → ∀ lv, lv_pick lv [0, 1, 2, 3] = [(0, .ref m), (1, .int v), (2, .int (nI a)), (3, .int (nI e))] → WP E 5 0 0 T I1 J R 96 lv [] := by
      intro haA
      refine loopN B (fun e he ihe => ?_)
      intro I1 fx hF hI hQ lv hlv
      refine wp_lv [0, 1, 2, 3] hlv ?_
      refine wp_iload_n C 3 dX12_bests_96 rfl rfl ?_
      refine wp_aload_n C 0 dX12_bests_97 rfl rfl ?_
      refine wp_getI C dX12_bests_98 fX12_bests_161 hM.ob ?_
      refine wp_eqi hI.2.1.1 ?_
      refine wp_icmp_ge C 155 dX12_bests_101 (by decide) (fun c101 => ?_) (fun c101 => ?_)
      · have c101 : ((B : Nat) : Int) ≤ ((e : Nat) : Int) := by have h := p_le c101; rw [nI_toInt (show B < 2 ^ 31 by omega), nI_toInt (show e < 2 ^ 31 by omega)] at h; exact h
        refine wp_iinc C 2 (nI (a + 1)) [(2, .int (nI (a + 1))), (0, .ref m), (1, .int v), (3, .int (nI e))] dX12_bests_155 rfl (nI_1 a) (by decide) rfl ?_
        refine wp_goto C 86 dX12_bests_158 (by decide) ?_
        have heB : e = B := by omega
        subst heB
        refine wp_lv [1, 2, 0] rfl ?_
        refine iha (a + 1) (by omega) (by omega) _ _ hF hI (hQ.offs (by omega) (fun j h1 h2 => by omega)) _ rfl
      · have c101 : ¬ ((B : Nat) : Int) ≤ ((e : Nat) : Int) := by have h := n_le c101; rw [nI_toInt (show B < 2 ^ 31 by omega), nI_toInt (show e < 2 ^ 31 by omega)] at h; exact h
        refine wp_bipush C 10 dX12_bests_104 (by decide) ?_
        refine wp_iload_n C 2 dX12_bests_106 rfl rfl ?_
        refine wp_imul C dX12_bests_107 ?_
        refine wp_eqi (pk_mul 10 a) ?_
        refine wp_iload_n C 3 dX12_bests_108 rfl rfl ?_
        refine wp_iadd C dX12_bests_109 ?_
        refine wp_eqi (nI_add (10 * a) e) ?_
        refine wp_istore C [(4, .int (nI ((10 * a) + e))), (0, .ref m), (1, .int v), (2, .int (nI a)), (3, .int (nI e))] dX12_bests_110 (by decide) rfl ?_
        refine wp_aload_n C 1 dX12_bests_112 rfl rfl ?_
        refine wp_getR C dX12_bests_113 fX12_bests_31 hM.ob (hM.rf 11 rfl) ?_
        refine wp_iload C 0 dX12_bests_116 rfl ?_
        have bf := (hI.2.2.2.2 (10 * a + e) (by omega)).2
        refine wp_iald C dX12_bests_118 (hM.ar 11 rfl rfl) (j := (10 * a) + e) rfl (by omega) (by decide) ?_
        refine wp_eqi (hI.2.2.2.2 _ (by omega)).1 ?_
        refine wp_if_eq C 125 dX12_bests_119 (by decide) (fun c119 => ?_) (fun c119 => ?_)
        · have c119 : ((fx ((10 * a) + e) : Nat) : Int) = 0 := by have h := p_eq c119; rw [nI_toInt (show fx ((10 * a) + e) < 2 ^ 31 by omega)] at h; exact h
          refine wp_aload_n C 1 dX12_bests_125 rfl rfl ?_
          refine wp_getR C dX12_bests_126 fX12_bests_31 hM.ob (hM.rf 11 rfl) ?_
          refine wp_iload C 0 dX12_bests_129 rfl ?_
          refine wp_iconst C 1 dX12_bests_131 (by decide) ?_
          refine wp_iast C dX12_bests_132 (hM.ar 11 rfl rfl) (j := (10 * a) + e) rfl (by omega) (by decide) ?_
          refine wp_aload_n C 1 dX12_bests_133 rfl rfl ?_
          have hI1 := hI.put hM (10 * a + e) (x := 1) (by omega)
          refine wp_callV C (As := []) (rest := []) dX12_bests_134 kX12_bests_180 hM.ob (m_solve _ hM hI1) rfl (Nat.le_of_ble_eq_true rfl) (by decide) (by decide) ?_
          rintro _ _ I3 _ _ ⟨v2, rfl, rfl, rfl, rfl, hF3, hr⟩
          have tr := hQ.try1 hA8 hB10 hw hv (by omega) (by omega) (by omega) (by omega) hr
          have hF2 := (hF.put (10 * a + e) (nI 1)).fr5 hF3
          have hI2 := hI1.fr5 hM hF3
          change WP E 5 0 0 T I3 J R 137 [(4, .int (nI ((10 * a) + e))), (0, .ref m), (1, .int v), (2, .int (nI a)), (3, .int (nI e))] [.int v2]
          refine wp_iload_n C 2 dX12_bests_137 rfl rfl ?_
          refine wp_icmp_eq C 149 dX12_bests_138 (by decide) (fun c138 => ?_) (fun c138 => ?_)
          · have c138 : v2.toInt = v.toInt := by have h := p_eq c138; exact h
            refine wp_iinc C 4 (nI (e + 1)) [(3, .int (nI (e + 1))), (4, .int (nI ((10 * a) + e))), (0, .ref m), (1, .int v), (2, .int (nI a))] dX12_bests_149 rfl (nI_1 e) (by decide) rfl ?_
            refine wp_goto C 96 dX12_bests_152 (by decide) ?_
            refine wp_lv [2, 3, 4, 0] rfl ?_
            refine ihe (e + 1) (by omega) (by omega) _ _ hF2 hI2 (tr.1 c138) _ rfl
          · have c138 : ¬ v2.toInt = v.toInt := by have h := n_eq c138; exact h
            refine wp_aload_n C 1 dX12_bests_141 rfl rfl ?_
            refine wp_getR C dX12_bests_142 fX12_bests_31 hM.ob (hM.rf 11 rfl) ?_
            refine wp_iload C 0 dX12_bests_145 rfl ?_
            refine wp_iconst C 2 dX12_bests_147 (by decide) ?_
            refine wp_iast C dX12_bests_148 (hM.ar 11 rfl rfl) (j := (10 * a) + e) rfl (by omega) (by decide) ?_
            refine wp_iinc C 4 (nI (e + 1)) [(3, .int (nI (e + 1))), (4, .int (nI ((10 * a) + e))), (0, .ref m), (1, .int v), (2, .int (nI a))] dX12_bests_149 rfl (nI_1 e) (by decide) rfl ?_
            refine wp_goto C 96 dX12_bests_152 (by decide) ?_
            refine wp_lv [2, 3, 4, 0] rfl ?_
            have hI4 := hI2.put hM (10 * a + e) (x := 2) (by omega)
            rw [vu_vu] at hI4
            refine ihe (e + 1) (by omega) (by omega) _ _ (hF2.put (10 * a + e) (nI 2)) hI4 (tr.2 c138) _ rfl
        · have c119 : ¬ ((fx ((10 * a) + e) : Nat) : Int) = 0 := by have h := n_eq c119; rw [nI_toInt (show fx ((10 * a) + e) < 2 ^ 31 by omega)] at h; exact h
          refine wp_goto C 149 dX12_bests_122 (by decide) ?_
          refine wp_iinc C 4 (nI (e + 1)) [(3, .int (nI (e + 1))), (4, .int (nI ((10 * a) + e))), (0, .ref m), (1, .int v), (2, .int (nI a))] dX12_bests_149 rfl (nI_1 e) (by decide) rfl ?_
          refine wp_goto C 96 dX12_bests_152 (by decide) ?_
          refine wp_lv [2, 3, 4, 0] rfl ?_
          refine ihe (e + 1) (by omega) (by omega) _ _ hF hI (hQ.skip (by omega) (by omega) (by omega) (by omega)) _ rfl
    intro I1 fx hF hI hQ lv hlv
    refine wp_lv [0, 1, 2] hlv ?_
    refine wp_iload_n C 2 dX12_bests_86 rfl rfl ?_
    refine wp_aload_n C 0 dX12_bests_87 rfl rfl ?_
    refine wp_getI C dX12_bests_88 fX12_bests_158 hM.ob ?_
    refine wp_eqi hI.1.1 ?_
    refine wp_icmp_ge C 161 dX12_bests_91 (by decide) (fun c91 => ?_) (fun c91 => ?_)
    · have c91 : ((A : Nat) : Int) ≤ ((a : Nat) : Int) := by have h := p_le c91; rw [nI_toInt (show A < 2 ^ 31 by omega), nI_toInt (show a < 2 ^ 31 by omega)] at h; exact h
      refine wp_iload_n C 1 dX12_bests_161 rfl rfl ?_
      have haA : a = A := by omega
      subst haA
      obtain ⟨c, c1, c2, c3⟩ := (hQ.offs (k2 := 80) (by omega) (fun j h1 h2 => by omega)).fin hA8 hB10 hw0
      exact wp_iret C Z dX12_bests_162 (by decide) (by decide) ⟨v, c, rfl, rfl, rfl, rfl, hF, c1, c2.symm, fun p hp h1 h2 => by rw [← c3 p hp h1 h2]; exact (hI.2.2.2.2 p hp).1⟩
    · have c91 : ¬ ((A : Nat) : Int) ≤ ((a : Nat) : Int) := by have h := n_le c91; rw [nI_toInt (show A < 2 ^ 31 by omega), nI_toInt (show a < 2 ^ 31 by omega)] at h; exact h
      refine wp_iconst C 0 dX12_bests_94 (by decide) ?_
      refine wp_istore_n C [(3, .int 0), (0, .ref m), (1, .int v), (2, .int (nI a))] dX12_bests_95 rfl (by decide) rfl ?_
      refine wp_lv [1, 2, 3, 0] rfl ?_
      exact loopE (by omega) 0 (by omega) _ _ hF hI hQ _ rfl
  have zA : ∀ a, a ≤ A → ∀ (I1 : gI), Fr6 I I1 ad → MI I1 m ad A B h w (fzk A B w (10 * a)) → ∀ lv, lv_pick lv [0, 1] = [(0, .ref m), (1, .int (nI a))] → WP E 5 0 0 T I1 J R 23 lv [] := by
    refine loopN A (fun a ha iha => ?_)
    have loopE : a < A → ∀ e, e ≤ B → ∀ (I1 : gI), Fr6 I I1 ad → MI I1 m ad A B h w (fzk A B w (10 * a + e)) → ∀ lv, lv_pick lv [0, 1, 2] = [(0, .ref m), (1, .int (nI a)), (2, .int (nI e))] → WP E 5 0 0 T I1 J R 33 lv [] := by
      intro haA
      refine loopN B (fun e he ihe => ?_)
      intro I1 hF hI lv hlv
      refine wp_lv [0, 1, 2] hlv ?_
      refine wp_iload_n C 2 dX12_bests_33 rfl rfl ?_
      refine wp_aload_n C 0 dX12_bests_34 rfl rfl ?_
      refine wp_getI C dX12_bests_35 fX12_bests_161 hM.ob ?_
      refine wp_eqi hI.2.1.1 ?_
      refine wp_icmp_ge C 73 dX12_bests_38 (by decide) (fun c38 => ?_) (fun c38 => ?_)
      · have c38 : ((B : Nat) : Int) ≤ ((e : Nat) : Int) := by have h := p_le c38; rw [nI_toInt (show B < 2 ^ 31 by omega), nI_toInt (show e < 2 ^ 31 by omega)] at h; exact h
        refine wp_iinc C 1 (nI (a + 1)) [(1, .int (nI (a + 1))), (0, .ref m), (2, .int (nI e))] dX12_bests_73 rfl (nI_1 a) (by decide) rfl ?_
        refine wp_goto C 23 dX12_bests_76 (by decide) ?_
        have heB : e = B := by omega
        subst heB
        refine wp_lv [1, 0] rfl ?_
        refine iha (a + 1) (by omega) (by omega) _ hF (hI.cg (fun p _ => fzk_skips (by omega) (fun j h1 h2 => by omega) p)) _ rfl
      · have c38 : ¬ ((B : Nat) : Int) ≤ ((e : Nat) : Int) := by have h := n_le c38; rw [nI_toInt (show B < 2 ^ 31 by omega), nI_toInt (show e < 2 ^ 31 by omega)] at h; exact h
        refine wp_aload_n C 0 dX12_bests_41 rfl rfl ?_
        refine wp_getR C dX12_bests_42 fX12_bests_28 hM.ob (hM.rf 10 rfl) ?_
        refine wp_bipush C 10 dX12_bests_45 (by decide) ?_
        refine wp_iload_n C 1 dX12_bests_47 rfl rfl ?_
        refine wp_imul C dX12_bests_48 ?_
        refine wp_eqi (pk_mul 10 a) ?_
        refine wp_iload_n C 2 dX12_bests_49 rfl rfl ?_
        refine wp_iadd C dX12_bests_50 ?_
        refine wp_eqi (nI_add (10 * a) e) ?_
        have bw := hw (10 * a + e) (by omega)
        refine wp_iald C dX12_bests_51 (hM.ar 10 rfl rfl) (j := (10 * a) + e) rfl (by omega) (by decide) ?_
        refine wp_eqi (hI.2.2.2.1 _ (by omega)).1 ?_
        refine wp_if_ne C 67 dX12_bests_52 (by decide) (fun c52 => ?_) (fun c52 => ?_)
        · have c52 : ¬ ((w ((10 * a) + e) : Nat) : Int) = 0 := by have h := n_eq c52; rw [nI_toInt (show w ((10 * a) + e) < 2 ^ 31 by omega)] at h; exact h
          refine wp_iinc C 2 (nI (e + 1)) [(2, .int (nI (e + 1))), (0, .ref m), (1, .int (nI a))] dX12_bests_67 rfl (nI_1 e) (by decide) rfl ?_
          refine wp_goto C 33 dX12_bests_70 (by decide) ?_
          refine wp_lv [1, 2, 0] rfl ?_
          refine ihe (e + 1) (by omega) (by omega) _ hF (hI.cg (fun p _ => fzk_skip (by omega) p)) _ rfl
        · have c52 : ((w ((10 * a) + e) : Nat) : Int) = 0 := by have h := p_eq c52; rw [nI_toInt (show w ((10 * a) + e) < 2 ^ 31 by omega)] at h; exact h
          refine wp_aload_n C 0 dX12_bests_55 rfl rfl ?_
          refine wp_getR C dX12_bests_56 fX12_bests_31 hM.ob (hM.rf 11 rfl) ?_
          refine wp_bipush C 10 dX12_bests_59 (by decide) ?_
          refine wp_iload_n C 1 dX12_bests_61 rfl rfl ?_
          refine wp_imul C dX12_bests_62 ?_
          refine wp_eqi (pk_mul 10 a) ?_
          refine wp_iload_n C 2 dX12_bests_63 rfl rfl ?_
          refine wp_iadd C dX12_bests_64 ?_
          refine wp_eqi (nI_add (10 * a) e) ?_
          refine wp_iconst C 2 dX12_bests_65 (by decide) ?_
          refine wp_iast C dX12_bests_66 (hM.ar 11 rfl rfl) (j := (10 * a) + e) rfl (by omega) (by decide) ?_
          refine wp_iinc C 2 (nI (e + 1)) [(2, .int (nI (e + 1))), (0, .ref m), (1, .int (nI a))] dX12_bests_67 rfl (nI_1 e) (by decide) rfl ?_
          refine wp_goto C 33 dX12_bests_70 (by decide) ?_
          refine wp_lv [1, 2, 0] rfl ?_
          refine ihe (e + 1) (by omega) (by omega) _ (hF.put (10 * a + e) (nI 2)) ((hI.put hM (10 * a + e) (x := 2) (by omega)).cg (fun p _ => fzk_put (by omega) (by omega) (by omega) p)) _ rfl
    intro I1 hF hI lv hlv
    refine wp_lv [0, 1] hlv ?_
    refine wp_iload_n C 1 dX12_bests_23 rfl rfl ?_
    refine wp_aload_n C 0 dX12_bests_24 rfl rfl ?_
    refine wp_getI C dX12_bests_25 fX12_bests_158 hM.ob ?_
    refine wp_eqi hI.1.1 ?_
    refine wp_icmp_ge C 79 dX12_bests_28 (by decide) (fun c28 => ?_) (fun c28 => ?_)
    · have c28 : ((A : Nat) : Int) ≤ ((a : Nat) : Int) := by have h := p_le c28; rw [nI_toInt (show A < 2 ^ 31 by omega), nI_toInt (show a < 2 ^ 31 by omega)] at h; exact h
      refine wp_aload_n C 0 dX12_bests_79 rfl rfl ?_
      have haA : a = A := by omega
      subst haA
      have hI1 : MI I1 m ad a B h w (fz a B w) := hI.cg (fun p hp => (fzk_skips (k2 := 80) (by omega) (fun j h1 h2 => by omega) p).trans (if_pos hp))
      refine wp_callV C (As := []) (rest := []) dX12_bests_80 kX12_bests_180 hM.ob (m_solve _ hM hI1) rfl (Nat.le_of_ble_eq_true rfl) (by decide) (by decide) ?_
      rintro _ _ I3 _ _ ⟨v, rfl, rfl, rfl, rfl, hF3, hr⟩
      have hQ := Q4.init hw hr
      change WP E 5 0 0 T I3 J R 83 [(0, .ref m), (1, .int (nI a))] [.int v]
      refine wp_istore_n C [(1, .int v), (0, .ref m)] dX12_bests_83 rfl (by decide) rfl ?_
      refine wp_iconst C 0 dX12_bests_84 (by decide) ?_
      refine wp_istore_n C [(2, .int 0), (1, .int v), (0, .ref m)] dX12_bests_85 rfl (by decide) rfl ?_
      refine wp_lv [2, 1, 0] rfl ?_
      exact decA v hQ.2 0 (by omega) _ _ (hF.fr5 hF3) (hI1.fr5 hM hF3) hQ.1 _ rfl
    · have c28 : ¬ ((A : Nat) : Int) ≤ ((a : Nat) : Int) := by have h := n_le c28; rw [nI_toInt (show A < 2 ^ 31 by omega), nI_toInt (show a < 2 ^ 31 by omega)] at h; exact h
      refine wp_iconst C 0 dX12_bests_31 (by decide) ?_
      refine wp_istore_n C [(2, .int 0), (0, .ref m), (1, .int (nI a))] dX12_bests_32 rfl (by decide) rfl ?_
      refine wp_lv [1, 2, 0] rfl ?_
      exact loopE (by omega) 0 (by omega) _ hF hI _ rfl
  have f0 : ∀ i, i ≤ 80 → ∀ (I1 : gI), Fr6 I I1 ad → (∀ p, p < i → I1 (ad 11) p = nI 0) → ∀ lv, lv_pick lv [0, 1] = [(0, .ref m), (1, .int (nI i))] → WP E 5 0 0 T I1 J R 2 lv [] := by
    refine loopN 80 (fun i hi ih => ?_)
    intro I1 hF hz lv hlv
    refine wp_lv [0, 1] hlv ?_
    refine wp_iload_n C 1 dX12_bests_2 rfl rfl ?_
    refine wp_bipush C 80 dX12_bests_3 (by decide) ?_
    refine wp_icmp_ge C 21 dX12_bests_5 (by decide) (fun c5 => ?_) (fun c5 => ?_)
    · have c5 : 80 ≤ ((i : Nat) : Int) := by have h := p_le c5; rw [nI_toInt (show i < 2 ^ 31 by omega)] at h; exact h
      refine wp_iconst C 0 dX12_bests_21 (by decide) ?_
      refine wp_istore_n C [(1, .int 0), (0, .ref m)] dX12_bests_22 rfl (by decide) rfl ?_
      refine wp_lv [1, 0] rfl ?_
      exact zA 0 (by omega) _ hF ((hS.fr6 hM hF).mi (fun p hp => ⟨hz p (by omega), Nat.zero_le _⟩)) _ rfl
    · have c5 : ¬ 80 ≤ ((i : Nat) : Int) := by have h := n_le c5; rw [nI_toInt (show i < 2 ^ 31 by omega)] at h; exact h
      refine wp_aload_n C 0 dX12_bests_8 rfl rfl ?_
      refine wp_getR C dX12_bests_9 fX12_bests_31 hM.ob (hM.rf 11 rfl) ?_
      refine wp_iload_n C 1 dX12_bests_12 rfl rfl ?_
      refine wp_iconst C 0 dX12_bests_13 (by decide) ?_
      refine wp_iast C dX12_bests_14 (hM.ar 11 rfl rfl) (j := i) rfl (by omega) (by decide) ?_
      refine wp_iinc C 1 (nI (i + 1)) [(1, .int (nI (i + 1))), (0, .ref m)] dX12_bests_15 rfl (nI_1 i) (by decide) rfl ?_
      refine wp_goto C 2 dX12_bests_18 (by decide) ?_
      refine wp_lv [1, 0] rfl ?_
      refine ih (i + 1) (by omega) (by omega) _ (hF.put i _) (fun p hp => ?_) _ rfl
      by_cases e : p = i
      · rw [e, u2_s]; rfl
      · rw [u2_k _ _ _ _ e]; exact hz p (by omega)
  refine wp_iconst C 0 dX12_bests_0 (by decide) ?_
  refine wp_istore_n C [(1, .int 0), (0, .ref m)] dX12_bests_1 rfl (by decide) rfl ?_
  refine wp_lv [1, 0] rfl ?_
  exact f0 0 (by omega) _ (Fr6.rf I ad) (fun p hp => by omega) _ rfl
