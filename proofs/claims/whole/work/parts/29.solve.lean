/-! ===== solve() of the reference ===== -/
def MI (I : gI) (m : Nat) (ad : Nat → Nat) (A B h : Nat) (w fx : Nat → Nat) : Prop := (I m 7 = nI A ∧ A ≤ 8) ∧ (I m 8 = nI B ∧ B ≤ 10) ∧ (I m 9 = nI h ∧ 1 ≤ h ∧ h ≤ 8) ∧ (∀ p, p < 80 → I (ad 10) p = nI (w p) ∧ w p ≤ 100) ∧ (∀ p, p < 80 → I (ad 11) p = nI (fx p) ∧ fx p ≤ 2)
/-- the rows of the search alone have changed -/
def Fr5 (I I' : gI) (ad : Nat → Nat) : Prop := ∀ b, b ≠ ad 12 → b ≠ ad 13 → b ≠ ad 14 → b ≠ ad 15 → b ≠ ad 16 → I' b = I b
/-- the end of solve() -/
def PO (T : gSh) (J : gJ) (R : gR) (I : gI) (ad : Nat → Nat) (A B h : Nat) (w fx : Nat → Nat) : gPost := fun r T' I' J' R' => ∃ v : Int32, r = some (.int v) ∧ T = T' ∧ J = J' ∧ R = R' ∧ Fr5 I I' ad ∧ ((v = -1 ∧ ∀ t, ¬ FS A B h fx t) ∨ (∃ t, FS A B h fx t ∧ v.toInt = totN w t ∧ ∀ t2, FS A B h fx t2 → totN w t2 ≤ totN w t))
theorem nI_nat {x : Int32} (h : 0 ≤ x.toInt) : x = nI x.toInt.toNat := by
  have h2 : x.toInt.toNat < 2 ^ 31 := by have := Int32.toInt_lt x; omega
  refine (i_eq _ _).mpr ?_
  rw [nI_toInt h2]; omega
theorem pred_T {X : Nat} (h : X < 1000) : (nI X - 1).toInt = (X : Int) - 1 := pk_sub_toInt (a := X) (b := 1) (by omega) (by omega)
/-- the selection of the best end of a way -/
def Sel (el : Nat → Nat) (f : Nat → Int32) (e : Nat) (v : Int32) : Prop := (v = -1 ∧ ∀ k, k < e → 0 < el k → (f (8 + k)).toInt ≤ 0) ∨ (∃ l, v = nI l ∧ l < e ∧ 0 < el l ∧ 0 < (f (8 + l)).toInt ∧ ∀ k, k < e → 0 < el k → (f (8 + k)).toInt ≤ (f (8 + l)).toInt)
/-- what holds between two ways: the fixed pairs, the set met, what is left, its potentials -/
def SoI (A B h : Nat) (w fx mt al el : Nat → Nat) (π : Nat → Int) (b : Int) (S : Nat) : Prop := (∀ p, p < 80 → mt p ≤ 1 ∧ (mt p = 1 → okM A B fx p)) ∧ (∀ y, y < A → al y + cnt mt y + cnt (bs A B fx A 0) y = h) ∧ (∀ y, y < B → el y + cnt mt (8 + y) + cnt (bs A B fx A 0) (8 + y) = h) ∧ (∀ y, y < 18 → cnt (bs A B fx A 0) y ≤ h) ∧ (S : Int) = totN w (bs A B fx A 0) + totN w mt ∧ PV A B w fx mt al el π b
theorem cnt_off {A B : Nat} {fx c : Nat → Nat} (hA : A ≤ 8) (hB : B ≤ 10) (hc : ∀ p, p < 80 → c p ≤ 1 ∧ (c p = 1 → okM A B fx p)) {y : Nat} (hy : y < 18) (hn : (y < 8 ∧ A ≤ y) ∨ (8 + B ≤ y)) : cnt c y = 0 := by
  rcases Nat.eq_zero_or_pos (cnt c y) with q | q
  · exact q
  · exfalso
    rcases hn with hn | hn
    · obtain ⟨e, he, k⟩ := cnt_exA hn.1 q
      have z := hc (10 * y + e) (by omega)
      have := (z.2 (by omega)).1; omega
    · obtain ⟨e, rfl⟩ : ∃ e, y = 8 + e := ⟨y - 8, by omega⟩
      obtain ⟨a, ha, k⟩ := cnt_exE q
      have z := hc (10 * a + e) (by omega)
      have := (z.2 (by omega)).2.1; omega
/-- at the end the set met and the fixed pairs are best -/
theorem SoI.fin {A B h : Nat} {w fx mt al el : Nat → Nat} {π : Nat → Int} {b : Int} {S : Nat} {f fr : Nat → Int32} (hA : A ≤ 8) (hB : B ≤ 10) (hfx : ∀ p, p < 80 → fx p ≤ 2) (H : SoI A B h w fx mt al el π b S) (SM' : SM A B w fx mt al π f fr) (cl : ∀ u v g, rdM f u → ArcM A B w fx mt al u v g → rdM f v ∧ DM f u + g ≤ DM f v) (hs : ∀ k, k < B → 0 < el k → (f (8 + k)).toInt ≤ 0) : ∃ t, FS A B h fx t ∧ (S : Int) = totN w t ∧ ∀ t2, FS A B h fx t2 → totN w t2 ≤ totN w t := by
  obtain ⟨h1, h2, h3, h4, h5, h6⟩ := H
  obtain ⟨ψ, hψ, -⟩ := h6.next hA hB SM' cl (L := 0) (Int.le_refl _) h6.2.1 (fun e he hq hr => by
    unfold DM; rw [if_neg (by omega)]; exact hs e he hq)
  have k := FS.best (w := w) (h := h) hA hB hfx h1 (fun y hy => by
    by_cases q1 : y < A
    · have := h2 y q1; omega
    · by_cases q2 : 8 ≤ y ∧ y < 8 + B
      · have := h3 (y - 8) (by omega); rw [show 8 + (y - 8) = y by omega] at this; omega
      · have z := cnt_off hA hB h1 hy (by omega)
        have := h4 y hy; omega) (fun t ht hc => hψ.best hA hB (capA := fun y => al y + cnt mt y) (capE := fun y => el y + cnt mt (8 + y)) h1 (fun _ _ => rfl) (fun _ _ => rfl) ht (fun y hy => by have := hc y (by omega); have := h2 y hy; omega) (fun y hy => by have := hc (8 + y) (by omega); have := h3 y hy; omega))
  exact ⟨_, k.1, by rw [k.2.1]; exact h5, k.2.2⟩
theorem SoI.init {A B h : Nat} {w fx al el : Nat → Nat} {S : Nat} (hw : ∀ p, p < 80 → w p ≤ 100) (hA : A ≤ 8) (hB : B ≤ 10) (hal : ∀ y, y < A → al y + cnt (bs A B fx A 0) y = h) (hel : ∀ y, y < B → el y + cnt (bs A B fx A 0) (8 + y) = h) (hc : ∀ y, y < 18 → cnt (bs A B fx A 0) y ≤ h) (hS : (S : Int) = totN w (bs A B fx A 0)) : SoI A B h w fx (fun _ => 0) al el (fun v => if v < 8 then 0 else if v = 18 then 0 else 100) 100 S := by
  refine ⟨fun p hp => ⟨Nat.zero_le 1, fun q => absurd (show (0 : Nat) = 1 from q) (by decide)⟩, fun y hy => by rw [cnt_z]; exact hal y hy, fun y hy => by rw [cnt_z]; exact hel y hy, hc, by rw [totN_z]; omega, ?_, by omega, fun a e ha he hf => ⟨fun _ => ?_, fun q => absurd (show (0 : Nat) = 1 from q) (by decide)⟩, fun a ha => ⟨fun _ => ?_, fun q => ?_⟩, fun e he => ⟨fun _ => ?_, fun q => ?_⟩⟩
  · simp
  · have := hw (10 * a + e) (by omega)
    simp only [if_pos (show a < 8 by omega), if_neg (show ¬ 8 + e < 8 by omega), if_neg (show ¬ 8 + e = 18 by omega)]
    omega
  · simp only [if_pos (show a < 8 by omega)]; omega
  · rw [cnt_z] at q; omega
  · simp only [if_neg (show ¬ 8 + e < 8 by omega), if_neg (show ¬ 8 + e = 18 by omega)]; omega
  · rw [cnt_z] at q; omega
set_option maxRecDepth 100000 in
set_option maxHeartbeats 4000000 in
theorem m_solve (l : Launch) {T : gSh} {I : gI} {J : gJ} {R : gR} {m : Nat} {ad : Nat → Nat} (hM : MO T R m ad) {A B h : Nat} {w fx : Nat → Nat} (hS : MI I m ad A B h w fx) : Con l yX12_solve wsX12_solve ({ frames := 1, cells := 0, slots := 0, locals := 25 }) [.ref m] T I J R (PO T J R I ad A B h w fx) := by
  refine Con.mk (cc := cX12_solve) (maxL := 5) (ret := (some .int)) (by decide) rfl (Nat.le_of_ble_eq_true rfl) ?_
  intro E hE C Z hnm
  subst hE
  change WP E 5 0 0 T I J R 0 [(0, .ref m)] []
  have hA8 := hS.1.2
  have hB10 := hS.2.1.2
  have hh := hS.2.2.1.2
  have hfx : ∀ p, p < 80 → fx p ≤ 2 := fun p hp => (hS.2.2.2.2 p hp).2
  have hw : ∀ p, p < 80 → w p ≤ 100 := fun p hp => (hS.2.2.2.1 p hp).2
  have main : ∀ (k : Nat) (I1 : gI) (mt al el : Nat → Nat) (π : Nat → Int) (b : Int) (S l0 : Nat), smN el B ≤ k → l0 < 10 → Fr5 I I1 ad → MS I1 m ad A B w fx mt al el → SoI A B h w fx mt al el π b S → ∀ lv, lv_pick lv [0, 1, 2] = [(0, .ref m), (1, .int (nI S)), (2, .int (nI l0))] → WP E 5 0 0 T I1 J R 168 lv [] := by
    intro k
    induction k using Nat.strongRecOn with
    | ind k ihk =>
    intro I1 mt al el π b S l0 hk hl0 hF1 hM1 hI lv hlv
    refine wp_lv [0, 1, 2] hlv ?_
    refine wp_iload_n C 2 dX12_solve_168 rfl rfl ?_
    refine wp_if_lt C 257 dX12_solve_169 (by decide) (fun c169 => ?_) (fun c169 => ?_)
    · exact absurd c169 (nI_pos (by omega))
    · refine wp_aload_n C 0 dX12_solve_172 rfl rfl ?_
      refine wp_callV C (As := []) (rest := []) dX12_solve_173 kX12_solve_174 hM.ob (m_ways _ hM hM1 hI.2.2.2.2.2.arc (hI.2.2.2.2.2.used hA8 hB10) (fun v h1 h2 => by rw [hI.2.2.2.2.2.1]; exact (hI.2.2.2.2.2.2.2.2.1 v h1).1 h2)) rfl (Nat.le_of_ble_eq_true rfl) (by decide) (by decide) ?_
      rintro _ _ _ _ _ ⟨rfl, rfl, rfl, rfl, f, fr, rfl, hV, cl⟩
      have hF2 : Fr5 I (rmI I1 ad f fr) ad := fun b h1 h2 h3 h4 h5 => by unfold rmI; rw [vu_n _ _ h5, vu_n _ _ h4]; exact hF1 b h1 h2 h3 h4 h5
      have hM2 : MS (rmI I1 ad f fr) m ad A B w fx mt al el := ⟨⟨(congrFun (rmI_m hM) 7).trans hM1.1.1, hM1.1.2⟩, ⟨(congrFun (rmI_m hM) 8).trans hM1.2.1.1, hM1.2.1.2⟩, fun p hp => ⟨(congrFun (rmI_o hM 10 rfl (by decide) (by decide)) _).trans (hM1.2.2.1 p hp).1, (hM1.2.2.1 p hp).2⟩, fun p hp => ⟨(congrFun (rmI_o hM 11 rfl (by decide) (by decide)) _).trans (hM1.2.2.2.1 p hp).1, (hM1.2.2.2.1 p hp).2⟩, fun a e h1 h2 => ⟨(congrFun (rmI_o hM 12 rfl (by decide) (by decide)) _).trans (hM1.2.2.2.2.1 a e h1 h2).1, (hM1.2.2.2.2.1 a e h1 h2).2⟩, fun a ha => ⟨(congrFun (rmI_o hM 13 rfl (by decide) (by decide)) _).trans (hM1.2.2.2.2.2.1 a ha).1, (hM1.2.2.2.2.2.1 a ha).2⟩, fun e he => ⟨(congrFun (rmI_o hM 14 rfl (by decide) (by decide)) _).trans (hM1.2.2.2.2.2.2 e he).1, (hM1.2.2.2.2.2.2 e he).2⟩⟩
      change WP E 5 0 0 T (rmI I1 ad f fr) J R 176 [(0, .ref m), (1, .int (nI S)), (2, .int (nI l0))] []
      have sel : ∀ e, e ≤ B → ∀ lv0 : Int32, Sel el f e lv0 → ∀ lv, lv_pick lv [0, 1, 2, 3] = [(0, .ref m), (1, .int (nI S)), (2, .int lv0), (3, .int (nI e))] → WP E 5 0 0 T (rmI I1 ad f fr) J R 180 lv [] := by
        refine loopN B (fun e he ih => ?_)
        intro lv0 hsel lv hlv
        refine wp_lv [0, 1, 2, 3] hlv ?_
        refine wp_iload_n C 3 dX12_solve_180 rfl rfl ?_
        refine wp_aload_n C 0 dX12_solve_181 rfl rfl ?_
        refine wp_getI C dX12_solve_182 fX12_solve_161 hM.ob ?_
        refine wp_eqi hM2.2.1.1 ?_
        refine wp_icmp_ge C 242 dX12_solve_185 (by decide) (fun c185 => ?_) (fun c185 => ?_)
        · have c185 : ((B : Nat) : Int) ≤ ((e : Nat) : Int) := by have h := p_le c185; rw [nI_toInt (show B < 2 ^ 31 by omega), nI_toInt (show e < 2 ^ 31 by omega)] at h; exact h
          have heB : e = B := by omega
          rcases hsel with ⟨rfl, hz⟩ | ⟨l, rfl, hl1, hl2, hl3, hl4⟩
          · change WP E 5 0 0 T (rmI I1 ad f fr) J R 242 [(0, .ref m), (1, .int (nI S)), (2, .int (-1)), (3, .int (nI e))] []
            refine wp_iload_n C 2 dX12_solve_242 rfl rfl ?_
            refine wp_if_lt C 168 dX12_solve_243 (by decide) (fun c243 => ?_) (fun c243 => ?_)
            · refine wp_iload_n C 2 dX12_solve_168 rfl rfl ?_
              refine wp_if_lt C 257 dX12_solve_169 (by decide) (fun c169 => ?_) (fun c169 => ?_)
              · refine wp_iload_n C 1 dX12_solve_257 rfl rfl ?_
                obtain ⟨t, t1, t2, t3⟩ := hI.fin hA8 hB10 hfx hV cl (fun k hk hq => hz k (by omega) hq)
                have bd := totN_bd hw (fun p hp => (t1.1 p hp).1)
                exact wp_iret C Z dX12_solve_258 (by decide) (by decide) ⟨_, rfl, rfl, rfl, rfl, hF2, Or.inr ⟨t, t1, by rw [nI_toInt (by omega)]; exact t2, t3⟩⟩
              · exact absurd (by decide) c169
            · exact absurd (by decide) c243
          · change WP E 5 0 0 T (rmI I1 ad f fr) J R 242 [(0, .ref m), (1, .int (nI S)), (2, .int (nI l)), (3, .int (nI e))] []
            refine wp_iload_n C 2 dX12_solve_242 rfl rfl ?_
            refine wp_if_lt C 168 dX12_solve_243 (by decide) (fun c243 => ?_) (fun c243 => ?_)
            · exact absurd c243 (nI_pos (by omega))
            · refine wp_iload_n C 1 dX12_solve_246 rfl rfl ?_
              refine wp_aload_n C 0 dX12_solve_247 rfl rfl ?_
              refine wp_iload_n C 2 dX12_solve_248 rfl rfl ?_
              have fl0 : 0 < (f (8 + l)).toInt := hl3
              have rl : rdM f (8 + l) := Or.inr ⟨by omega, fun q => by rw [q] at hl3; exact absurd hl3 (by decide)⟩
              have dl : DM f (8 + l) = (f (8 + l)).toInt := if_neg (by omega)
              have db := hV.1.2.2.1 _ rl
              have p18 := hI.2.2.2.2.2.1
              have pb := (hI.2.2.2.2.2.2.2.2.2 l (by omega)).1 hl2
              obtain ⟨ψ, hP, gψ⟩ := hI.2.2.2.2.2.next hA8 hB10 hV cl (L := (f (8 + l)).toInt) (by omega) (by omega) (fun k hk hq _ => by unfold DM; rw [if_neg (by omega)]; exact hl4 k (by omega) hq)
              have eL : ψ (8 + l) = (f (8 + l)).toInt := by have z1 := gψ _ rl; have z2 := (hP.2.2.2.2 l (by omega)).1 hl2; omega
              obtain ⟨n, hWm, hn2⟩ := WM_of hA8 hB10 hV cl hP gψ rl (by omega) (by omega)
              refine wp_callV C (As := [.int (nI l)]) (rest := [.int (nI S)]) dX12_solve_249 kX12_solve_177 hM.ob (m_goes _ hM hM2 (x := fun j => It (bM al fr) j (8 + l)) (n := n) (by rw [rmI_fr]; exact hWm) hn2 rfl (by omega) hl2 hP eL hI.1 (fun a h1 h2 => (congrFun (rmI_f hM) _).trans (hV.2.2.1 a h1 h2))) rfl (Nat.le_of_ble_eq_true rfl) (by decide) (by decide) ?_
              rintro _ _ I3 _ _ ⟨rfl, rfl, rfl, rfl, hF3, s, mt2, ⟨sA, s0⟩, hM3, g1, g2, g3, g4, g5⟩
              change WP E 5 0 0 T I3 J R 252 [(0, .ref m), (1, .int (nI S)), (2, .int (nI l)), (3, .int (nI e))] [.int (rmI I1 ad f fr (ad 15) (8 + l)), .int (nI S)]
              rw [rmI_f hM]
              refine wp_eqi (nI_nat (by omega)) ?_
              refine wp_iadd C dX12_solve_252 ?_
              refine wp_eqi (nI_add S ((f (8 + l)).toInt.toNat)) ?_
              refine wp_istore_n C [(1, .int (nI (S + ((f (8 + l)).toInt.toNat)))), (0, .ref m), (2, .int (nI l)), (3, .int (nI e))] dX12_solve_253 rfl (by decide) rfl ?_
              refine wp_goto C 168 dX12_solve_254 (by decide) ?_
              refine wp_lv [1, 0, 2] rfl ?_
              have hdec : smN (fun y => if y = l then el y - 1 else el y) B + 1 ≤ smN el B := by
                have q := smN_at (f := fun y => if y = l then el y - 1 else el y) (g := el) (n := B) (j := l) (by omega) (fun k _ hk => if_neg hk)
                rw [if_pos rfl] at q; omega
              have bl0 := totN_bd hw (fun p hp => bs_le A B fx A 0 p)
              have bm0 := totN_bd hw (fun p hp => (hI.1 p hp).1)
              refine ihk _ (by omega : smN (fun y => if y = l then el y - 1 else el y) B < k) I3 mt2 _ _ ψ (f (8 + l)).toInt (S + (f (8 + l)).toInt.toNat) l (Nat.le_refl _) (by omega) (fun b h1 h2 h3 h4 h5 => (hF3 b h1 h2 h3).trans (hF2 b h1 h2 h3 h4 h5)) hM3 ⟨g1, fun y hy => ?_, fun y hy => ?_, hI.2.2.2.1, ?_, g5⟩ _ rfl
              · have z := hI.2.1 y hy
                rw [g2 y (by omega)]
                dsimp only
                by_cases q : y = s
                · subst q; rw [if_pos rfl, if_pos rfl]; omega
                · rw [if_neg q, if_neg q]; omega
              · have z := hI.2.2.1 y hy
                rw [g3 y (by omega)]
                dsimp only
                by_cases q : y = l
                · subst q; rw [if_pos rfl, if_pos rfl]; omega
                · rw [if_neg q, if_neg q]; omega
              · rw [g4]; have z := hI.2.2.2.2.1; omega
        · have c185 : ¬ ((B : Nat) : Int) ≤ ((e : Nat) : Int) := by have h := n_le c185; rw [nI_toInt (show B < 2 ^ 31 by omega), nI_toInt (show e < 2 ^ 31 by omega)] at h; exact h
          refine wp_aload_n C 0 dX12_solve_188 rfl rfl ?_
          refine wp_getR C dX12_solve_189 fX12_solve_41 hM.ob (hM.rf 14 rfl) ?_
          refine wp_iload_n C 3 dX12_solve_192 rfl rfl ?_
          refine wp_iald C dX12_solve_193 (hM.ar 14 rfl rfl) (j := e) rfl (by omega) (by decide) ?_
          refine wp_eqi (hM2.2.2.2.2.2.2 _ (by omega)).1 ?_
          have be := (hM2.2.2.2.2.2.2 e (by omega)).2
          refine wp_if_le C 236 dX12_solve_194 (by decide) (fun c194 => ?_) (fun c194 => ?_)
          · have c194 : ((el e : Nat) : Int) ≤ 0 := by have h := p_le c194; rw [nI_toInt (show el e < 2 ^ 31 by omega)] at h; exact h
            refine wp_iinc C 3 (nI (e + 1)) [(3, .int (nI (e + 1))), (0, .ref m), (1, .int (nI S)), (2, .int lv0)] dX12_solve_236 rfl (nI_1 e) (by decide) rfl ?_
            refine wp_goto C 180 dX12_solve_239 (by decide) ?_
            refine wp_lv [1, 2, 3, 0] rfl ?_
            refine ih (e + 1) (by omega) (by omega) lv0 ?_ _ rfl
            rcases hsel with z | ⟨l, z1, z2, z3, z4, z5⟩
            · refine Or.inl ⟨z.1, fun k h1 h2 => ?_⟩
              by_cases q : k = e
              · subst q; omega
              · exact z.2 k (by omega) h2
            · refine Or.inr ⟨l, z1, by omega, z3, z4, fun k h1 h2 => ?_⟩
              by_cases q : k = e
              · subst q; omega
              · exact z5 k (by omega) h2
          · have c194 : ¬ ((el e : Nat) : Int) ≤ 0 := by have h := n_le c194; rw [nI_toInt (show el e < 2 ^ 31 by omega)] at h; exact h
            refine wp_aload_n C 0 dX12_solve_197 rfl rfl ?_
            refine wp_getR C dX12_solve_198 fX12_solve_44 hM.ob (hM.rf 15 rfl) ?_
            refine wp_bipush C 8 dX12_solve_201 (by decide) ?_
            refine wp_iload_n C 3 dX12_solve_203 rfl rfl ?_
            refine wp_iadd C dX12_solve_204 ?_
            refine wp_eqi (nI_add 8 e) ?_
            refine wp_iald C dX12_solve_205 (hM.ar 15 rfl rfl) (j := 8 + e) rfl (by omega) (by decide) ?_
            refine wp_eqi (congrFun (rmI_f hM) _) ?_
            refine wp_if_le C 236 dX12_solve_206 (by decide) (fun c206 => ?_) (fun c206 => ?_)
            · have c206 : (f (8 + e)).toInt ≤ 0 := by have h := p_le c206; exact h
              refine wp_iinc C 3 (nI (e + 1)) [(3, .int (nI (e + 1))), (0, .ref m), (1, .int (nI S)), (2, .int lv0)] dX12_solve_236 rfl (nI_1 e) (by decide) rfl ?_
              refine wp_goto C 180 dX12_solve_239 (by decide) ?_
              refine wp_lv [1, 2, 3, 0] rfl ?_
              refine ih (e + 1) (by omega) (by omega) lv0 ?_ _ rfl
              rcases hsel with z | ⟨l, z1, z2, z3, z4, z5⟩
              · refine Or.inl ⟨z.1, fun k h1 h2 => ?_⟩
                by_cases q : k = e
                · subst q; omega
                · exact z.2 k (by omega) h2
              · refine Or.inr ⟨l, z1, by omega, z3, z4, fun k h1 h2 => ?_⟩
                by_cases q : k = e
                · subst q; omega
                · exact z5 k (by omega) h2
            · have c206 : ¬ (f (8 + e)).toInt ≤ 0 := by have h := n_le c206; exact h
              refine wp_iload_n C 2 dX12_solve_209 rfl rfl ?_
              refine wp_if_lt C 234 dX12_solve_210 (by decide) (fun c210 => ?_) (fun c210 => ?_)
              · refine wp_iload_n C 3 dX12_solve_234 rfl rfl ?_
                refine wp_istore_n C [(2, .int (nI e)), (0, .ref m), (1, .int (nI S)), (3, .int (nI e))] dX12_solve_235 rfl (by decide) rfl ?_
                refine wp_iinc C 3 (nI (e + 1)) [(3, .int (nI (e + 1))), (2, .int (nI e)), (0, .ref m), (1, .int (nI S))] dX12_solve_236 rfl (nI_1 e) (by decide) rfl ?_
                refine wp_goto C 180 dX12_solve_239 (by decide) ?_
                refine wp_lv [2, 3, 1, 0] rfl ?_
                refine ih (e + 1) (by omega) (by omega) (nI e) (Or.inr ⟨e, rfl, by omega, by omega, by omega, fun k h1 h2 => ?_⟩) _ rfl
                by_cases q : k = e
                · subst q; exact Int.le_refl _
                · first
                  | (have := hl4 k (by omega) h2; omega)
                  | (rcases hsel with z | ⟨l, z1, z2, z3, z4, z5⟩
                     · have := z.2 k (by omega) h2; omega
                     · exact absurd c210 (by rw [z1]; exact nI_pos (by omega)))
              · obtain ⟨l, rfl, hl1, hl2, hl3, hl4⟩ := hsel.resolve_left (fun q => c210 (by rw [q.1]; decide))
                refine wp_aload_n C 0 dX12_solve_213 rfl rfl ?_
                refine wp_getR C dX12_solve_214 fX12_solve_44 hM.ob (hM.rf 15 rfl) ?_
                refine wp_bipush C 8 dX12_solve_217 (by decide) ?_
                refine wp_iload_n C 3 dX12_solve_219 rfl rfl ?_
                refine wp_iadd C dX12_solve_220 ?_
                refine wp_eqi (nI_add 8 e) ?_
                refine wp_iald C dX12_solve_221 (hM.ar 15 rfl rfl) (j := 8 + e) rfl (by omega) (by decide) ?_
                refine wp_eqi (congrFun (rmI_f hM) _) ?_
                refine wp_aload_n C 0 dX12_solve_222 rfl rfl ?_
                refine wp_getR C dX12_solve_223 fX12_solve_44 hM.ob (hM.rf 15 rfl) ?_
                refine wp_bipush C 8 dX12_solve_226 (by decide) ?_
                refine wp_iload_n C 2 dX12_solve_228 rfl rfl ?_
                refine wp_iadd C dX12_solve_229 ?_
                refine wp_eqi (nI_add 8 l) ?_
                refine wp_iald C dX12_solve_230 (hM.ar 15 rfl rfl) (j := 8 + l) rfl (by omega) (by decide) ?_
                refine wp_eqi (congrFun (rmI_f hM) _) ?_
                refine wp_icmp_le C 236 dX12_solve_231 (by decide) (fun c231 => ?_) (fun c231 => ?_)
                · have c231 : (f (8 + e)).toInt ≤ (f (8 + l)).toInt := by have h := p_le c231; exact h
                  refine wp_iinc C 3 (nI (e + 1)) [(3, .int (nI (e + 1))), (0, .ref m), (1, .int (nI S)), (2, .int (nI l))] dX12_solve_236 rfl (nI_1 e) (by decide) rfl ?_
                  refine wp_goto C 180 dX12_solve_239 (by decide) ?_
                  refine wp_lv [1, 2, 3, 0] rfl ?_
                  refine ih (e + 1) (by omega) (by omega) (nI l) (Or.inr ⟨l, rfl, by omega, hl2, hl3, fun k h1 h2 => ?_⟩) _ rfl
                  by_cases q : k = e
                  · subst q; omega
                  · exact hl4 k (by omega) h2
                · have c231 : ¬ (f (8 + e)).toInt ≤ (f (8 + l)).toInt := by have h := n_le c231; exact h
                  refine wp_iload_n C 3 dX12_solve_234 rfl rfl ?_
                  refine wp_istore_n C [(2, .int (nI e)), (0, .ref m), (1, .int (nI S)), (3, .int (nI e))] dX12_solve_235 rfl (by decide) rfl ?_
                  refine wp_iinc C 3 (nI (e + 1)) [(3, .int (nI (e + 1))), (2, .int (nI e)), (0, .ref m), (1, .int (nI S))] dX12_solve_236 rfl (nI_1 e) (by decide) rfl ?_
                  refine wp_goto C 180 dX12_solve_239 (by decide) ?_
                  refine wp_lv [2, 3, 1, 0] rfl ?_
                  refine ih (e + 1) (by omega) (by omega) (nI e) (Or.inr ⟨e, rfl, by omega, by omega, by omega, fun k h1 h2 => ?_⟩) _ rfl
                  by_cases q : k = e
                  · subst q; exact Int.le_refl _
                  · first
                    | (have := hl4 k (by omega) h2; omega)
                    | (rcases hsel with z | ⟨l, z1, z2, z3, z4, z5⟩
                       · have := z.2 k (by omega) h2; omega
                       · exact absurd c210 (by rw [z1]; exact nI_pos (by omega)))
      refine wp_iconst C (-1) dX12_solve_176 (by decide) ?_
      refine wp_istore_n C [(2, .int (-1)), (0, .ref m), (1, .int (nI S))] dX12_solve_177 rfl (by decide) rfl ?_
      refine wp_iconst C 0 dX12_solve_178 (by decide) ?_
      refine wp_istore_n C [(3, .int 0), (2, .int (-1)), (0, .ref m), (1, .int (nI S))] dX12_solve_179 rfl (by decide) rfl ?_
      refine wp_lv [2, 3, 1, 0] rfl ?_
      exact sel 0 (by omega) (-1) (Or.inl ⟨rfl, fun k hk => by omega⟩) _ rfl
  have loopA : ∀ a, a ≤ A → ∀ (I1 : gI) (S : Nat), Fr5 I I1 ad → (∀ y, y < A → I1 (ad 13) y = nI (h - cnt (bs A B fx a 0) y)) → (∀ y, y < B → I1 (ad 14) y = nI (h - cnt (bs A B fx a 0) (8 + y))) → (∀ y, y < 18 → cnt (bs A B fx a 0) y ≤ h) → (∀ a2 e2, a2 < A → e2 < B → (a2 < a ∨ (a2 = a ∧ e2 < 0)) → I1 (ad 12) (10 * a2 + e2) = 0) → (S : Int) = totN w (bs A B fx a 0) → ∀ lv, lv_pick lv [0, 1, 2] = [(0, .ref m), (1, .int (nI S)), (2, .int (nI a))] → WP E 5 0 0 T I1 J R 56 lv [] := by
    refine loopN A (fun a ha iha => ?_)
    intro I1 S hF1 hal hel hcn hmz hSS lv hlv
    refine wp_lv [0, 1, 2] hlv ?_
    have loopE : a < A → ∀ e, e ≤ B → ∀ (I1 : gI) (S : Nat), Fr5 I I1 ad → (∀ y, y < A → I1 (ad 13) y = nI (h - cnt (bs A B fx a e) y)) → (∀ y, y < B → I1 (ad 14) y = nI (h - cnt (bs A B fx a e) (8 + y))) → (∀ y, y < 18 → cnt (bs A B fx a e) y ≤ h) → (∀ a2 e2, a2 < A → e2 < B → (a2 < a ∨ (a2 = a ∧ e2 < e)) → I1 (ad 12) (10 * a2 + e2) = 0) → (S : Int) = totN w (bs A B fx a e) → ∀ lv, lv_pick lv [0, 1, 2, 3] = [(0, .ref m), (1, .int (nI S)), (2, .int (nI a)), (3, .int (nI e))] → WP E 5 0 0 T I1 J R 66 lv [] := by
      intro haA
      refine loopN B (fun e he ihe => ?_)
      intro I1 S hF1 hal hel hcn hmz hSS lv hlv
      refine wp_lv [0, 1, 2, 3] hlv ?_
      refine wp_iload_n C 3 dX12_solve_66 rfl rfl ?_
      refine wp_aload_n C 0 dX12_solve_67 rfl rfl ?_
      refine wp_getI C dX12_solve_68 fX12_solve_161 hM.ob ?_
      refine wp_eqi ((congrFun (hF1 m (Ne.symm (hM.nm 12 rfl)) (Ne.symm (hM.nm 13 rfl)) (Ne.symm (hM.nm 14 rfl)) (Ne.symm (hM.nm 15 rfl)) (Ne.symm (hM.nm 16 rfl))) 8).trans hS.2.1.1) ?_
      refine wp_icmp_ge C 160 dX12_solve_71 (by decide) (fun c71 => ?_) (fun c71 => ?_)
      · have c71 : ((B : Nat) : Int) ≤ ((e : Nat) : Int) := by have h := p_le c71; rw [nI_toInt (show B < 2 ^ 31 by omega), nI_toInt (show e < 2 ^ 31 by omega)] at h; exact h
        refine wp_iinc C 2 (nI (a + 1)) [(2, .int (nI (a + 1))), (0, .ref m), (1, .int (nI S)), (3, .int (nI e))] dX12_solve_160 rfl (nI_1 a) (by decide) rfl ?_
        refine wp_goto C 56 dX12_solve_163 (by decide) ?_
        have heB : e = B := by omega
        subst heB
        refine wp_lv [1, 2, 0] rfl ?_
        refine iha (a + 1) (by omega) (by omega) I1 S hF1 (fun y hy => by rw [← bs_row]; exact hal y hy) (fun y hy => by rw [← bs_row]; exact hel y hy) (fun y hy => by rw [← bs_row]; exact hcn y hy) (fun a2 e2 h1 h2 h3 => hmz a2 e2 h1 h2 (by omega)) (by rw [← bs_row]; exact hSS) _ rfl
      · have c71 : ¬ ((B : Nat) : Int) ≤ ((e : Nat) : Int) := by have h := n_le c71; rw [nI_toInt (show B < 2 ^ 31 by omega), nI_toInt (show e < 2 ^ 31 by omega)] at h; exact h
        refine wp_bipush C 10 dX12_solve_74 (by decide) ?_
        refine wp_iload_n C 2 dX12_solve_76 rfl rfl ?_
        refine wp_imul C dX12_solve_77 ?_
        refine wp_eqi (pk_mul 10 a) ?_
        refine wp_iload_n C 3 dX12_solve_78 rfl rfl ?_
        refine wp_iadd C dX12_solve_79 ?_
        refine wp_eqi (nI_add (10 * a) e) ?_
        have bx := hfx (10 * a + e) (by omega)
        have bw := hw (10 * a + e) (by omega)
        have bt := totN_bd hw (fun p hp => bs_le A B fx a e p)
        refine wp_istore C [(4, .int (nI ((10 * a) + e))), (0, .ref m), (1, .int (nI S)), (2, .int (nI a)), (3, .int (nI e))] dX12_solve_80 (by decide) rfl ?_
        refine wp_aload_n C 1 dX12_solve_82 rfl rfl ?_
        refine wp_getR C dX12_solve_83 fX12_solve_34 hM.ob (hM.rf 12 rfl) ?_
        refine wp_iload C 0 dX12_solve_86 rfl ?_
        refine wp_iconst C 0 dX12_solve_88 (by decide) ?_
        refine wp_zast C dX12_solve_89 (hM.ar 12 rfl rfl) (j := (10 * a) + e) rfl (by omega) (by decide) (by decide) ?_
        refine wp_aload_n C 1 dX12_solve_90 rfl rfl ?_
        refine wp_getR C dX12_solve_91 fX12_solve_31 hM.ob (hM.rf 11 rfl) ?_
        refine wp_iload C 0 dX12_solve_94 rfl ?_
        refine wp_iald C dX12_solve_96 (hM.ar 11 rfl rfl) (j := (10 * a) + e) rfl (by omega) (by decide) ?_
        refine wp_eqi ((u2_a _ _ _ _ (hM.ne 11 12 rfl rfl (by decide)) _).trans ((congrFun (hF1 (ad 11) (hM.ne 11 12 rfl rfl (by decide)) (hM.ne 11 13 rfl rfl (by decide)) (hM.ne 11 14 rfl rfl (by decide)) (hM.ne 11 15 rfl rfl (by decide)) (hM.ne 11 16 rfl rfl (by decide))) _).trans (hS.2.2.2.2 _ (by omega)).1)) ?_
        refine wp_iconst C 1 dX12_solve_97 (by decide) ?_
        refine wp_icmp_eq C 104 dX12_solve_98 (by decide) (fun c98 => ?_) (fun c98 => ?_)
        · have c98 : ((fx ((10 * a) + e) : Nat) : Int) = 1 := by have h := p_eq c98; rw [nI_toInt (show fx ((10 * a) + e) < 2 ^ 31 by omega)] at h; exact h
          obtain ⟨XA, eXA⟩ : ∃ X, X = h - cnt (bs A B fx a e) a := ⟨_, rfl⟩
          obtain ⟨XE, eXE⟩ : ∃ X, X = h - cnt (bs A B fx a e) (8 + e) := ⟨_, rfl⟩
          have hXA : I1 (ad 13) a = nI XA := by rw [eXA]; exact hal a haA
          have hXE : I1 (ad 14) e = nI XE := by rw [eXE]; exact hel e (by omega)
          have cA := hcn a (by omega)
          have cE := hcn (8 + e) (by omega)
          have pA := pred_T (X := XA) (by omega)
          have pE := pred_T (X := XE) (by omega)
          obtain ⟨bi, bz⟩ := bs_in (A := A) (B := B) (fx := fx) haA (show e < B by omega) hB10 (by omega)
          have cf : ∀ y, y < 18 → cnt (bs A B fx a (e + 1)) y = cnt (bs A B fx a e) y + (if y = a ∨ y = 8 + e then 1 else 0) := fun y hy => by
            have m1 := (cnt_fli (c := bs A B fx a e) (p := 10 * a + e) (n := y) (by omega) hy (by omega)).1
            rw [bi, m1, bz]; unfold tdg; rw [show (10 * a + e) / 10 = a by omega, show (10 * a + e) % 10 = e by omega, if_pos rfl]
            by_cases q : y = a ∨ y = 8 + e
            · rw [if_pos q, if_pos q]
            · rw [if_neg q, if_neg q]; rfl
          have tf : totN w (bs A B fx a (e + 1)) = totN w (bs A B fx a e) + (w (10 * a + e) : Int) := by rw [bi, totN_fli (by omega) (by omega), bz]; simp
          refine wp_iload_n C 2 dX12_solve_104 rfl rfl ?_
          refine wp_aload_n C 1 dX12_solve_105 rfl rfl ?_
          refine wp_getR C dX12_solve_106 fX12_solve_28 hM.ob (hM.rf 10 rfl) ?_
          refine wp_iload C 0 dX12_solve_109 rfl ?_
          refine wp_iald C dX12_solve_111 (hM.ar 10 rfl rfl) (j := (10 * a) + e) rfl (by omega) (by decide) ?_
          refine wp_eqi ((u2_a _ _ _ _ (hM.ne 10 12 rfl rfl (by decide)) _).trans ((congrFun (hF1 (ad 10) (hM.ne 10 12 rfl rfl (by decide)) (hM.ne 10 13 rfl rfl (by decide)) (hM.ne 10 14 rfl rfl (by decide)) (hM.ne 10 15 rfl rfl (by decide)) (hM.ne 10 16 rfl rfl (by decide))) _).trans (hS.2.2.2.1 _ (by omega)).1)) ?_
          refine wp_iadd C dX12_solve_112 ?_
          refine wp_eqi (nI_add S (w ((10 * a) + e))) ?_
          refine wp_istore_n C [(1, .int (nI (S + (w ((10 * a) + e))))), (4, .int (nI ((10 * a) + e))), (0, .ref m), (2, .int (nI a)), (3, .int (nI e))] dX12_solve_113 rfl (by decide) rfl ?_
          refine wp_aload_n C 2 dX12_solve_114 rfl rfl ?_
          refine wp_getR C dX12_solve_115 fX12_solve_38 hM.ob (hM.rf 13 rfl) ?_
          refine wp_iload_n C 3 dX12_solve_118 rfl rfl ?_
          refine wp_dup2 C dX12_solve_119 rfl rfl ?_
          refine wp_iald C dX12_solve_120 (hM.ar 13 rfl rfl) (j := a) rfl (by omega) (by decide) ?_
          refine wp_eqi ((u2_a _ _ _ _ (hM.ne 13 12 rfl rfl (by decide)) _).trans hXA) ?_
          refine wp_iconst C 1 dX12_solve_121 (by decide) ?_
          refine wp_isub C dX12_solve_122 ?_
          refine wp_iast C dX12_solve_123 (hM.ar 13 rfl rfl) (j := a) rfl (by omega) (by decide) ?_
          refine wp_aload_n C 2 dX12_solve_124 rfl rfl ?_
          refine wp_getR C dX12_solve_125 fX12_solve_41 hM.ob (hM.rf 14 rfl) ?_
          refine wp_iload_n C 4 dX12_solve_128 rfl rfl ?_
          refine wp_dup2 C dX12_solve_129 rfl rfl ?_
          refine wp_iald C dX12_solve_130 (hM.ar 14 rfl rfl) (j := e) rfl (by omega) (by decide) ?_
          refine wp_eqi (((u2_a _ _ _ _ (hM.ne 14 13 rfl rfl (by decide)) _).trans (u2_a _ _ _ _ (hM.ne 14 12 rfl rfl (by decide)) _)).trans hXE) ?_
          refine wp_iconst C 1 dX12_solve_131 (by decide) ?_
          refine wp_isub C dX12_solve_132 ?_
          refine wp_iast C dX12_solve_133 (hM.ar 14 rfl rfl) (j := e) rfl (by omega) (by decide) ?_
          refine wp_aload_n C 2 dX12_solve_134 rfl rfl ?_
          refine wp_getR C dX12_solve_135 fX12_solve_38 hM.ob (hM.rf 13 rfl) ?_
          refine wp_iload_n C 3 dX12_solve_138 rfl rfl ?_
          refine wp_iald C dX12_solve_139 (hM.ar 13 rfl rfl) (j := a) rfl (by omega) (by decide) ?_
          refine wp_eqi ((u2_a _ _ _ _ (hM.ne 13 14 rfl rfl (by decide)) _).trans (u2_s _ _ _ _)) ?_
          refine wp_if_lt C 152 dX12_solve_140 (by decide) (fun c140 => ?_) (fun c140 => ?_)
          · have c140 : ((nI XA) - 1).toInt < 0 := by have h := p_lt c140; exact h
            refine wp_iconst C (-1) dX12_solve_152 (by decide) ?_
            refine wp_iret C Z dX12_solve_153 (by decide) (by decide) ⟨_, rfl, rfl, rfl, rfl, fun b h1 h2 h3 h4 h5 => by rw [u2_rown _ _ _ _ h3, u2_rown _ _ _ _ h2, u2_rown _ _ _ _ h1]; exact hF1 b h1 h2 h3 h4 h5, Or.inl ⟨rfl, fun t ht => ?_⟩⟩
            have n1 := cf a (by omega)
            have n2 := cf (8 + e) (by omega)
            rw [if_pos (Or.inl rfl)] at n1
            rw [if_pos (Or.inr rfl)] at n2
            first
            | exact ht.none (a := a) (e := e + 1) (y := a) (by omega) (by omega)
            | exact ht.none (a := a) (e := e + 1) (y := 8 + e) (by omega) (by omega)
          · have c140 : ¬ ((nI XA) - 1).toInt < 0 := by have h := n_lt c140; exact h
            refine wp_aload_n C 2 dX12_solve_143 rfl rfl ?_
            refine wp_getR C dX12_solve_144 fX12_solve_41 hM.ob (hM.rf 14 rfl) ?_
            refine wp_iload_n C 4 dX12_solve_147 rfl rfl ?_
            refine wp_iald C dX12_solve_148 (hM.ar 14 rfl rfl) (j := e) rfl (by omega) (by decide) ?_
            refine wp_eqi (u2_s _ _ _ _) ?_
            refine wp_if_ge C 154 dX12_solve_149 (by decide) (fun c149 => ?_) (fun c149 => ?_)
            · have c149 : 0 ≤ ((nI XE) - 1).toInt := by have h := p_le c149; exact h
              refine wp_iinc C 4 (nI (e + 1)) [(3, .int (nI (e + 1))), (1, .int (nI (S + (w ((10 * a) + e))))), (4, .int (nI ((10 * a) + e))), (0, .ref m), (2, .int (nI a))] dX12_solve_154 rfl (nI_1 e) (by decide) rfl ?_
              refine wp_goto C 66 dX12_solve_157 (by decide) ?_
              refine wp_lv [3, 1, 4, 0] rfl ?_
              refine ihe (e + 1) (by omega) (by omega) _ _ (fun b h1 h2 h3 h4 h5 => by rw [u2_rown _ _ _ _ h3, u2_rown _ _ _ _ h2, u2_rown _ _ _ _ h1]; exact hF1 b h1 h2 h3 h4 h5) (fun y hy => ?_) (fun y hy => ?_) (fun y hy => ?_) (fun a2 e2 h1 h2 h3 => ?_) ?_ _ rfl
              · have n1 := cf y (by omega)
                rw [u2_a _ _ _ _ (hM.ne 13 14 rfl rfl (by decide))]
                by_cases q : y = a
                · subst q; rw [u2_s]; rw [if_pos (Or.inl rfl)] at n1
                  have z := nI_pred (XA - 1)
                  rw [show XA - 1 + 1 = XA by omega] at z
                  rw [z]; congr 1; omega
                · rw [u2_k _ _ _ _ q, u2_a _ _ _ _ (hM.ne 13 12 rfl rfl (by decide)), hal y hy]; rw [if_neg (by omega)] at n1; congr 1; omega
              · have n1 := cf (8 + y) (by omega)
                by_cases q : y = e
                · subst q; rw [u2_s]; rw [if_pos (Or.inr rfl)] at n1
                  have z := nI_pred (XE - 1)
                  rw [show XE - 1 + 1 = XE by omega] at z
                  rw [z]; congr 1; omega
                · rw [u2_k _ _ _ _ q, u2_a _ _ _ _ (hM.ne 14 13 rfl rfl (by decide)), u2_a _ _ _ _ (hM.ne 14 12 rfl rfl (by decide)), hel y hy]; rw [if_neg (by omega)] at n1; congr 1; omega
              · have n1 := cf y hy
                have n2 := hcn y hy
                by_cases q : y = a ∨ y = 8 + e
                · rw [if_pos q] at n1; rcases q with rfl | rfl <;> omega
                · rw [if_neg q] at n1; omega
              · rw [u2_a _ _ _ _ (hM.ne 12 14 rfl rfl (by decide)), u2_a _ _ _ _ (hM.ne 12 13 rfl rfl (by decide))]
                by_cases q : 10 * a2 + e2 = 10 * a + e
                · rw [q, u2_s]
                · rw [u2_k _ _ _ _ q]; exact hmz a2 e2 h1 h2 (by omega)
              · rw [tf]; omega
            · have c149 : ¬ 0 ≤ ((nI XE) - 1).toInt := by have h := n_le c149; exact h
              refine wp_iconst C (-1) dX12_solve_152 (by decide) ?_
              refine wp_iret C Z dX12_solve_153 (by decide) (by decide) ⟨_, rfl, rfl, rfl, rfl, fun b h1 h2 h3 h4 h5 => by rw [u2_rown _ _ _ _ h3, u2_rown _ _ _ _ h2, u2_rown _ _ _ _ h1]; exact hF1 b h1 h2 h3 h4 h5, Or.inl ⟨rfl, fun t ht => ?_⟩⟩
              have n1 := cf a (by omega)
              have n2 := cf (8 + e) (by omega)
              rw [if_pos (Or.inl rfl)] at n1
              rw [if_pos (Or.inr rfl)] at n2
              first
              | exact ht.none (a := a) (e := e + 1) (y := a) (by omega) (by omega)
              | exact ht.none (a := a) (e := e + 1) (y := 8 + e) (by omega) (by omega)
        · have c98 : ¬ ((fx ((10 * a) + e) : Nat) : Int) = 1 := by have h := n_eq c98; rw [nI_toInt (show fx ((10 * a) + e) < 2 ^ 31 by omega)] at h; exact h
          refine wp_goto C 154 dX12_solve_101 (by decide) ?_
          refine wp_iinc C 4 (nI (e + 1)) [(3, .int (nI (e + 1))), (4, .int (nI ((10 * a) + e))), (0, .ref m), (1, .int (nI S)), (2, .int (nI a))] dX12_solve_154 rfl (nI_1 e) (by decide) rfl ?_
          refine wp_goto C 66 dX12_solve_157 (by decide) ?_
          have bo := bs_out (A := A) (B := B) (fx := fx) (a := a) (e := e) hB10 (by omega) (by omega)
          refine wp_lv [2, 3, 4, 0] rfl ?_
          refine ihe (e + 1) (by omega) (by omega) _ S (fun b h1 h2 h3 h4 h5 => by rw [u2_rown _ _ _ _ h1]; exact hF1 b h1 h2 h3 h4 h5) (fun y hy => ?_) (fun y hy => ?_) (fun y hy => ?_) (fun a2 e2 h1 h2 h3 => ?_) ?_ _ rfl
          · rw [bo, u2_a _ _ _ _ (hM.ne 13 12 rfl rfl (by decide))]; exact hal y hy
          · rw [bo, u2_a _ _ _ _ (hM.ne 14 12 rfl rfl (by decide))]; exact hel y hy
          · rw [bo]; exact hcn y hy
          · by_cases q : 10 * a2 + e2 = 10 * a + e
            · rw [q, u2_s]
            · rw [u2_k _ _ _ _ q]; exact hmz a2 e2 h1 h2 (by omega)
          · rw [bo]; exact hSS
    refine wp_iload_n C 2 dX12_solve_56 rfl rfl ?_
    refine wp_aload_n C 0 dX12_solve_57 rfl rfl ?_
    refine wp_getI C dX12_solve_58 fX12_solve_158 hM.ob ?_
    refine wp_eqi ((congrFun (hF1 m (Ne.symm (hM.nm 12 rfl)) (Ne.symm (hM.nm 13 rfl)) (Ne.symm (hM.nm 14 rfl)) (Ne.symm (hM.nm 15 rfl)) (Ne.symm (hM.nm 16 rfl))) 7).trans hS.1.1) ?_
    refine wp_icmp_ge C 166 dX12_solve_61 (by decide) (fun c61 => ?_) (fun c61 => ?_)
    · have c61 : ((A : Nat) : Int) ≤ ((a : Nat) : Int) := by have h := p_le c61; rw [nI_toInt (show A < 2 ^ 31 by omega), nI_toInt (show a < 2 ^ 31 by omega)] at h; exact h
      refine wp_iconst C 0 dX12_solve_166 (by decide) ?_
      refine wp_istore_n C [(2, .int 0), (0, .ref m), (1, .int (nI S))] dX12_solve_167 rfl (by decide) rfl ?_
      have haA : a = A := by omega
      subst haA
      refine wp_lv [1, 2, 0] rfl ?_
      refine main _ I1 (fun _ => 0) (fun y => h - cnt (bs a B fx a 0) y) (fun y => h - cnt (bs a B fx a 0) (8 + y)) _ 100 S 0 (Nat.le_refl _) (by omega) hF1 ⟨⟨?_, hA8⟩, ⟨?_, hB10⟩, fun p hp => ⟨?_, hw p hp⟩, fun p hp => ⟨?_, hfx p hp⟩, fun a2 e2 h1 h2 => ⟨hmz a2 e2 h1 h2 (by omega), Nat.zero_le 1⟩, fun y hy => ⟨hal y hy, by show h - _ ≤ 8; omega⟩, fun y hy => ⟨hel y hy, by show h - _ ≤ 8; omega⟩⟩ (SoI.init hw hA8 hB10 (fun y hy => ?_) (fun y hy => ?_) hcn hSS) _ rfl
      · rw [(hF1 m (Ne.symm (hM.nm 12 rfl)) (Ne.symm (hM.nm 13 rfl)) (Ne.symm (hM.nm 14 rfl)) (Ne.symm (hM.nm 15 rfl)) (Ne.symm (hM.nm 16 rfl)))]; exact hS.1.1
      · rw [(hF1 m (Ne.symm (hM.nm 12 rfl)) (Ne.symm (hM.nm 13 rfl)) (Ne.symm (hM.nm 14 rfl)) (Ne.symm (hM.nm 15 rfl)) (Ne.symm (hM.nm 16 rfl)))]; exact hS.2.1.1
      · rw [(hF1 (ad 10) (hM.ne 10 12 rfl rfl (by decide)) (hM.ne 10 13 rfl rfl (by decide)) (hM.ne 10 14 rfl rfl (by decide)) (hM.ne 10 15 rfl rfl (by decide)) (hM.ne 10 16 rfl rfl (by decide)))]; exact (hS.2.2.2.1 p hp).1
      · rw [(hF1 (ad 11) (hM.ne 11 12 rfl rfl (by decide)) (hM.ne 11 13 rfl rfl (by decide)) (hM.ne 11 14 rfl rfl (by decide)) (hM.ne 11 15 rfl rfl (by decide)) (hM.ne 11 16 rfl rfl (by decide)))]; exact (hS.2.2.2.2 p hp).1
      · have := hcn y (by omega); omega
      · have := hcn (8 + y) (by omega); omega
    · have c61 : ¬ ((A : Nat) : Int) ≤ ((a : Nat) : Int) := by have h := n_le c61; rw [nI_toInt (show A < 2 ^ 31 by omega), nI_toInt (show a < 2 ^ 31 by omega)] at h; exact h
      refine wp_iconst C 0 dX12_solve_64 (by decide) ?_
      refine wp_istore_n C [(3, .int 0), (0, .ref m), (1, .int (nI S)), (2, .int (nI a))] dX12_solve_65 rfl (by decide) rfl ?_
      refine wp_lv [1, 2, 3, 0] rfl ?_
      exact loopE (by omega) 0 (by omega) I1 S hF1 hal hel hcn (fun a2 e2 h1 h2 h3 => hmz a2 e2 h1 h2 (by omega)) hSS _ rfl
  have p1b : ∀ i, i ≤ B → ∀ lv, lv_pick lv [0, 1, 2] = [(0, .ref m), (1, .int 0), (2, .int (nI i))] → WP E 5 0 0 T (va_up (va_up I (ad 13) (fl (I (ad 13)) (nI h) A)) (ad 14) (fl (I (ad 14)) (nI h) i)) J R 30 lv [] := by
    refine loopN B (fun i hi ih => ?_)
    intro lv hlv
    refine wp_lv [0, 1, 2] hlv ?_
    refine wp_iload_n C 2 dX12_solve_30 rfl rfl ?_
    refine wp_aload_n C 0 dX12_solve_31 rfl rfl ?_
    refine wp_getI C dX12_solve_32 fX12_solve_161 hM.ob ?_
    refine wp_eqi (((congrFun (vu_n _ _ (Ne.symm (hM.nm 14 rfl))) 8).trans (congrFun (vu_n _ _ (Ne.symm (hM.nm 13 rfl))) 8)).trans hS.2.1.1) ?_
    refine wp_icmp_ge C 54 dX12_solve_35 (by decide) (fun c35 => ?_) (fun c35 => ?_)
    · have c35 : ((B : Nat) : Int) ≤ ((i : Nat) : Int) := by have h := p_le c35; rw [nI_toInt (show B < 2 ^ 31 by omega), nI_toInt (show i < 2 ^ 31 by omega)] at h; exact h
      refine wp_iconst C 0 dX12_solve_54 (by decide) ?_
      refine wp_istore_n C [(2, .int 0), (0, .ref m), (1, .int 0)] dX12_solve_55 rfl (by decide) rfl ?_
      have hiB : i = B := by omega
      subst hiB
      refine wp_lv [1, 2, 0] rfl ?_
      refine loopA 0 (by omega) _ 0 (fun b h1 h2 h3 h4 h5 => by rw [vu_n _ _ h3, vu_n _ _ h2]) (fun y hy => ?_) (fun y hy => ?_) (fun y hy => ?_) (fun a2 e2 h1 h2 h3 => by omega) ?_ _ rfl
      · rw [vu_n _ _ (hM.ne 13 14 rfl rfl (by decide)), vu_s, bs_0, cnt_z]; simp only [fl, if_pos hy]; rfl
      · rw [vu_s, bs_0, cnt_z]; simp only [fl, if_pos hy]; rfl
      · rw [bs_0, cnt_z]; omega
      · rw [bs_0, totN_z]; rfl
    · have c35 : ¬ ((B : Nat) : Int) ≤ ((i : Nat) : Int) := by have h := n_le c35; rw [nI_toInt (show B < 2 ^ 31 by omega), nI_toInt (show i < 2 ^ 31 by omega)] at h; exact h
      refine wp_aload_n C 0 dX12_solve_38 rfl rfl ?_
      refine wp_getR C dX12_solve_39 fX12_solve_41 hM.ob (hM.rf 14 rfl) ?_
      refine wp_iload_n C 2 dX12_solve_42 rfl rfl ?_
      refine wp_aload_n C 0 dX12_solve_43 rfl rfl ?_
      refine wp_getI C dX12_solve_44 fX12_solve_24 hM.ob ?_
      refine wp_eqi (((congrFun (vu_n _ _ (Ne.symm (hM.nm 14 rfl))) 9).trans (congrFun (vu_n _ _ (Ne.symm (hM.nm 13 rfl))) 9)).trans hS.2.2.1.1) ?_
      refine wp_iast C dX12_solve_47 (hM.ar 14 rfl rfl) (j := i) rfl (by omega) (by decide) ?_
      refine wp_iinc C 2 (nI (i + 1)) [(2, .int (nI (i + 1))), (0, .ref m), (1, .int 0)] dX12_solve_48 rfl (nI_1 i) (by decide) rfl ?_
      refine wp_goto C 30 dX12_solve_51 (by decide) ?_
      refine wp_lv [1, 2, 0] rfl ?_
      refine wp_eI ((u2_in _ _ _ _ _).trans (congrArg _ (fl_s _ _ _))) ?_
      exact ih (i + 1) (by omega) (by omega) _ rfl
  have p1a : ∀ i, i ≤ A → ∀ lv, lv_pick lv [0, 1, 2] = [(0, .ref m), (1, .int 0), (2, .int (nI i))] → WP E 5 0 0 T (va_up I (ad 13) (fl (I (ad 13)) (nI h) i)) J R 4 lv [] := by
    refine loopN A (fun i hi ih => ?_)
    intro lv hlv
    refine wp_lv [0, 1, 2] hlv ?_
    refine wp_iload_n C 2 dX12_solve_4 rfl rfl ?_
    refine wp_aload_n C 0 dX12_solve_5 rfl rfl ?_
    refine wp_getI C dX12_solve_6 fX12_solve_158 hM.ob ?_
    refine wp_eqi ((congrFun (vu_n _ _ (Ne.symm (hM.nm 13 rfl))) 7).trans hS.1.1) ?_
    refine wp_icmp_ge C 28 dX12_solve_9 (by decide) (fun c9 => ?_) (fun c9 => ?_)
    · have c9 : ((A : Nat) : Int) ≤ ((i : Nat) : Int) := by have h := p_le c9; rw [nI_toInt (show A < 2 ^ 31 by omega), nI_toInt (show i < 2 ^ 31 by omega)] at h; exact h
      refine wp_iconst C 0 dX12_solve_28 (by decide) ?_
      refine wp_istore_n C [(2, .int 0), (0, .ref m), (1, .int 0)] dX12_solve_29 rfl (by decide) rfl ?_
      have hiA : i = A := by omega
      subst hiA
      refine wp_lv [1, 2, 0] rfl ?_
      have h9 := p1b 0 (by omega) [(0, .ref m), (1, .int 0), (2, .int (nI 0))] rfl
      rw [fl_0, show I (ad 14) = (va_up I (ad 13) (fl (I (ad 13)) (nI h) i)) (ad 14) from (vu_n _ _ (hM.ne 14 13 rfl rfl (by decide))).symm, vu_id] at h9
      exact h9
    · have c9 : ¬ ((A : Nat) : Int) ≤ ((i : Nat) : Int) := by have h := n_le c9; rw [nI_toInt (show A < 2 ^ 31 by omega), nI_toInt (show i < 2 ^ 31 by omega)] at h; exact h
      refine wp_aload_n C 0 dX12_solve_12 rfl rfl ?_
      refine wp_getR C dX12_solve_13 fX12_solve_38 hM.ob (hM.rf 13 rfl) ?_
      refine wp_iload_n C 2 dX12_solve_16 rfl rfl ?_
      refine wp_aload_n C 0 dX12_solve_17 rfl rfl ?_
      refine wp_getI C dX12_solve_18 fX12_solve_24 hM.ob ?_
      refine wp_eqi ((congrFun (vu_n _ _ (Ne.symm (hM.nm 13 rfl))) 9).trans hS.2.2.1.1) ?_
      refine wp_iast C dX12_solve_21 (hM.ar 13 rfl rfl) (j := i) rfl (by omega) (by decide) ?_
      refine wp_iinc C 2 (nI (i + 1)) [(2, .int (nI (i + 1))), (0, .ref m), (1, .int 0)] dX12_solve_22 rfl (nI_1 i) (by decide) rfl ?_
      refine wp_goto C 4 dX12_solve_25 (by decide) ?_
      refine wp_lv [1, 2, 0] rfl ?_
      refine wp_eI ((u2_in _ _ _ _ _).trans (congrArg _ (fl_s _ _ _))) ?_
      exact ih (i + 1) (by omega) (by omega) _ rfl
  refine wp_iconst C 0 dX12_solve_0 (by decide) ?_
  refine wp_istore_n C [(1, .int 0), (0, .ref m)] dX12_solve_1 rfl (by decide) rfl ?_
  refine wp_iconst C 0 dX12_solve_2 (by decide) ?_
  refine wp_istore_n C [(2, .int 0), (1, .int 0), (0, .ref m)] dX12_solve_3 rfl (by decide) rfl ?_
  refine wp_lv [2, 1, 0] rfl ?_
  have h9 := p1a 0 (by omega) [(0, .ref m), (1, .int 0), (2, .int (nI 0))] rfl
  rw [fl_0, vu_id] at h9
  exact h9
