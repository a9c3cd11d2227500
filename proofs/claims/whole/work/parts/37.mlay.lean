/-! ===== turns(), lay(), lays() of the reference ===== -/
/-- the table's rows and the way alone have changed -/
def FrY (I I' : gI) (ad : Nat → Nat) : Prop := ∀ x, x ≠ ad 17 → x ≠ ad 18 → x ≠ ad 19 → x ≠ ad 20 → I' x = I x
def PY (T : gSh) (J : gJ) (R : gR) (I : gI) (ad : Nat → Nat) (t : (Nat → Nat) × (Nat → Nat)) : gPost := fun r T' I' J' R' => r = none ∧ T = T' ∧ J = J' ∧ R = R' ∧ FrY I I' ad ∧ TT I' (ad 17) (ad 18) t.1 t.2
/-- the way in the heap -/
def WY (I : gI) (ad : Nat → Nat) (ea ae : Nat → Nat) (a b e0 n : Nat) : Prop := ∀ k, k < n → I (ad 19) k = nI (wA ea ae a b e0 k) ∧ I (ad 20) k = nI (wE ea ae a b e0 k)
set_option maxRecDepth 100000 in
set_option maxHeartbeats 4000000 in
theorem m_turns (l : Launch) {T : gSh} {I : gI} {J : gJ} {R : gR} {m : Nat} {ad : Nat → Nat} (hM : MO T R m ad) {ea ae : Nat → Nat} (hT : TT I (ad 17) (ad 18) ea ae) {a b e0 : Nat} (hK : KC ea ae a b e0) (hab : a ≠ b) : Con l yX12_turns wsX12_turns ({ frames := 0, cells := 0, slots := 0, locals := 0 }) [.ref m, .int (nI e0), .int (nI a), .int (nI b)] T I J R (PY T J R I ad (swp (inA ea ae a b e0) a b ea, swp (inE ea ae a b e0) a b ae)) := by
  refine Con.mk (cc := cX12_turns) (maxL := 10) (ret := none) (by decide) rfl (Nat.le_of_ble_eq_true rfl) ?_
  intro E hE C Z hnm
  subst hE
  change WP E 10 0 0 T I J R 0 [(0, .ref m), (1, .int (nI e0)), (2, .int (nI a)), (3, .int (nI b))] []
  have hne : ad 17 ≠ ad 18 := (hM.ne 17 18 rfl rfl (by decide))
  have ha := hK.2.1
  have hb := hK.2.2.1
  have he0 := hK.2.2.2.1
  have p3 : ∀ n, NN ea ae a b e0 n → ∀ g2 f2 : Nat → Nat, Wr (fun k => 8 * wA ea ae a b e0 k + hr a b k) (fun _ => 0) n g2 ea → Wr (fun k => 8 * wE ea ae a b e0 k + hr a b k) (fun _ => 0) n f2 ae → ∀ k, k ≤ n → ∀ (I1 : gI) (g f : Nat → Nat), WY I1 ad ea ae a b e0 n → Wr (fun k => 8 * wA ea ae a b e0 k + hr b a k) (fun k => wE ea ae a b e0 k + 1) k g g2 → Wr (fun k => 8 * wE ea ae a b e0 k + hr b a k) (fun k => wA ea ae a b e0 k + 1) k f f2 → TT I1 (ad 17) (ad 18) g f → FrY I I1 ad → ∀ lv, lv_pick lv [0, 1, 2, 3, 4, 5] = [(0, .ref m), (1, .int (nI e0)), (2, .int (nI a)), (3, .int (nI b)), (4, .int (nI n)), (8, .int (nI k))] → WP E 10 0 0 T I1 J R 208 lv [] := by
    intro n hN g2 f2 w2A w2E
    have hn := hN.le hK
    refine loopN n (fun k hk ih => ?_)
    intro I1 g f hW hA hE hT1 hF lv hlv
    refine wp_lv [0, 1, 2, 3, 4, 5] hlv ?_
    refine wp_iload C 5 dX12_turns_208 rfl ?_
    refine wp_iload C 4 dX12_turns_210 rfl ?_
    refine wp_icmp_ge C 285 dX12_turns_212 (by decide) (fun c212 => ?_) (fun c212 => ?_)
    · have c212 : ((n : Nat) : Int) ≤ ((k : Nat) : Int) := by have hcv := p_le c212; rw [nI_toInt (show n < 2 ^ 31 by omega), nI_toInt (show k < 2 ^ 31 by omega)] at hcv; exact hcv
      have e9 : k = n := by omega
      subst e9
      exact wp_vret C Z dX12_turns_285 (by decide) (by decide) ⟨rfl, rfl, rfl, rfl, hF, hT1.cg (way_A hK hab hN w2A hA) (way_E hK hab hN w2E hE)⟩
    · have c212 : ¬ ((n : Nat) : Int) ≤ ((k : Nat) : Int) := by have hcv := n_le c212; rw [nI_toInt (show n < 2 ^ 31 by omega), nI_toInt (show k < 2 ^ 31 by omega)] at hcv; exact hcv
      have bd := hN.bd hK (show k < n by omega)
      refine wp_iload C 5 dX12_turns_215 rfl ?_
      refine wp_iconst C 2 dX12_turns_217 (by decide) ?_
      refine wp_irem C dX12_turns_218 (by decide) ?_
      refine wp_eqi (pk_rem (by omega) (by omega) (by omega) : _ = nI (k % 2)) ?_
      refine wp_if_ne C 226 dX12_turns_219 (by decide) (fun c219 => ?_) (fun c219 => ?_)
      · have c219 : ¬ ((k % 2 : Nat) : Int) = 0 := by have hcv := n_eq c219; rw [nI_toInt (show k % 2 < 2 ^ 31 by omega)] at hcv; exact hcv
        refine wp_iload_n C 2 dX12_turns_226 rfl rfl ?_
        refine wp_istore C [(9, .int (nI a)), (0, .ref m), (1, .int (nI e0)), (2, .int (nI a)), (3, .int (nI b)), (4, .int (nI n)), (8, .int (nI k))] dX12_turns_227 (by decide) rfl ?_
        refine wp_aload_n C 1 dX12_turns_229 rfl rfl ?_
        refine wp_getR C dX12_turns_230 fX12_turns_50 hM.ob (hM.rf 17 rfl) ?_
        refine wp_bipush C 8 dX12_turns_233 (by decide) ?_
        refine wp_aload_n C 1 dX12_turns_235 rfl rfl ?_
        refine wp_getR C dX12_turns_236 fX12_turns_56 hM.ob (hM.rf 19 rfl) ?_
        refine wp_iload C 6 dX12_turns_239 rfl ?_
        refine wp_iald C dX12_turns_241 (hM.ar 19 rfl rfl) (j := k) rfl (by omega) (by decide) ?_
        refine wp_eqi (hW k (by omega)).1 ?_
        refine wp_imul C dX12_turns_242 ?_
        refine wp_eqi (pk_mul 8 (wA ea ae a b e0 k)) ?_
        refine wp_iload C 0 dX12_turns_243 rfl ?_
        refine wp_iadd C dX12_turns_245 ?_
        refine wp_eqi (nI_add (8 * (wA ea ae a b e0 k)) a) ?_
        refine wp_aload_n C 1 dX12_turns_246 rfl rfl ?_
        refine wp_getR C dX12_turns_247 fX12_turns_59 hM.ob (hM.rf 20 rfl) ?_
        refine wp_iload C 6 dX12_turns_250 rfl ?_
        refine wp_iald C dX12_turns_252 (hM.ar 20 rfl rfl) (j := k) rfl (by omega) (by decide) ?_
        refine wp_eqi (hW k (by omega)).2 ?_
        refine wp_iast C dX12_turns_253 (hM.ar 17 rfl rfl) (j := (8 * (wA ea ae a b e0 k)) + a) rfl (by omega) (by decide) ?_
        refine wp_aload_n C 1 dX12_turns_254 rfl rfl ?_
        refine wp_getR C dX12_turns_255 fX12_turns_53 hM.ob (hM.rf 18 rfl) ?_
        refine wp_bipush C 8 dX12_turns_258 (by decide) ?_
        refine wp_aload_n C 1 dX12_turns_260 rfl rfl ?_
        refine wp_getR C dX12_turns_261 fX12_turns_59 hM.ob (hM.rf 20 rfl) ?_
        refine wp_iload C 6 dX12_turns_264 rfl ?_
        refine wp_iald C dX12_turns_266 (hM.ar 20 rfl rfl) (j := k) rfl (by omega) (by decide) ?_
        refine wp_eqi ((u2_a _ _ _ _ (hM.ne 20 17 rfl rfl (by decide)) _).trans (hW k (by omega)).2) ?_
        refine wp_imul C dX12_turns_267 ?_
        refine wp_eqi (pk_mul 8 (wE ea ae a b e0 k)) ?_
        refine wp_iload C 0 dX12_turns_268 rfl ?_
        refine wp_iadd C dX12_turns_270 ?_
        refine wp_eqi (nI_add (8 * (wE ea ae a b e0 k)) a) ?_
        refine wp_aload_n C 1 dX12_turns_271 rfl rfl ?_
        refine wp_getR C dX12_turns_272 fX12_turns_56 hM.ob (hM.rf 19 rfl) ?_
        refine wp_iload C 6 dX12_turns_275 rfl ?_
        refine wp_iald C dX12_turns_277 (hM.ar 19 rfl rfl) (j := k) rfl (by omega) (by decide) ?_
        refine wp_eqi ((u2_a _ _ _ _ (hM.ne 19 17 rfl rfl (by decide)) _).trans (hW k (by omega)).1) ?_
        refine wp_iast C dX12_turns_278 (hM.ar 18 rfl rfl) (j := (8 * (wE ea ae a b e0 k)) + a) rfl (by omega) (by decide) ?_
        refine wp_iinc C 6 (nI (k + 1)) [(8, .int (nI (k + 1))), (9, .int (nI a)), (0, .ref m), (1, .int (nI e0)), (2, .int (nI a)), (3, .int (nI b)), (4, .int (nI n))] dX12_turns_279 rfl (nI_1 k) (by decide) rfl ?_
        refine wp_goto C 208 dX12_turns_282 (by decide) ?_
        refine wp_lv [2, 3, 4, 5, 6, 0] rfl ?_
        refine ih (k + 1) (by omega) (by omega) _ _ _ (fun j hj => ?_) (hA.step (p := 8 * wA ea ae a b e0 k + a) (x := wE ea ae a b e0 k + 1) (by rw [hr_o (by omega)]) rfl (fun j hj e => ?_)) (hE.step (p := 8 * wE ea ae a b e0 k + a) (x := wA ea ae a b e0 k + 1) (by rw [hr_o (by omega)]) rfl (fun j hj e => ?_)) ((hT1.putA hne _ _ (vI_s _).symm).putE hne _ _ (vI_s _).symm) (fun x h1 h2 h3 h4 => by rw [u2_rown _ _ _ _ h2, u2_rown _ _ _ _ h1]; exact hF x h1 h2 h3 h4) _ rfl
        · rw [u2_rown _ _ _ _ (hM.ne 19 18 rfl rfl (by decide)), u2_rown _ _ _ _ (hM.ne 19 17 rfl rfl (by decide)), u2_rown _ _ _ _ (hM.ne 20 18 rfl rfl (by decide)), u2_rown _ _ _ _ (hM.ne 20 17 rfl rfl (by decide))]; exact hW j hj
        · have e2 : 8 * wA ea ae a b e0 j + hr b a j = 8 * wA ea ae a b e0 k + hr b a k := e
          have l1 := hr_lt hb ha j
          have l2 := hr_lt hb ha k
          have := hN.dA hK (show j < n by omega) (show k < n by omega) (by omega) (hr_inj (Ne.symm hab) (by omega))
          omega
        · have e2 : 8 * wE ea ae a b e0 j + hr b a j = 8 * wE ea ae a b e0 k + hr b a k := e
          have l1 := hr_lt hb ha j
          have l2 := hr_lt hb ha k
          have := hN.dE hK (show j < n by omega) (show k < n by omega) (by omega) (hr_inj (Ne.symm hab) (by omega))
          omega
      · have c219 : ((k % 2 : Nat) : Int) = 0 := by have hcv := p_eq c219; rw [nI_toInt (show k % 2 < 2 ^ 31 by omega)] at hcv; exact hcv
        refine wp_iload_n C 3 dX12_turns_222 rfl rfl ?_
        refine wp_goto C 227 dX12_turns_223 (by decide) ?_
        refine wp_istore C [(9, .int (nI b)), (0, .ref m), (1, .int (nI e0)), (2, .int (nI a)), (3, .int (nI b)), (4, .int (nI n)), (8, .int (nI k))] dX12_turns_227 (by decide) rfl ?_
        refine wp_aload_n C 1 dX12_turns_229 rfl rfl ?_
        refine wp_getR C dX12_turns_230 fX12_turns_50 hM.ob (hM.rf 17 rfl) ?_
        refine wp_bipush C 8 dX12_turns_233 (by decide) ?_
        refine wp_aload_n C 1 dX12_turns_235 rfl rfl ?_
        refine wp_getR C dX12_turns_236 fX12_turns_56 hM.ob (hM.rf 19 rfl) ?_
        refine wp_iload C 6 dX12_turns_239 rfl ?_
        refine wp_iald C dX12_turns_241 (hM.ar 19 rfl rfl) (j := k) rfl (by omega) (by decide) ?_
        refine wp_eqi (hW k (by omega)).1 ?_
        refine wp_imul C dX12_turns_242 ?_
        refine wp_eqi (pk_mul 8 (wA ea ae a b e0 k)) ?_
        refine wp_iload C 0 dX12_turns_243 rfl ?_
        refine wp_iadd C dX12_turns_245 ?_
        refine wp_eqi (nI_add (8 * (wA ea ae a b e0 k)) b) ?_
        refine wp_aload_n C 1 dX12_turns_246 rfl rfl ?_
        refine wp_getR C dX12_turns_247 fX12_turns_59 hM.ob (hM.rf 20 rfl) ?_
        refine wp_iload C 6 dX12_turns_250 rfl ?_
        refine wp_iald C dX12_turns_252 (hM.ar 20 rfl rfl) (j := k) rfl (by omega) (by decide) ?_
        refine wp_eqi (hW k (by omega)).2 ?_
        refine wp_iast C dX12_turns_253 (hM.ar 17 rfl rfl) (j := (8 * (wA ea ae a b e0 k)) + b) rfl (by omega) (by decide) ?_
        refine wp_aload_n C 1 dX12_turns_254 rfl rfl ?_
        refine wp_getR C dX12_turns_255 fX12_turns_53 hM.ob (hM.rf 18 rfl) ?_
        refine wp_bipush C 8 dX12_turns_258 (by decide) ?_
        refine wp_aload_n C 1 dX12_turns_260 rfl rfl ?_
        refine wp_getR C dX12_turns_261 fX12_turns_59 hM.ob (hM.rf 20 rfl) ?_
        refine wp_iload C 6 dX12_turns_264 rfl ?_
        refine wp_iald C dX12_turns_266 (hM.ar 20 rfl rfl) (j := k) rfl (by omega) (by decide) ?_
        refine wp_eqi ((u2_a _ _ _ _ (hM.ne 20 17 rfl rfl (by decide)) _).trans (hW k (by omega)).2) ?_
        refine wp_imul C dX12_turns_267 ?_
        refine wp_eqi (pk_mul 8 (wE ea ae a b e0 k)) ?_
        refine wp_iload C 0 dX12_turns_268 rfl ?_
        refine wp_iadd C dX12_turns_270 ?_
        refine wp_eqi (nI_add (8 * (wE ea ae a b e0 k)) b) ?_
        refine wp_aload_n C 1 dX12_turns_271 rfl rfl ?_
        refine wp_getR C dX12_turns_272 fX12_turns_56 hM.ob (hM.rf 19 rfl) ?_
        refine wp_iload C 6 dX12_turns_275 rfl ?_
        refine wp_iald C dX12_turns_277 (hM.ar 19 rfl rfl) (j := k) rfl (by omega) (by decide) ?_
        refine wp_eqi ((u2_a _ _ _ _ (hM.ne 19 17 rfl rfl (by decide)) _).trans (hW k (by omega)).1) ?_
        refine wp_iast C dX12_turns_278 (hM.ar 18 rfl rfl) (j := (8 * (wE ea ae a b e0 k)) + b) rfl (by omega) (by decide) ?_
        refine wp_iinc C 6 (nI (k + 1)) [(8, .int (nI (k + 1))), (9, .int (nI b)), (0, .ref m), (1, .int (nI e0)), (2, .int (nI a)), (3, .int (nI b)), (4, .int (nI n))] dX12_turns_279 rfl (nI_1 k) (by decide) rfl ?_
        refine wp_goto C 208 dX12_turns_282 (by decide) ?_
        refine wp_lv [2, 3, 4, 5, 6, 0] rfl ?_
        refine ih (k + 1) (by omega) (by omega) _ _ _ (fun j hj => ?_) (hA.step (p := 8 * wA ea ae a b e0 k + b) (x := wE ea ae a b e0 k + 1) (by rw [hr_e (by omega)]) rfl (fun j hj e => ?_)) (hE.step (p := 8 * wE ea ae a b e0 k + b) (x := wA ea ae a b e0 k + 1) (by rw [hr_e (by omega)]) rfl (fun j hj e => ?_)) ((hT1.putA hne _ _ (vI_s _).symm).putE hne _ _ (vI_s _).symm) (fun x h1 h2 h3 h4 => by rw [u2_rown _ _ _ _ h2, u2_rown _ _ _ _ h1]; exact hF x h1 h2 h3 h4) _ rfl
        · rw [u2_rown _ _ _ _ (hM.ne 19 18 rfl rfl (by decide)), u2_rown _ _ _ _ (hM.ne 19 17 rfl rfl (by decide)), u2_rown _ _ _ _ (hM.ne 20 18 rfl rfl (by decide)), u2_rown _ _ _ _ (hM.ne 20 17 rfl rfl (by decide))]; exact hW j hj
        · have e2 : 8 * wA ea ae a b e0 j + hr b a j = 8 * wA ea ae a b e0 k + hr b a k := e
          have l1 := hr_lt hb ha j
          have l2 := hr_lt hb ha k
          have := hN.dA hK (show j < n by omega) (show k < n by omega) (by omega) (hr_inj (Ne.symm hab) (by omega))
          omega
        · have e2 : 8 * wE ea ae a b e0 j + hr b a j = 8 * wE ea ae a b e0 k + hr b a k := e
          have l1 := hr_lt hb ha j
          have l2 := hr_lt hb ha k
          have := hN.dE hK (show j < n by omega) (show k < n by omega) (by omega) (hr_inj (Ne.symm hab) (by omega))
          omega
  have p2 : ∀ n, NN ea ae a b e0 n → ∀ k, k ≤ n → ∀ (I1 : gI) (g f : Nat → Nat), WY I1 ad ea ae a b e0 n → Wr (fun k => 8 * wA ea ae a b e0 k + hr a b k) (fun _ => 0) k g ea → Wr (fun k => 8 * wE ea ae a b e0 k + hr a b k) (fun _ => 0) k f ae → TT I1 (ad 17) (ad 18) g f → FrY I I1 ad → ∀ lv, lv_pick lv [0, 1, 2, 3, 4, 5] = [(0, .ref m), (1, .int (nI e0)), (2, .int (nI a)), (3, .int (nI b)), (4, .int (nI n)), (8, .int (nI k))] → WP E 10 0 0 T I1 J R 140 lv [] := by
    intro n hN
    have hn := hN.le hK
    refine loopN n (fun k hk ih => ?_)
    intro I1 g f hW hA hE hT1 hF lv hlv
    refine wp_lv [0, 1, 2, 3, 4, 5] hlv ?_
    refine wp_iload C 5 dX12_turns_140 rfl ?_
    refine wp_iload C 4 dX12_turns_142 rfl ?_
    refine wp_icmp_ge C 205 dX12_turns_144 (by decide) (fun c144 => ?_) (fun c144 => ?_)
    · have c144 : ((n : Nat) : Int) ≤ ((k : Nat) : Int) := by have hcv := p_le c144; rw [nI_toInt (show n < 2 ^ 31 by omega), nI_toInt (show k < 2 ^ 31 by omega)] at hcv; exact hcv
      refine wp_iconst C 0 dX12_turns_205 (by decide) ?_
      refine wp_istore C [(8, .int 0), (0, .ref m), (1, .int (nI e0)), (2, .int (nI a)), (3, .int (nI b)), (4, .int (nI n))] dX12_turns_206 (by decide) rfl ?_
      have e9 : k = n := by omega
      subst e9
      refine wp_lv [1, 2, 3, 4, 5, 0] rfl ?_
      exact p3 k hN g f hA hE 0 (by omega) I1 g f hW (Wr.nil _ _ _) (Wr.nil _ _ _) hT1 hF _ rfl
    · have c144 : ¬ ((n : Nat) : Int) ≤ ((k : Nat) : Int) := by have hcv := n_le c144; rw [nI_toInt (show n < 2 ^ 31 by omega), nI_toInt (show k < 2 ^ 31 by omega)] at hcv; exact hcv
      have bd := hN.bd hK (show k < n by omega)
      refine wp_iload C 5 dX12_turns_147 rfl ?_
      refine wp_iconst C 2 dX12_turns_149 (by decide) ?_
      refine wp_irem C dX12_turns_150 (by decide) ?_
      refine wp_eqi (pk_rem (by omega) (by omega) (by omega) : _ = nI (k % 2)) ?_
      refine wp_if_ne C 158 dX12_turns_151 (by decide) (fun c151 => ?_) (fun c151 => ?_)
      · have c151 : ¬ ((k % 2 : Nat) : Int) = 0 := by have hcv := n_eq c151; rw [nI_toInt (show k % 2 < 2 ^ 31 by omega)] at hcv; exact hcv
        refine wp_iload_n C 3 dX12_turns_158 rfl rfl ?_
        refine wp_istore C [(9, .int (nI b)), (0, .ref m), (1, .int (nI e0)), (2, .int (nI a)), (3, .int (nI b)), (4, .int (nI n)), (8, .int (nI k))] dX12_turns_159 (by decide) rfl ?_
        refine wp_aload_n C 1 dX12_turns_161 rfl rfl ?_
        refine wp_getR C dX12_turns_162 fX12_turns_50 hM.ob (hM.rf 17 rfl) ?_
        refine wp_bipush C 8 dX12_turns_165 (by decide) ?_
        refine wp_aload_n C 1 dX12_turns_167 rfl rfl ?_
        refine wp_getR C dX12_turns_168 fX12_turns_56 hM.ob (hM.rf 19 rfl) ?_
        refine wp_iload C 6 dX12_turns_171 rfl ?_
        refine wp_iald C dX12_turns_173 (hM.ar 19 rfl rfl) (j := k) rfl (by omega) (by decide) ?_
        refine wp_eqi (hW k (by omega)).1 ?_
        refine wp_imul C dX12_turns_174 ?_
        refine wp_eqi (pk_mul 8 (wA ea ae a b e0 k)) ?_
        refine wp_iload C 0 dX12_turns_175 rfl ?_
        refine wp_iadd C dX12_turns_177 ?_
        refine wp_eqi (nI_add (8 * (wA ea ae a b e0 k)) b) ?_
        refine wp_iconst C (-1) dX12_turns_178 (by decide) ?_
        refine wp_iast C dX12_turns_179 (hM.ar 17 rfl rfl) (j := (8 * (wA ea ae a b e0 k)) + b) rfl (by omega) (by decide) ?_
        refine wp_aload_n C 1 dX12_turns_180 rfl rfl ?_
        refine wp_getR C dX12_turns_181 fX12_turns_53 hM.ob (hM.rf 18 rfl) ?_
        refine wp_bipush C 8 dX12_turns_184 (by decide) ?_
        refine wp_aload_n C 1 dX12_turns_186 rfl rfl ?_
        refine wp_getR C dX12_turns_187 fX12_turns_59 hM.ob (hM.rf 20 rfl) ?_
        refine wp_iload C 6 dX12_turns_190 rfl ?_
        refine wp_iald C dX12_turns_192 (hM.ar 20 rfl rfl) (j := k) rfl (by omega) (by decide) ?_
        refine wp_eqi ((u2_a _ _ _ _ (hM.ne 20 17 rfl rfl (by decide)) _).trans (hW k (by omega)).2) ?_
        refine wp_imul C dX12_turns_193 ?_
        refine wp_eqi (pk_mul 8 (wE ea ae a b e0 k)) ?_
        refine wp_iload C 0 dX12_turns_194 rfl ?_
        refine wp_iadd C dX12_turns_196 ?_
        refine wp_eqi (nI_add (8 * (wE ea ae a b e0 k)) b) ?_
        refine wp_iconst C (-1) dX12_turns_197 (by decide) ?_
        refine wp_iast C dX12_turns_198 (hM.ar 18 rfl rfl) (j := (8 * (wE ea ae a b e0 k)) + b) rfl (by omega) (by decide) ?_
        refine wp_iinc C 6 (nI (k + 1)) [(8, .int (nI (k + 1))), (9, .int (nI b)), (0, .ref m), (1, .int (nI e0)), (2, .int (nI a)), (3, .int (nI b)), (4, .int (nI n))] dX12_turns_199 rfl (nI_1 k) (by decide) rfl ?_
        refine wp_goto C 140 dX12_turns_202 (by decide) ?_
        refine wp_lv [2, 3, 4, 5, 6, 0] rfl ?_
        refine ih (k + 1) (by omega) (by omega) _ _ _ (fun j hj => ?_) (hA.step (p := 8 * wA ea ae a b e0 k + b) (x := 0) (by rw [hr_o (by omega)]) rfl (fun j hj e => rfl)) (hE.step (p := 8 * wE ea ae a b e0 k + b) (x := 0) (by rw [hr_o (by omega)]) rfl (fun j hj e => rfl)) ((hT1.putA hne _ _ vI_0.symm).putE hne _ _ vI_0.symm) (fun x h1 h2 h3 h4 => by rw [u2_rown _ _ _ _ h2, u2_rown _ _ _ _ h1]; exact hF x h1 h2 h3 h4) _ rfl
        · rw [u2_rown _ _ _ _ (hM.ne 19 18 rfl rfl (by decide)), u2_rown _ _ _ _ (hM.ne 19 17 rfl rfl (by decide)), u2_rown _ _ _ _ (hM.ne 20 18 rfl rfl (by decide)), u2_rown _ _ _ _ (hM.ne 20 17 rfl rfl (by decide))]; exact hW j hj
      · have c151 : ((k % 2 : Nat) : Int) = 0 := by have hcv := p_eq c151; rw [nI_toInt (show k % 2 < 2 ^ 31 by omega)] at hcv; exact hcv
        refine wp_iload_n C 2 dX12_turns_154 rfl rfl ?_
        refine wp_goto C 159 dX12_turns_155 (by decide) ?_
        refine wp_istore C [(9, .int (nI a)), (0, .ref m), (1, .int (nI e0)), (2, .int (nI a)), (3, .int (nI b)), (4, .int (nI n)), (8, .int (nI k))] dX12_turns_159 (by decide) rfl ?_
        refine wp_aload_n C 1 dX12_turns_161 rfl rfl ?_
        refine wp_getR C dX12_turns_162 fX12_turns_50 hM.ob (hM.rf 17 rfl) ?_
        refine wp_bipush C 8 dX12_turns_165 (by decide) ?_
        refine wp_aload_n C 1 dX12_turns_167 rfl rfl ?_
        refine wp_getR C dX12_turns_168 fX12_turns_56 hM.ob (hM.rf 19 rfl) ?_
        refine wp_iload C 6 dX12_turns_171 rfl ?_
        refine wp_iald C dX12_turns_173 (hM.ar 19 rfl rfl) (j := k) rfl (by omega) (by decide) ?_
        refine wp_eqi (hW k (by omega)).1 ?_
        refine wp_imul C dX12_turns_174 ?_
        refine wp_eqi (pk_mul 8 (wA ea ae a b e0 k)) ?_
        refine wp_iload C 0 dX12_turns_175 rfl ?_
        refine wp_iadd C dX12_turns_177 ?_
        refine wp_eqi (nI_add (8 * (wA ea ae a b e0 k)) a) ?_
        refine wp_iconst C (-1) dX12_turns_178 (by decide) ?_
        refine wp_iast C dX12_turns_179 (hM.ar 17 rfl rfl) (j := (8 * (wA ea ae a b e0 k)) + a) rfl (by omega) (by decide) ?_
        refine wp_aload_n C 1 dX12_turns_180 rfl rfl ?_
        refine wp_getR C dX12_turns_181 fX12_turns_53 hM.ob (hM.rf 18 rfl) ?_
        refine wp_bipush C 8 dX12_turns_184 (by decide) ?_
        refine wp_aload_n C 1 dX12_turns_186 rfl rfl ?_
        refine wp_getR C dX12_turns_187 fX12_turns_59 hM.ob (hM.rf 20 rfl) ?_
        refine wp_iload C 6 dX12_turns_190 rfl ?_
        refine wp_iald C dX12_turns_192 (hM.ar 20 rfl rfl) (j := k) rfl (by omega) (by decide) ?_
        refine wp_eqi ((u2_a _ _ _ _ (hM.ne 20 17 rfl rfl (by decide)) _).trans (hW k (by omega)).2) ?_
        refine wp_imul C dX12_turns_193 ?_
        refine wp_eqi (pk_mul 8 (wE ea ae a b e0 k)) ?_
        refine wp_iload C 0 dX12_turns_194 rfl ?_
        refine wp_iadd C dX12_turns_196 ?_
        refine wp_eqi (nI_add (8 * (wE ea ae a b e0 k)) a) ?_
        refine wp_iconst C (-1) dX12_turns_197 (by decide) ?_
        refine wp_iast C dX12_turns_198 (hM.ar 18 rfl rfl) (j := (8 * (wE ea ae a b e0 k)) + a) rfl (by omega) (by decide) ?_
        refine wp_iinc C 6 (nI (k + 1)) [(8, .int (nI (k + 1))), (9, .int (nI a)), (0, .ref m), (1, .int (nI e0)), (2, .int (nI a)), (3, .int (nI b)), (4, .int (nI n))] dX12_turns_199 rfl (nI_1 k) (by decide) rfl ?_
        refine wp_goto C 140 dX12_turns_202 (by decide) ?_
        refine wp_lv [2, 3, 4, 5, 6, 0] rfl ?_
        refine ih (k + 1) (by omega) (by omega) _ _ _ (fun j hj => ?_) (hA.step (p := 8 * wA ea ae a b e0 k + a) (x := 0) (by rw [hr_e (by omega)]) rfl (fun j hj e => rfl)) (hE.step (p := 8 * wE ea ae a b e0 k + a) (x := 0) (by rw [hr_e (by omega)]) rfl (fun j hj e => rfl)) ((hT1.putA hne _ _ vI_0.symm).putE hne _ _ vI_0.symm) (fun x h1 h2 h3 h4 => by rw [u2_rown _ _ _ _ h2, u2_rown _ _ _ _ h1]; exact hF x h1 h2 h3 h4) _ rfl
        · rw [u2_rown _ _ _ _ (hM.ne 19 18 rfl rfl (by decide)), u2_rown _ _ _ _ (hM.ne 19 17 rfl rfl (by decide)), u2_rown _ _ _ _ (hM.ne 20 18 rfl rfl (by decide)), u2_rown _ _ _ _ (hM.ne 20 17 rfl rfl (by decide))]; exact hW j hj
  have p1 : ∀ i, i ≤ 8 → ∀ (e : Nat) (I1 : gI), kE ea ae a b e0 i = e + 1 → WY I1 ad ea ae a b e0 (2 * i) → (∀ x, x ≠ ad 19 → x ≠ ad 20 → I1 x = I x) → ∀ lv, lv_pick lv [0, 1, 2, 3, 4, 5, 6, 7] = [(0, .ref m), (1, .int (nI e0)), (2, .int (nI a)), (3, .int (nI b)), (4, .int (nI (2 * i))), (5, .int (nI e)), (6, .int 1), (7, .int 1)] → WP E 10 0 0 T I1 J R 12 lv [] := by
    refine loopN 8 (fun i hi ih => ?_)
    intro e I1 he hW hF lv hlv
    refine wp_lv [0, 1, 2, 3, 4, 5, 6, 7] hlv ?_
    have rE := (hK.rng i).1
    have rA := (hK.rng i).2
    have rE2 := (hK.rng (i + 1)).1
    have ka : ae (8 * e + a) = kA ea ae a b e0 i := by rw [kA_d, if_neg (by omega), he]; rfl
    have fr17 : I1 (ad 17) = I (ad 17) := hF _ (hM.ne 17 19 rfl rfl (by decide)) (hM.ne 17 20 rfl rfl (by decide))
    have fr18 : I1 (ad 18) = I (ad 18) := hF _ (hM.ne 18 19 rfl rfl (by decide)) (hM.ne 18 20 rfl rfl (by decide))
    refine wp_iload C 7 dX12_turns_12 rfl ?_
    refine wp_if_eq C 137 dX12_turns_14 (by decide) (fun c14 => ?_) (fun c14 => ?_)
    · exact absurd c14 (by decide)
    · refine wp_iload C 6 dX12_turns_17 rfl ?_
      refine wp_if_eq C 37 dX12_turns_19 (by decide) (fun c19 => ?_) (fun c19 => ?_)
      · exact absurd c19 (by decide)
      · refine wp_aload_n C 0 dX12_turns_22 rfl rfl ?_
        refine wp_getR C dX12_turns_23 fX12_turns_53 hM.ob (hM.rf 18 rfl) ?_
        refine wp_bipush C 8 dX12_turns_26 (by decide) ?_
        refine wp_iload C 5 dX12_turns_28 rfl ?_
        refine wp_imul C dX12_turns_30 ?_
        refine wp_eqi (pk_mul 8 e) ?_
        refine wp_iload_n C 2 dX12_turns_31 rfl rfl ?_
        refine wp_iadd C dX12_turns_32 ?_
        refine wp_eqi (nI_add (8 * e) a) ?_
        refine wp_iald C dX12_turns_33 (hM.ar 18 rfl rfl) (j := (8 * e) + a) rfl (by omega) (by decide) ?_
        refine wp_eqi ((congrFun fr18 _).trans ((hT.2 _ (by omega)).trans (congrArg vI ka))) ?_
        refine wp_goto C 46 dX12_turns_34 (by decide) ?_
        refine wp_istore C [(8, .int (vI (kA ea ae a b e0 i))), (0, .ref m), (1, .int (nI e0)), (2, .int (nI a)), (3, .int (nI b)), (4, .int (nI (2 * i))), (5, .int (nI e)), (6, .int 1), (7, .int 1)] dX12_turns_46 (by decide) rfl ?_
        refine wp_iload C 7 dX12_turns_48 rfl ?_
        refine wp_if_eq C 58 dX12_turns_50 (by decide) (fun c50 => ?_) (fun c50 => ?_)
        · exact absurd c50 (by decide)
        · refine wp_iload C 6 dX12_turns_53 rfl ?_
          refine wp_goto C 70 dX12_turns_55 (by decide) ?_
          refine wp_istore C [(9, .int (nI e)), (8, .int (vI (kA ea ae a b e0 i))), (0, .ref m), (1, .int (nI e0)), (2, .int (nI a)), (3, .int (nI b)), (4, .int (nI (2 * i))), (5, .int (nI e)), (6, .int 1), (7, .int 1)] dX12_turns_70 (by decide) rfl ?_
          refine wp_iload C 1 dX12_turns_72 rfl ?_
          refine wp_if_lt C 86 dX12_turns_74 (by decide) (fun c74 => ?_) (fun c74 => ?_)
          · have c74 : kA ea ae a b e0 i = 0 := by have hcv := p_lt c74; rw [vI_toInt (by omega), show ((0 : Int32)).toInt = 0 from rfl] at hcv; omega
            refine wp_iconst C 0 dX12_turns_86 (by decide) ?_
            refine wp_istore C [(7, .int 0), (9, .int (nI e)), (8, .int (vI (kA ea ae a b e0 i))), (0, .ref m), (1, .int (nI e0)), (2, .int (nI a)), (3, .int (nI b)), (4, .int (nI (2 * i))), (5, .int (nI e)), (6, .int 1)] dX12_turns_87 (by decide) rfl ?_
            refine wp_iload C 0 dX12_turns_89 rfl ?_
            refine wp_if_ne C 97 dX12_turns_91 (by decide) (fun c91 => ?_) (fun c91 => ?_)
            · exact absurd (by decide) c91
            · refine wp_goto C 12 dX12_turns_94 (by decide) ?_
              refine wp_iload C 0 dX12_turns_12 rfl ?_
              refine wp_if_eq C 137 dX12_turns_14 (by decide) (fun c14 => ?_) (fun c14 => ?_)
              · refine wp_iconst C 0 dX12_turns_137 (by decide) ?_
                refine wp_istore C [(8, .int 0), (7, .int 0), (9, .int (nI e)), (0, .ref m), (1, .int (nI e0)), (2, .int (nI a)), (3, .int (nI b)), (4, .int (nI (2 * i))), (5, .int (nI e)), (6, .int 1)] dX12_turns_138 (by decide) rfl ?_
                refine wp_lv [3, 4, 5, 6, 7, 0] rfl ?_
                exact p2 (2 * i) (hK.nn0 (by omega) c74) 0 (by omega) I1 ea ae hW (Wr.nil _ _ _) (Wr.nil _ _ _) ⟨fun q hq => by rw [fr17]; exact hT.1 q hq, fun q hq => by rw [fr18]; exact hT.2 q hq⟩ (fun x h1 h2 h3 h4 => hF x h3 h4) _ rfl
              · exact absurd (by decide) c14
          · have c74 : ¬ kA ea ae a b e0 i = 0 := by have hcv := n_lt c74; rw [vI_toInt (by omega), show ((0 : Int32)).toInt = 0 from rfl] at hcv; omega
            refine wp_iload C 0 dX12_turns_77 rfl ?_
            refine wp_if_lt C 86 dX12_turns_79 (by decide) (fun c79 => ?_) (fun c79 => ?_)
            · exact absurd (p_lt c79) (by rw [nI_toInt (by omega), show ((0 : Int32)).toInt = 0 from rfl]; omega)
            · refine wp_iconst C 1 dX12_turns_82 (by decide) ?_
              refine wp_goto C 87 dX12_turns_83 (by decide) ?_
              refine wp_istore C [(7, .int 1), (9, .int (nI e)), (8, .int (vI (kA ea ae a b e0 i))), (0, .ref m), (1, .int (nI e0)), (2, .int (nI a)), (3, .int (nI b)), (4, .int (nI (2 * i))), (5, .int (nI e)), (6, .int 1)] dX12_turns_87 (by decide) rfl ?_
              refine wp_iload C 0 dX12_turns_89 rfl ?_
              refine wp_if_ne C 97 dX12_turns_91 (by decide) (fun c91 => ?_) (fun c91 => ?_)
              · obtain ⟨v, hv⟩ : ∃ v, kA ea ae a b e0 i = v + 1 := ⟨kA ea ae a b e0 i - 1, by omega⟩
                rw [hv, vI_s]
                have ke : ea (8 * v + b) = kE ea ae a b e0 (i + 1) := by rw [kE_s, if_neg (by omega), hv]; rfl
                have i8 := hK.fin (i := i) (by omega)
                refine wp_aload_n C 3 dX12_turns_97 rfl rfl ?_
                refine wp_getR C dX12_turns_98 fX12_turns_56 hM.ob (hM.rf 19 rfl) ?_
                refine wp_iload C 7 dX12_turns_101 rfl ?_
                refine wp_iload C 2 dX12_turns_103 rfl ?_
                refine wp_iast C dX12_turns_105 (hM.ar 19 rfl rfl) (j := 2 * i) rfl (by omega) (by decide) ?_
                refine wp_aload_n C 3 dX12_turns_106 rfl rfl ?_
                refine wp_getR C dX12_turns_107 fX12_turns_59 hM.ob (hM.rf 20 rfl) ?_
                refine wp_iload C 7 dX12_turns_110 rfl ?_
                refine wp_iload C 1 dX12_turns_112 rfl ?_
                refine wp_iast C dX12_turns_114 (hM.ar 20 rfl rfl) (j := 2 * i) rfl (by omega) (by decide) ?_
                refine wp_iinc C 7 (nI ((2 * i) + 1)) [(4, .int (nI ((2 * i) + 1))), (7, .int 1), (9, .int (nI e)), (8, .int (nI v)), (0, .ref m), (1, .int (nI e0)), (2, .int (nI a)), (3, .int (nI b)), (5, .int (nI e)), (6, .int 1)] dX12_turns_115 rfl (nI_1 (2 * i)) (by decide) rfl ?_
                refine wp_iload C 2 dX12_turns_118 rfl ?_
                refine wp_istore C [(5, .int (nI e)), (4, .int (nI ((2 * i) + 1))), (7, .int 1), (9, .int (nI e)), (8, .int (nI v)), (0, .ref m), (1, .int (nI e0)), (2, .int (nI a)), (3, .int (nI b)), (6, .int 1)] dX12_turns_120 (by decide) rfl ?_
                refine wp_iload C 9 dX12_turns_122 rfl ?_
                refine wp_if_ne C 131 dX12_turns_124 (by decide) (fun c124 => ?_) (fun c124 => ?_)
                · refine wp_iconst C 0 dX12_turns_131 (by decide) ?_
                  refine wp_istore C [(6, .int 0), (5, .int (nI e)), (4, .int (nI ((2 * i) + 1))), (7, .int 1), (9, .int (nI e)), (8, .int (nI v)), (0, .ref m), (1, .int (nI e0)), (2, .int (nI a)), (3, .int (nI b))] dX12_turns_132 (by decide) rfl ?_
                  refine wp_goto C 12 dX12_turns_134 (by decide) ?_
                  refine wp_iload C 3 dX12_turns_12 rfl ?_
                  refine wp_if_eq C 137 dX12_turns_14 (by decide) (fun c14 => ?_) (fun c14 => ?_)
                  · exact absurd c14 (by decide)
                  · refine wp_iload C 0 dX12_turns_17 rfl ?_
                    refine wp_if_eq C 37 dX12_turns_19 (by decide) (fun c19 => ?_) (fun c19 => ?_)
                    · refine wp_aload_n C 6 dX12_turns_37 rfl rfl ?_
                      refine wp_getR C dX12_turns_38 fX12_turns_56 hM.ob (hM.rf 19 rfl) ?_
                      refine wp_iload C 2 dX12_turns_41 rfl ?_
                      refine wp_iconst C 1 dX12_turns_43 (by decide) ?_
                      refine wp_isub C dX12_turns_44 ?_
                      refine wp_iald C dX12_turns_45 (hM.ar 19 rfl rfl) (j := 2 * i) (nI_pred (2 * i)) (by omega) (by decide) ?_
                      refine wp_eqi ((u2_a _ _ _ _ (hM.ne 19 20 rfl rfl (by decide)) _).trans (u2_s _ _ _ _)) ?_
                      refine wp_istore C [(8, .int (nI v)), (6, .int 0), (5, .int (nI e)), (4, .int (nI ((2 * i) + 1))), (7, .int 1), (9, .int (nI e)), (0, .ref m), (1, .int (nI e0)), (2, .int (nI a)), (3, .int (nI b))] dX12_turns_46 (by decide) rfl ?_
                      refine wp_iload C 1 dX12_turns_48 rfl ?_
                      refine wp_if_eq C 58 dX12_turns_50 (by decide) (fun c50 => ?_) (fun c50 => ?_)
                      · refine wp_aload_n C 6 dX12_turns_58 rfl rfl ?_
                        refine wp_getR C dX12_turns_59 fX12_turns_50 hM.ob (hM.rf 17 rfl) ?_
                        refine wp_bipush C 8 dX12_turns_62 (by decide) ?_
                        refine wp_iload C 0 dX12_turns_64 rfl ?_
                        refine wp_imul C dX12_turns_66 ?_
                        refine wp_eqi (pk_mul 8 v) ?_
                        refine wp_iload_n C 9 dX12_turns_67 rfl rfl ?_
                        refine wp_iadd C dX12_turns_68 ?_
                        refine wp_eqi (nI_add (8 * v) b) ?_
                        refine wp_iald C dX12_turns_69 (hM.ar 17 rfl rfl) (j := (8 * v) + b) rfl (by omega) (by decide) ?_
                        refine wp_eqi (((u2_a _ _ _ _ (hM.ne 17 20 rfl rfl (by decide)) _).trans (u2_a _ _ _ _ (hM.ne 17 19 rfl rfl (by decide)) _)).trans ((congrFun fr17 _).trans ((hT.1 _ (by omega)).trans (congrArg vI ke)))) ?_
                        refine wp_istore C [(9, .int (vI (kE ea ae a b e0 (i + 1)))), (8, .int (nI v)), (6, .int 0), (5, .int (nI e)), (4, .int (nI ((2 * i) + 1))), (7, .int 1), (0, .ref m), (1, .int (nI e0)), (2, .int (nI a)), (3, .int (nI b))] dX12_turns_70 (by decide) rfl ?_
                        refine wp_iload C 1 dX12_turns_72 rfl ?_
                        refine wp_if_lt C 86 dX12_turns_74 (by decide) (fun c74 => ?_) (fun c74 => ?_)
                        · exact absurd (p_lt c74) (by rw [nI_toInt (by omega), show ((0 : Int32)).toInt = 0 from rfl]; omega)
                        · refine wp_iload C 0 dX12_turns_77 rfl ?_
                          refine wp_if_lt C 86 dX12_turns_79 (by decide) (fun c79 => ?_) (fun c79 => ?_)
                          · have c79 : kE ea ae a b e0 (i + 1) = 0 := by have hcv := p_lt c79; rw [vI_toInt (by omega), show ((0 : Int32)).toInt = 0 from rfl] at hcv; omega
                            refine wp_iconst C 0 dX12_turns_86 (by decide) ?_
                            refine wp_istore C [(7, .int 0), (9, .int (vI (kE ea ae a b e0 (i + 1)))), (8, .int (nI v)), (6, .int 0), (5, .int (nI e)), (4, .int (nI ((2 * i) + 1))), (0, .ref m), (1, .int (nI e0)), (2, .int (nI a)), (3, .int (nI b))] dX12_turns_87 (by decide) rfl ?_
                            refine wp_iload C 0 dX12_turns_89 rfl ?_
                            refine wp_if_ne C 97 dX12_turns_91 (by decide) (fun c91 => ?_) (fun c91 => ?_)
                            · exact absurd (by decide) c91
                            · refine wp_goto C 12 dX12_turns_94 (by decide) ?_
                              refine wp_iload C 0 dX12_turns_12 rfl ?_
                              refine wp_if_eq C 137 dX12_turns_14 (by decide) (fun c14 => ?_) (fun c14 => ?_)
                              · refine wp_iconst C 0 dX12_turns_137 (by decide) ?_
                                refine wp_istore C [(8, .int 0), (7, .int 0), (9, .int (vI (kE ea ae a b e0 (i + 1)))), (6, .int 0), (5, .int (nI e)), (4, .int (nI ((2 * i) + 1))), (0, .ref m), (1, .int (nI e0)), (2, .int (nI a)), (3, .int (nI b))] dX12_turns_138 (by decide) rfl ?_
                                refine wp_lv [6, 7, 8, 9, 5, 0] rfl ?_
                                refine p2 (2 * i + 1) (hK.nn1 (by omega) c79) 0 (by omega) _ ea ae (fun k hk => ?_) (Wr.nil _ _ _) (Wr.nil _ _ _) ⟨fun q hq => by rw [u2_rown _ _ _ _ (hM.ne 17 20 rfl rfl (by decide)), u2_rown _ _ _ _ (hM.ne 17 19 rfl rfl (by decide)), fr17]; exact hT.1 q hq, fun q hq => by rw [u2_rown _ _ _ _ (hM.ne 18 20 rfl rfl (by decide)), u2_rown _ _ _ _ (hM.ne 18 19 rfl rfl (by decide)), fr18]; exact hT.2 q hq⟩ (fun x h1 h2 h3 h4 => by rw [u2_rown _ _ _ _ h4, u2_rown _ _ _ _ h3]; exact hF x h3 h4) _ rfl
                                rw [u2_a _ _ _ _ (hM.ne 19 20 rfl rfl (by decide)), u2_if, u2_if, u2_a _ _ _ _ (hM.ne 20 19 rfl rfl (by decide))]
                                by_cases k2 : k = 2 * i
                                · subst k2; rw [if_pos rfl, if_pos rfl]; unfold wA wE; rw [show (2 * i) / 2 = i by omega, show (2 * i + 1) / 2 = i by omega, hv, he]; exact ⟨rfl, rfl⟩
                                · rw [if_neg k2, if_neg k2]; exact hW k (by omega)
                              · exact absurd (by decide) c14
                          · have c79 : ¬ kE ea ae a b e0 (i + 1) = 0 := by have hcv := n_lt c79; rw [vI_toInt (by omega), show ((0 : Int32)).toInt = 0 from rfl] at hcv; omega
                            refine wp_iconst C 1 dX12_turns_82 (by decide) ?_
                            refine wp_goto C 87 dX12_turns_83 (by decide) ?_
                            refine wp_istore C [(7, .int 1), (9, .int (vI (kE ea ae a b e0 (i + 1)))), (8, .int (nI v)), (6, .int 0), (5, .int (nI e)), (4, .int (nI ((2 * i) + 1))), (0, .ref m), (1, .int (nI e0)), (2, .int (nI a)), (3, .int (nI b))] dX12_turns_87 (by decide) rfl ?_
                            refine wp_iload C 0 dX12_turns_89 rfl ?_
                            refine wp_if_ne C 97 dX12_turns_91 (by decide) (fun c91 => ?_) (fun c91 => ?_)
                            · obtain ⟨e2, he2⟩ : ∃ e2, kE ea ae a b e0 (i + 1) = e2 + 1 := ⟨kE ea ae a b e0 (i + 1) - 1, by omega⟩
                              rw [he2, vI_s]
                              refine wp_aload_n C 6 dX12_turns_97 rfl rfl ?_
                              refine wp_getR C dX12_turns_98 fX12_turns_56 hM.ob (hM.rf 19 rfl) ?_
                              refine wp_iload C 5 dX12_turns_101 rfl ?_
                              refine wp_iload C 2 dX12_turns_103 rfl ?_
                              refine wp_iast C dX12_turns_105 (hM.ar 19 rfl rfl) (j := (2 * i) + 1) rfl (by omega) (by decide) ?_
                              refine wp_aload_n C 6 dX12_turns_106 rfl rfl ?_
                              refine wp_getR C dX12_turns_107 fX12_turns_59 hM.ob (hM.rf 20 rfl) ?_
                              refine wp_iload C 5 dX12_turns_110 rfl ?_
                              refine wp_iload C 1 dX12_turns_112 rfl ?_
                              refine wp_iast C dX12_turns_114 (hM.ar 20 rfl rfl) (j := (2 * i) + 1) rfl (by omega) (by decide) ?_
                              refine wp_iinc C 5 (nI (((2 * i) + 1) + 1)) [(4, .int (nI (((2 * i) + 1) + 1))), (7, .int 1), (9, .int (nI e2)), (8, .int (nI v)), (6, .int 0), (5, .int (nI e)), (0, .ref m), (1, .int (nI e0)), (2, .int (nI a)), (3, .int (nI b))] dX12_turns_115 rfl (nI_1 ((2 * i) + 1)) (by decide) rfl ?_
                              refine wp_iload C 2 dX12_turns_118 rfl ?_
                              refine wp_istore C [(5, .int (nI e2)), (4, .int (nI (((2 * i) + 1) + 1))), (7, .int 1), (9, .int (nI e2)), (8, .int (nI v)), (6, .int 0), (0, .ref m), (1, .int (nI e0)), (2, .int (nI a)), (3, .int (nI b))] dX12_turns_120 (by decide) rfl ?_
                              refine wp_iload C 5 dX12_turns_122 rfl ?_
                              refine wp_if_ne C 131 dX12_turns_124 (by decide) (fun c124 => ?_) (fun c124 => ?_)
                              · exact absurd (by decide) c124
                              · refine wp_iconst C 1 dX12_turns_127 (by decide) ?_
                                refine wp_goto C 132 dX12_turns_128 (by decide) ?_
                                refine wp_istore C [(6, .int 1), (5, .int (nI e2)), (4, .int (nI (((2 * i) + 1) + 1))), (7, .int 1), (9, .int (nI e2)), (8, .int (nI v)), (0, .ref m), (1, .int (nI e0)), (2, .int (nI a)), (3, .int (nI b))] dX12_turns_132 (by decide) rfl ?_
                                refine wp_goto C 12 dX12_turns_134 (by decide) ?_
                                refine wp_lv [6, 7, 8, 9, 2, 1, 0, 3] rfl ?_
                                refine ih (i + 1) (by omega) (by omega) e2 _ he2 (fun k hk => ?_) (fun x h1 h2 => by rw [u2_rown _ _ _ _ h2, u2_rown _ _ _ _ h1, u2_rown _ _ _ _ h2, u2_rown _ _ _ _ h1]; exact hF x h1 h2) _ rfl
                                rw [u2_a _ _ _ _ (hM.ne 19 20 rfl rfl (by decide)), u2_if, u2_a _ _ _ _ (hM.ne 19 20 rfl rfl (by decide)), u2_if, u2_if, u2_a _ _ _ _ (hM.ne 20 19 rfl rfl (by decide)), u2_if, u2_a _ _ _ _ (hM.ne 20 19 rfl rfl (by decide))]
                                by_cases k1 : k = 2 * i + 1
                                · subst k1; rw [if_pos rfl, if_pos rfl]; unfold wA wE; rw [show (2 * i + 1) / 2 = i by omega, show (2 * i + 1 + 1) / 2 = i + 1 by omega, hv, he2]; exact ⟨rfl, rfl⟩
                                · rw [if_neg k1, if_neg k1]
                                  by_cases k2 : k = 2 * i
                                  · subst k2; rw [if_pos rfl, if_pos rfl]; unfold wA wE; rw [show (2 * i) / 2 = i by omega, show (2 * i + 1) / 2 = i by omega, hv, he]; exact ⟨rfl, rfl⟩
                                  · rw [if_neg k2, if_neg k2]; exact hW k (by omega)
                            · exact absurd c91 (by decide)
                      · exact absurd (by decide) c50
                    · exact absurd (by decide) c19
                · exact absurd c124 (by decide)
              · exact absurd c91 (by decide)
  refine wp_iconst C 0 dX12_turns_0 (by decide) ?_
  refine wp_istore C [(4, .int 0), (0, .ref m), (1, .int (nI e0)), (2, .int (nI a)), (3, .int (nI b))] dX12_turns_1 (by decide) rfl ?_
  refine wp_iload_n C 2 dX12_turns_3 rfl rfl ?_
  refine wp_istore C [(5, .int (nI e0)), (4, .int 0), (0, .ref m), (1, .int (nI e0)), (2, .int (nI a)), (3, .int (nI b))] dX12_turns_4 (by decide) rfl ?_
  refine wp_iconst C 1 dX12_turns_6 (by decide) ?_
  refine wp_istore C [(6, .int 1), (5, .int (nI e0)), (4, .int 0), (0, .ref m), (1, .int (nI e0)), (2, .int (nI a)), (3, .int (nI b))] dX12_turns_7 (by decide) rfl ?_
  refine wp_iconst C 1 dX12_turns_9 (by decide) ?_
  refine wp_istore C [(7, .int 1), (6, .int 1), (5, .int (nI e0)), (4, .int 0), (0, .ref m), (1, .int (nI e0)), (2, .int (nI a)), (3, .int (nI b))] dX12_turns_10 (by decide) rfl ?_
  refine wp_lv [4, 5, 6, 7, 3, 2, 1, 0] rfl ?_
  exact p1 0 (by omega) e0 I rfl (fun k hk => by omega) (fun _ _ _ => rfl) _ rfl
/-- the first of the hours from j on at which g is 0 -/
def Fh (g : Nat → Nat) (j H : Nat) (v : Int32) : Prop := (v = -1 ∧ ∀ k, j ≤ k → k < H → g k ≠ 0) ∨ (∃ k, v = nI k ∧ j ≤ k ∧ k < H ∧ g k = 0 ∧ ∀ i, j ≤ i → i < k → g i ≠ 0)
theorem Fh.end {g : Nat → Nat} {H : Nat} {v : Int32} (h : Fh g 0 H v) : v = fh g H := by
  rcases h with ⟨rfl, q⟩ | ⟨k, rfl, -, q2, q3, q4⟩
  · exact (fh_n (fun j hj => q j (Nat.zero_le _) hj)).symm
  · exact (fh_y q2 q3 (fun j hj => q4 j (Nat.zero_le _) hj)).symm
theorem Fh.yes {g : Nat → Nat} {j H : Nat} (h1 : j < H) (h2 : g j = 0) : Fh g j H (nI j) := Or.inr ⟨j, rfl, Nat.le_refl _, h1, h2, fun i h3 h4 => by omega⟩
theorem Fh.no {g : Nat → Nat} {j H : Nat} {v : Int32} (h : Fh g (j + 1) H v) (h2 : g j ≠ 0) : Fh g j H v := by
  have z : ∀ k, j ≤ k → k ≠ j → j + 1 ≤ k := fun k h3 h4 => by omega
  rcases h with ⟨rfl, q⟩ | ⟨k, rfl, q1, q2, q3, q4⟩
  · refine Or.inl ⟨rfl, fun k h3 h4 => ?_⟩
    by_cases e : k = j
    · rw [e]; exact h2
    · exact q k (z k h3 e) h4
  · refine Or.inr ⟨k, rfl, by omega, q2, q3, fun i h3 h4 => ?_⟩
    by_cases e : i = j
    · rw [e]; exact h2
    · exact q4 i (z i h3 e) h4
theorem Fh.nil (g : Nat → Nat) (H : Nat) : Fh g H H (-1) := Or.inl ⟨rfl, fun k h1 h2 => by omega⟩
set_option maxRecDepth 100000 in
set_option maxHeartbeats 4000000 in
theorem m_lay (l : Launch) {T : gSh} {I : gI} {J : gJ} {R : gR} {m : Nat} {ad : Nat → Nat} (hM : MO T R m ad) {H : Nat} (hH : I m 9 = nI H) (hH8 : H ≤ 8) {ea ae : Nat → Nat} (hT : TT I (ad 17) (ad 18) ea ae) (hB : TB ea ae) {ag ed : Nat} (hag : ag < 8) (hed : ed < 10) (fa : ff (fun k => ea (8 * ag + k)) H < H) (fb : ff (fun k => ae (8 * ed + k)) H < H) : Con l yX12_lay wsX12_lay ({ frames := 1, cells := 0, slots := 0, locals := 29 }) [.ref m, .int (nI ag), .int (nI ed)] T I J R (PY T J R I ad (layF H (ea, ae) ag ed)) := by
  refine Con.mk (cc := cX12_lay) (maxL := 9) (ret := none) (by decide) rfl (Nat.le_of_ble_eq_true rfl) ?_
  intro E hE C Z hnm
  subst hE
  change WP E 9 0 0 T I J R 0 [(0, .ref m), (1, .int (nI ag)), (2, .int (nI ed))] []
  have hne : ad 17 ≠ ad 18 := (hM.ne 17 18 rfl rfl (by decide))
  have fin : ∀ lv, lv_pick lv [0, 1, 2, 3, 4, 5] = [(0, .ref m), (1, .int (nI ag)), (2, .int (nI ed)), (3, .int (fh (fun k => ea (8 * ag + k) + ae (8 * ed + k)) H)), (4, .int (fh (fun k => ea (8 * ag + k)) H)), (5, .int (fh (fun k => ae (8 * ed + k)) H))] → WP E 9 0 0 T I J R 102 lv [] := by
    intro lv hlv
    refine wp_lv [0, 1, 2, 3, 4, 5] hlv ?_
    obtain ⟨a, eha⟩ : ∃ x, ff (fun k => ea (8 * ag + k)) H = x := ⟨_, rfl⟩
    obtain ⟨b, ehb⟩ : ∃ x, ff (fun k => ae (8 * ed + k)) H = x := ⟨_, rfl⟩
    have haH : a < H := by omega
    have hbH : b < H := by omega
    rw [show fh (fun k => ea (8 * ag + k)) H = nI a by unfold fh; rw [if_pos fa, eha], show fh (fun k => ae (8 * ed + k)) H = nI b by unfold fh; rw [if_pos fb, ehb]]
    by_cases q : ff (fun k => ea (8 * ag + k) + ae (8 * ed + k)) H < H
    · obtain ⟨hb, ehc⟩ : ∃ x, ff (fun k => ea (8 * ag + k) + ae (8 * ed + k)) H = x := ⟨_, rfl⟩
      have hbH : hb < H := by omega
      rw [show fh (fun k => ea (8 * ag + k) + ae (8 * ed + k)) H = nI hb by unfold fh; rw [if_pos q, ehc]]
      refine wp_iload_n C 3 dX12_lay_102 rfl rfl ?_
      refine wp_if_ge C 118 dX12_lay_103 (by decide) (fun c103 => ?_) (fun c103 => ?_)
      · refine wp_aload_n C 0 dX12_lay_118 rfl rfl ?_
        refine wp_getR C dX12_lay_119 fX12_lay_50 hM.ob (hM.rf 17 rfl) ?_
        refine wp_bipush C 8 dX12_lay_122 (by decide) ?_
        refine wp_iload_n C 1 dX12_lay_124 rfl rfl ?_
        refine wp_imul C dX12_lay_125 ?_
        refine wp_eqi (pk_mul 8 ag) ?_
        refine wp_iload_n C 3 dX12_lay_126 rfl rfl ?_
        refine wp_iadd C dX12_lay_127 ?_
        refine wp_eqi (nI_add (8 * ag) hb) ?_
        refine wp_iload_n C 2 dX12_lay_128 rfl rfl ?_
        refine wp_iast C dX12_lay_129 (hM.ar 17 rfl rfl) (j := (8 * ag) + hb) rfl (by omega) (by decide) ?_
        refine wp_aload_n C 0 dX12_lay_130 rfl rfl ?_
        refine wp_getR C dX12_lay_131 fX12_lay_53 hM.ob (hM.rf 18 rfl) ?_
        refine wp_bipush C 8 dX12_lay_134 (by decide) ?_
        refine wp_iload_n C 2 dX12_lay_136 rfl rfl ?_
        refine wp_imul C dX12_lay_137 ?_
        refine wp_eqi (pk_mul 8 ed) ?_
        refine wp_iload_n C 3 dX12_lay_138 rfl rfl ?_
        refine wp_iadd C dX12_lay_139 ?_
        refine wp_eqi (nI_add (8 * ed) hb) ?_
        refine wp_iload_n C 1 dX12_lay_140 rfl rfl ?_
        refine wp_iast C dX12_lay_141 (hM.ar 18 rfl rfl) (j := (8 * ed) + hb) rfl (by omega) (by decide) ?_
        exact wp_vret C Z dX12_lay_142 (by decide) (by decide) ⟨rfl, rfl, rfl, rfl, fun x h1 h2 _ _ => by rw [u2_rown _ _ _ _ h2, u2_rown _ _ _ _ h1], by unfold layF; dsimp only; rw [if_pos q, ehc]; exact (hT.putA hne (8 * ag + hb) (ed + 1) (vI_s ed).symm).putE hne (8 * ed + hb) (ag + 1) (vI_s ag).symm⟩
      · exact absurd (n_le c103) (by rw [nI_toInt (by omega), show ((0 : Int32)).toInt = 0 from rfl]; omega)
    · rw [show fh (fun k => ea (8 * ag + k) + ae (8 * ed + k)) H = -1 by unfold fh; rw [if_neg q]]
      have s := ff_sp (fun k => ea (8 * ag + k) + ae (8 * ed + k)) H
      have za := (ff_sp (fun k => ea (8 * ag + k)) H).2.1 fa
      have zb := (ff_sp (fun k => ae (8 * ed + k)) H).2.1 fb
      rw [eha] at za
      rw [ehb] at zb
      have hab : a ≠ b := by
        intro e
        have z := s.2.2 a (by omega)
        exact z (by show ea (8 * ag + a) + ae (8 * ed + a) = 0; have z1 : ea (8 * ag + a) = 0 := za; have z2 : ae (8 * ed + b) = 0 := zb; rw [e] at z1 ⊢; omega)
      have hK : KC ea ae a b ed := ⟨hB, by omega, by omega, hed, zb⟩
      refine wp_iload_n C 3 dX12_lay_102 rfl rfl ?_
      refine wp_if_ge C 118 dX12_lay_103 (by decide) (fun c103 => ?_) (fun c103 => ?_)
      · exact absurd c103 (by decide)
      · refine wp_aload_n C 0 dX12_lay_106 rfl rfl ?_
        refine wp_iload_n C 2 dX12_lay_107 rfl rfl ?_
        refine wp_iload C 4 dX12_lay_108 rfl ?_
        refine wp_iload C 5 dX12_lay_110 rfl ?_
        refine wp_callV C (As := [.int (nI ed), .int (nI a), .int (nI b)]) (rest := []) dX12_lay_112 kX12_lay_191 hM.ob (m_turns _ hM hT hK hab) rfl (Nat.le_of_ble_eq_true rfl) (by decide) (by decide) ?_
        rintro _ _ I2 _ _ ⟨rfl, rfl, rfl, rfl, hF2, hT2⟩
        change WP E 9 0 0 T I2 J R 115 [(0, .ref m), (1, .int (nI ag)), (2, .int (nI ed)), (3, .int (-1)), (4, .int (nI a)), (5, .int (nI b))] []
        refine wp_iload C 4 dX12_lay_115 rfl ?_
        refine wp_istore_n C [(3, .int (nI a)), (0, .ref m), (1, .int (nI ag)), (2, .int (nI ed)), (4, .int (nI a)), (5, .int (nI b))] dX12_lay_117 rfl (by decide) rfl ?_
        refine wp_aload_n C 1 dX12_lay_118 rfl rfl ?_
        refine wp_getR C dX12_lay_119 fX12_lay_50 hM.ob (hM.rf 17 rfl) ?_
        refine wp_bipush C 8 dX12_lay_122 (by decide) ?_
        refine wp_iload_n C 2 dX12_lay_124 rfl rfl ?_
        refine wp_imul C dX12_lay_125 ?_
        refine wp_eqi (pk_mul 8 ag) ?_
        refine wp_iload_n C 0 dX12_lay_126 rfl rfl ?_
        refine wp_iadd C dX12_lay_127 ?_
        refine wp_eqi (nI_add (8 * ag) a) ?_
        refine wp_iload_n C 3 dX12_lay_128 rfl rfl ?_
        refine wp_iast C dX12_lay_129 (hM.ar 17 rfl rfl) (j := (8 * ag) + a) rfl (by omega) (by decide) ?_
        refine wp_aload_n C 1 dX12_lay_130 rfl rfl ?_
        refine wp_getR C dX12_lay_131 fX12_lay_53 hM.ob (hM.rf 18 rfl) ?_
        refine wp_bipush C 8 dX12_lay_134 (by decide) ?_
        refine wp_iload_n C 3 dX12_lay_136 rfl rfl ?_
        refine wp_imul C dX12_lay_137 ?_
        refine wp_eqi (pk_mul 8 ed) ?_
        refine wp_iload_n C 0 dX12_lay_138 rfl rfl ?_
        refine wp_iadd C dX12_lay_139 ?_
        refine wp_eqi (nI_add (8 * ed) a) ?_
        refine wp_iload_n C 2 dX12_lay_140 rfl rfl ?_
        refine wp_iast C dX12_lay_141 (hM.ar 18 rfl rfl) (j := (8 * ed) + a) rfl (by omega) (by decide) ?_
        exact wp_vret C Z dX12_lay_142 (by decide) (by decide) ⟨rfl, rfl, rfl, rfl, fun x h1 h2 h3 h4 => by rw [u2_rown _ _ _ _ h2, u2_rown _ _ _ _ h1]; exact hF2 x h1 h2 h3 h4, by unfold layF; dsimp only; rw [if_neg q, eha, ehb]; exact (hT2.putA hne (8 * ag + a) (ed + 1) (vI_s ed).symm).putE hne (8 * ed + a) (ag + 1) (vI_s ag).symm⟩
  have loop : ∀ j, j ≤ H → ∀ v1 v2 v3 : Int32, Fh (fun k => ea (8 * ag + k) + ae (8 * ed + k)) j H v1 → Fh (fun k => ea (8 * ag + k)) j H v2 → Fh (fun k => ae (8 * ed + k)) j H v3 → ∀ lv, lv_pick lv [0, 1, 2, 3, 4, 5, 6] = [(0, .ref m), (1, .int (nI ag)), (2, .int (nI ed)), (3, .int v1), (4, .int v2), (5, .int v3), (6, .int (vI j))] → WP E 9 0 0 T I J R 16 lv [] := by
    intro j
    induction j with
    | zero =>
      intro _ v1 v2 v3 h1 h2 h3 lv hlv
      refine wp_lv [0, 1, 2, 3, 4, 5, 6] hlv ?_
      rw [vI_0]
      have e1 := h1.end
      have e2 := h2.end
      have e3 := h3.end
      subst e1 e2 e3
      refine wp_iload C 6 dX12_lay_16 rfl ?_
      refine wp_if_lt C 102 dX12_lay_18 (by decide) (fun c18 => ?_) (fun c18 => ?_)
      · refine wp_lv [0, 1, 2, 3, 4, 5] rfl ?_
        exact fin _ rfl
      · exact absurd (by decide) c18
    | succ j ih =>
      intro hj v1 v2 v3 h1 h2 h3 lv hlv
      refine wp_lv [0, 1, 2, 3, 4, 5, 6] hlv ?_
      rw [vI_s]
      have b1 := hB.1 (8 * ag + j) (by omega)
      have b2 := hB.2.1 (8 * ed + j) (by omega)
      refine wp_iload C 6 dX12_lay_16 rfl ?_
      refine wp_if_lt C 102 dX12_lay_18 (by decide) (fun c18 => ?_) (fun c18 => ?_)
      · exact absurd (p_lt c18) (by rw [nI_toInt (by omega), show ((0 : Int32)).toInt = 0 from rfl]; omega)
      · refine wp_aload_n C 0 dX12_lay_21 rfl rfl ?_
        refine wp_getR C dX12_lay_22 fX12_lay_50 hM.ob (hM.rf 17 rfl) ?_
        refine wp_bipush C 8 dX12_lay_25 (by decide) ?_
        refine wp_iload_n C 1 dX12_lay_27 rfl rfl ?_
        refine wp_imul C dX12_lay_28 ?_
        refine wp_eqi (pk_mul 8 ag) ?_
        refine wp_iload C 6 dX12_lay_29 rfl ?_
        refine wp_iadd C dX12_lay_31 ?_
        refine wp_eqi (nI_add (8 * ag) j) ?_
        refine wp_iald C dX12_lay_32 (hM.ar 17 rfl rfl) (j := (8 * ag) + j) rfl (by omega) (by decide) ?_
        refine wp_eqi (hT.1 _ (by omega)) ?_
        refine wp_if_ge C 40 dX12_lay_33 (by decide) (fun c33 => ?_) (fun c33 => ?_)
        · have c33 : ¬ ea (8 * ag + j) = 0 := by have hcv := p_le c33; rw [vI_toInt (by omega), show ((0 : Int32)).toInt = 0 from rfl] at hcv; omega
          refine wp_iconst C 0 dX12_lay_40 (by decide) ?_
          refine wp_istore C [(7, .int 0), (0, .ref m), (1, .int (nI ag)), (2, .int (nI ed)), (3, .int v1), (4, .int v2), (5, .int v3), (6, .int (nI j))] dX12_lay_41 (by decide) rfl ?_
          refine wp_aload_n C 1 dX12_lay_43 rfl rfl ?_
          refine wp_getR C dX12_lay_44 fX12_lay_53 hM.ob (hM.rf 18 rfl) ?_
          refine wp_bipush C 8 dX12_lay_47 (by decide) ?_
          refine wp_iload_n C 3 dX12_lay_49 rfl rfl ?_
          refine wp_imul C dX12_lay_50 ?_
          refine wp_eqi (pk_mul 8 ed) ?_
          refine wp_iload C 7 dX12_lay_51 rfl ?_
          refine wp_iadd C dX12_lay_53 ?_
          refine wp_eqi (nI_add (8 * ed) j) ?_
          refine wp_iald C dX12_lay_54 (hM.ar 18 rfl rfl) (j := (8 * ed) + j) rfl (by omega) (by decide) ?_
          refine wp_eqi (hT.2 _ (by omega)) ?_
          refine wp_if_ge C 62 dX12_lay_55 (by decide) (fun c55 => ?_) (fun c55 => ?_)
          · have c55 : ¬ ae (8 * ed + j) = 0 := by have hcv := p_le c55; rw [vI_toInt (by omega), show ((0 : Int32)).toInt = 0 from rfl] at hcv; omega
            refine wp_iconst C 0 dX12_lay_62 (by decide) ?_
            refine wp_istore C [(8, .int 0), (7, .int 0), (0, .ref m), (1, .int (nI ag)), (2, .int (nI ed)), (3, .int v1), (4, .int v2), (5, .int v3), (6, .int (nI j))] dX12_lay_63 (by decide) rfl ?_
            refine wp_iload C 1 dX12_lay_65 rfl ?_
            refine wp_if_eq C 78 dX12_lay_67 (by decide) (fun c67 => ?_) (fun c67 => ?_)
            · refine wp_iload C 1 dX12_lay_78 rfl ?_
              refine wp_if_eq C 87 dX12_lay_80 (by decide) (fun c80 => ?_) (fun c80 => ?_)
              · refine wp_iload C 0 dX12_lay_87 rfl ?_
                refine wp_if_eq C 96 dX12_lay_89 (by decide) (fun c89 => ?_) (fun c89 => ?_)
                · refine wp_iinc C 8 (nI j + (-1)) [(6, .int (nI j + (-1))), (8, .int 0), (7, .int 0), (0, .ref m), (1, .int (nI ag)), (2, .int (nI ed)), (3, .int v1), (4, .int v2), (5, .int v3)] dX12_lay_96 rfl rfl (by decide) rfl ?_
                  refine wp_goto C 16 dX12_lay_99 (by decide) ?_
                  refine wp_lv [3, 4, 5, 6, 7, 8, 0] rfl ?_
                  rw [show nI j + (-1) = vI j from (Int32.sub_eq_add_neg _ _).symm]
                  exact ih (by omega) _ _ _ (h1.no (show ea (8 * ag + j) + ae (8 * ed + j) ≠ 0 by omega)) (h2.no (show ea (8 * ag + j) ≠ 0 by omega)) (h3.no (show ae (8 * ed + j) ≠ 0 by omega)) _ rfl
                · exact absurd (by decide) c89
              · exact absurd (by decide) c80
            · exact absurd (by decide) c67
          · have c55 : ae (8 * ed + j) = 0 := by have hcv := n_le c55; rw [vI_toInt (by omega), show ((0 : Int32)).toInt = 0 from rfl] at hcv; omega
            refine wp_iconst C 1 dX12_lay_58 (by decide) ?_
            refine wp_goto C 63 dX12_lay_59 (by decide) ?_
            refine wp_istore C [(8, .int 1), (7, .int 0), (0, .ref m), (1, .int (nI ag)), (2, .int (nI ed)), (3, .int v1), (4, .int v2), (5, .int v3), (6, .int (nI j))] dX12_lay_63 (by decide) rfl ?_
            refine wp_iload C 1 dX12_lay_65 rfl ?_
            refine wp_if_eq C 78 dX12_lay_67 (by decide) (fun c67 => ?_) (fun c67 => ?_)
            · refine wp_iload C 1 dX12_lay_78 rfl ?_
              refine wp_if_eq C 87 dX12_lay_80 (by decide) (fun c80 => ?_) (fun c80 => ?_)
              · refine wp_iload C 0 dX12_lay_87 rfl ?_
                refine wp_if_eq C 96 dX12_lay_89 (by decide) (fun c89 => ?_) (fun c89 => ?_)
                · exact absurd c89 (by decide)
                · refine wp_iload C 8 dX12_lay_92 rfl ?_
                  refine wp_istore C [(5, .int (nI j)), (8, .int 1), (7, .int 0), (0, .ref m), (1, .int (nI ag)), (2, .int (nI ed)), (3, .int v1), (4, .int v2), (6, .int (nI j))] dX12_lay_94 (by decide) rfl ?_
                  refine wp_iinc C 8 (nI j + (-1)) [(6, .int (nI j + (-1))), (5, .int (nI j)), (8, .int 1), (7, .int 0), (0, .ref m), (1, .int (nI ag)), (2, .int (nI ed)), (3, .int v1), (4, .int v2)] dX12_lay_96 rfl rfl (by decide) rfl ?_
                  refine wp_goto C 16 dX12_lay_99 (by decide) ?_
                  refine wp_lv [4, 5, 6, 7, 8, 1, 0] rfl ?_
                  rw [show nI j + (-1) = vI j from (Int32.sub_eq_add_neg _ _).symm]
                  exact ih (by omega) _ _ _ (h1.no (show ea (8 * ag + j) + ae (8 * ed + j) ≠ 0 by omega)) (h2.no (show ea (8 * ag + j) ≠ 0 by omega)) (Fh.yes (by omega) (show ae (8 * ed + j) = 0 by omega)) _ rfl
              · exact absurd (by decide) c80
            · exact absurd (by decide) c67
        · have c33 : ea (8 * ag + j) = 0 := by have hcv := n_le c33; rw [vI_toInt (by omega), show ((0 : Int32)).toInt = 0 from rfl] at hcv; omega
          refine wp_iconst C 1 dX12_lay_36 (by decide) ?_
          refine wp_goto C 41 dX12_lay_37 (by decide) ?_
          refine wp_istore C [(7, .int 1), (0, .ref m), (1, .int (nI ag)), (2, .int (nI ed)), (3, .int v1), (4, .int v2), (5, .int v3), (6, .int (nI j))] dX12_lay_41 (by decide) rfl ?_
          refine wp_aload_n C 1 dX12_lay_43 rfl rfl ?_
          refine wp_getR C dX12_lay_44 fX12_lay_53 hM.ob (hM.rf 18 rfl) ?_
          refine wp_bipush C 8 dX12_lay_47 (by decide) ?_
          refine wp_iload_n C 3 dX12_lay_49 rfl rfl ?_
          refine wp_imul C dX12_lay_50 ?_
          refine wp_eqi (pk_mul 8 ed) ?_
          refine wp_iload C 7 dX12_lay_51 rfl ?_
          refine wp_iadd C dX12_lay_53 ?_
          refine wp_eqi (nI_add (8 * ed) j) ?_
          refine wp_iald C dX12_lay_54 (hM.ar 18 rfl rfl) (j := (8 * ed) + j) rfl (by omega) (by decide) ?_
          refine wp_eqi (hT.2 _ (by omega)) ?_
          refine wp_if_ge C 62 dX12_lay_55 (by decide) (fun c55 => ?_) (fun c55 => ?_)
          · have c55 : ¬ ae (8 * ed + j) = 0 := by have hcv := p_le c55; rw [vI_toInt (by omega), show ((0 : Int32)).toInt = 0 from rfl] at hcv; omega
            refine wp_iconst C 0 dX12_lay_62 (by decide) ?_
            refine wp_istore C [(8, .int 0), (7, .int 1), (0, .ref m), (1, .int (nI ag)), (2, .int (nI ed)), (3, .int v1), (4, .int v2), (5, .int v3), (6, .int (nI j))] dX12_lay_63 (by decide) rfl ?_
            refine wp_iload C 1 dX12_lay_65 rfl ?_
            refine wp_if_eq C 78 dX12_lay_67 (by decide) (fun c67 => ?_) (fun c67 => ?_)
            · exact absurd c67 (by decide)
            · refine wp_iload C 0 dX12_lay_70 rfl ?_
              refine wp_if_eq C 78 dX12_lay_72 (by decide) (fun c72 => ?_) (fun c72 => ?_)
              · refine wp_iload C 1 dX12_lay_78 rfl ?_
                refine wp_if_eq C 87 dX12_lay_80 (by decide) (fun c80 => ?_) (fun c80 => ?_)
                · exact absurd c80 (by decide)
                · refine wp_iload C 8 dX12_lay_83 rfl ?_
                  refine wp_istore C [(4, .int (nI j)), (8, .int 0), (7, .int 1), (0, .ref m), (1, .int (nI ag)), (2, .int (nI ed)), (3, .int v1), (5, .int v3), (6, .int (nI j))] dX12_lay_85 (by decide) rfl ?_
                  refine wp_iload C 1 dX12_lay_87 rfl ?_
                  refine wp_if_eq C 96 dX12_lay_89 (by decide) (fun c89 => ?_) (fun c89 => ?_)
                  · refine wp_iinc C 8 (nI j + (-1)) [(6, .int (nI j + (-1))), (4, .int (nI j)), (8, .int 0), (7, .int 1), (0, .ref m), (1, .int (nI ag)), (2, .int (nI ed)), (3, .int v1), (5, .int v3)] dX12_lay_96 rfl rfl (by decide) rfl ?_
                    refine wp_goto C 16 dX12_lay_99 (by decide) ?_
                    refine wp_lv [4, 5, 6, 7, 1, 8, 0] rfl ?_
                    rw [show nI j + (-1) = vI j from (Int32.sub_eq_add_neg _ _).symm]
                    exact ih (by omega) _ _ _ (h1.no (show ea (8 * ag + j) + ae (8 * ed + j) ≠ 0 by omega)) (Fh.yes (by omega) (show ea (8 * ag + j) = 0 by omega)) (h3.no (show ae (8 * ed + j) ≠ 0 by omega)) _ rfl
                  · exact absurd (by decide) c89
              · exact absurd (by decide) c72
          · have c55 : ae (8 * ed + j) = 0 := by have hcv := n_le c55; rw [vI_toInt (by omega), show ((0 : Int32)).toInt = 0 from rfl] at hcv; omega
            refine wp_iconst C 1 dX12_lay_58 (by decide) ?_
            refine wp_goto C 63 dX12_lay_59 (by decide) ?_
            refine wp_istore C [(8, .int 1), (7, .int 1), (0, .ref m), (1, .int (nI ag)), (2, .int (nI ed)), (3, .int v1), (4, .int v2), (5, .int v3), (6, .int (nI j))] dX12_lay_63 (by decide) rfl ?_
            refine wp_iload C 1 dX12_lay_65 rfl ?_
            refine wp_if_eq C 78 dX12_lay_67 (by decide) (fun c67 => ?_) (fun c67 => ?_)
            · exact absurd c67 (by decide)
            · refine wp_iload C 0 dX12_lay_70 rfl ?_
              refine wp_if_eq C 78 dX12_lay_72 (by decide) (fun c72 => ?_) (fun c72 => ?_)
              · exact absurd c72 (by decide)
              · refine wp_iload C 8 dX12_lay_75 rfl ?_
                refine wp_istore_n C [(3, .int (nI j)), (8, .int 1), (7, .int 1), (0, .ref m), (1, .int (nI ag)), (2, .int (nI ed)), (4, .int v2), (5, .int v3), (6, .int (nI j))] dX12_lay_77 rfl (by decide) rfl ?_
                refine wp_iload C 2 dX12_lay_78 rfl ?_
                refine wp_if_eq C 87 dX12_lay_80 (by decide) (fun c80 => ?_) (fun c80 => ?_)
                · exact absurd c80 (by decide)
                · refine wp_iload C 8 dX12_lay_83 rfl ?_
                  refine wp_istore C [(4, .int (nI j)), (3, .int (nI j)), (8, .int 1), (7, .int 1), (0, .ref m), (1, .int (nI ag)), (2, .int (nI ed)), (5, .int v3), (6, .int (nI j))] dX12_lay_85 (by decide) rfl ?_
                  refine wp_iload C 2 dX12_lay_87 rfl ?_
                  refine wp_if_eq C 96 dX12_lay_89 (by decide) (fun c89 => ?_) (fun c89 => ?_)
                  · exact absurd c89 (by decide)
                  · refine wp_iload C 8 dX12_lay_92 rfl ?_
                    refine wp_istore C [(5, .int (nI j)), (4, .int (nI j)), (3, .int (nI j)), (8, .int 1), (7, .int 1), (0, .ref m), (1, .int (nI ag)), (2, .int (nI ed)), (6, .int (nI j))] dX12_lay_94 (by decide) rfl ?_
                    refine wp_iinc C 8 (nI j + (-1)) [(6, .int (nI j + (-1))), (5, .int (nI j)), (4, .int (nI j)), (3, .int (nI j)), (8, .int 1), (7, .int 1), (0, .ref m), (1, .int (nI ag)), (2, .int (nI ed))] dX12_lay_96 rfl rfl (by decide) rfl ?_
                    refine wp_goto C 16 dX12_lay_99 (by decide) ?_
                    refine wp_lv [6, 7, 8, 3, 2, 1, 0] rfl ?_
                    rw [show nI j + (-1) = vI j from (Int32.sub_eq_add_neg _ _).symm]
                    exact ih (by omega) _ _ _ (Fh.yes (by omega) (show ea (8 * ag + j) + ae (8 * ed + j) = 0 by omega)) (Fh.yes (by omega) (show ea (8 * ag + j) = 0 by omega)) (Fh.yes (by omega) (show ae (8 * ed + j) = 0 by omega)) _ rfl
  refine wp_iconst C (-1) dX12_lay_0 (by decide) ?_
  refine wp_istore_n C [(3, .int (-1)), (0, .ref m), (1, .int (nI ag)), (2, .int (nI ed))] dX12_lay_1 rfl (by decide) rfl ?_
  refine wp_iconst C (-1) dX12_lay_2 (by decide) ?_
  refine wp_istore C [(4, .int (-1)), (3, .int (-1)), (0, .ref m), (1, .int (nI ag)), (2, .int (nI ed))] dX12_lay_3 (by decide) rfl ?_
  refine wp_iconst C (-1) dX12_lay_5 (by decide) ?_
  refine wp_istore C [(5, .int (-1)), (4, .int (-1)), (3, .int (-1)), (0, .ref m), (1, .int (nI ag)), (2, .int (nI ed))] dX12_lay_6 (by decide) rfl ?_
  refine wp_aload_n C 3 dX12_lay_8 rfl rfl ?_
  refine wp_getI C dX12_lay_9 fX12_lay_24 hM.ob ?_
  refine wp_eqi hH ?_
  refine wp_iconst C 1 dX12_lay_12 (by decide) ?_
  refine wp_isub C dX12_lay_13 ?_
  refine wp_istore C [(6, .int ((nI H) - 1)), (5, .int (-1)), (4, .int (-1)), (3, .int (-1)), (0, .ref m), (1, .int (nI ag)), (2, .int (nI ed))] dX12_lay_14 (by decide) rfl ?_
  refine wp_lv [4, 5, 6, 3, 2, 1, 0] rfl ?_
  exact loop H (Nat.le_refl _) _ _ _ (Fh.nil _ _) (Fh.nil _ _) (Fh.nil _ _) _ rfl
theorem TF_skips {h : Nat} {c : Nat → Nat} {k k2 : Nat} (hk : k ≤ k2) (hh : ∀ j, k ≤ j → j < k2 → c j ≠ 1) : TF h c k = TF h c k2 := by
  obtain ⟨d, rfl⟩ : ∃ d, k2 = k + d := ⟨k2 - k, by omega⟩
  clear hk
  induction d with
  | zero => rfl
  | succ d ih =>
    rw [ih (fun j h1 h2 => hh j h1 (by omega)), show k + (d + 1) = (k + d) + 1 by omega]
    exact (TF_0 (hh (k + d) (by omega) (by omega))).symm
/-- what lays() changes -/
def FrL (I I' : gI) (ad : Nat → Nat) : Prop := ∀ x, (∀ k, 11 ≤ k → k ≤ 20 → x ≠ ad k) → I' x = I x
def PLm (T : gSh) (J : gJ) (R : gR) (I : gI) (ad : Nat → Nat) (h : Nat) (w : Nat → Nat) : gPost := fun r T' I' J' R' => r = none ∧ T = T' ∧ J = J' ∧ R = R' ∧ FrL I I' ad ∧ ∃ c, Lex h w c ∧ TT I' (ad 17) (ad 18) (TF h c 80).1 (TF h c 80).2
set_option maxRecDepth 100000 in
set_option maxHeartbeats 4000000 in
theorem m_lays (l : Launch) {T : gSh} {I : gI} {J : gJ} {R : gR} {m : Nat} {ad : Nat → Nat} (hM : MO T R m ad) {A B h : Nat} {w : Nat → Nat} (hS : MW I m ad A B h w) (hw0 : ∀ p, p < 80 → ¬ (p / 10 < A ∧ p % 10 < B) → w p = 0) : Con l yX12_lays wsX12_lays ({ frames := 3, cells := 0, slots := 0, locals := 73 }) [.ref m] T I J R (PLm T J R I ad h w) := by
  refine Con.mk (cc := cX12_lays) (maxL := 3) (ret := none) (by decide) rfl (Nat.le_of_ble_eq_true rfl) ?_
  intro E hE C Z hnm
  subst hE
  change WP E 3 0 0 T I J R 0 [(0, .ref m)] []
  have hA8 := hS.1.2
  have hB10 := hS.2.1.2
  have hne : ad 17 ≠ ad 18 := (hM.ne 17 18 rfl rfl (by decide))
  have nmk : ∀ k, 11 ≤ k → k ≤ 20 → m ≠ ad k := fun k h1 h2 => by
    rcases (show k = 11 ∨ k = 12 ∨ k = 13 ∨ k = 14 ∨ k = 15 ∨ k = 16 ∨ k = 17 ∨ k = 18 ∨ k = 19 ∨ k = 20 by omega) with rfl | rfl | rfl | rfl | rfl | rfl | rfl | rfl | rfl | rfl <;> exact Ne.symm (hM.nm _ rfl)
  have lA : ∀ c, Lex h w c → ∀ a, a ≤ A → ∀ (I1 : gI), FrL I I1 ad → (∀ p, p < 80 → p / 10 < A → p % 10 < B → I1 (ad 11) p = nI (if c p = 1 then 1 else 2)) → TT I1 (ad 17) (ad 18) (TF h c (10 * a)).1 (TF h c (10 * a)).2 → ∀ lv, lv_pick lv [0, 1] = [(0, .ref m), (1, .int (nI a))] → WP E 3 0 0 T I1 J R 49 lv [] := by
    intro c hL
    have c01 : ∀ p, p < 80 → c p ≤ 1 := fun p hp => (hL.1.1 p hp).1
    have coff : ∀ p, p < 80 → ¬ (p / 10 < A ∧ p % 10 < B) → c p ≠ 1 := fun p hp z q => by have := hw0 p hp z; have := (hL.1.1 p hp).2 q; omega
    refine loopN A (fun a ha iha => ?_)
    have loopE : a < A → ∀ e, e ≤ B → ∀ (I1 : gI), FrL I I1 ad → (∀ p, p < 80 → p / 10 < A → p % 10 < B → I1 (ad 11) p = nI (if c p = 1 then 1 else 2)) → TT I1 (ad 17) (ad 18) (TF h c (10 * a + e)).1 (TF h c (10 * a + e)).2 → ∀ lv, lv_pick lv [0, 1, 2] = [(0, .ref m), (1, .int (nI a)), (2, .int (nI e))] → WP E 3 0 0 T I1 J R 59 lv [] := by
      intro haA
      refine loopN B (fun e he ihe => ?_)
      intro I1 hF hx hT lv hlv
      refine wp_lv [0, 1, 2] hlv ?_
      have fm : I1 m = I m := hF m nmk
      refine wp_iload_n C 2 dX12_lays_59 rfl rfl ?_
      refine wp_aload_n C 0 dX12_lays_60 rfl rfl ?_
      refine wp_getI C dX12_lays_61 fX12_lays_161 hM.ob ?_
      refine wp_eqi ((congrFun fm 8).trans hS.2.1.1) ?_
      refine wp_icmp_ge C 94 dX12_lays_64 (by decide) (fun c64 => ?_) (fun c64 => ?_)
      · have c64 : ((B : Nat) : Int) ≤ ((e : Nat) : Int) := by have hcv := p_le c64; rw [nI_toInt (show B < 2 ^ 31 by omega), nI_toInt (show e < 2 ^ 31 by omega)] at hcv; exact hcv
        refine wp_iinc C 1 (nI (a + 1)) [(1, .int (nI (a + 1))), (0, .ref m), (2, .int (nI e))] dX12_lays_94 rfl (nI_1 a) (by decide) rfl ?_
        refine wp_goto C 49 dX12_lays_97 (by decide) ?_
        have heB : e = B := by omega
        refine wp_lv [1, 0] rfl ?_
        refine iha (a + 1) (by omega) (by omega) I1 hF hx (by rw [← TF_skips (k := 10 * a + e) (k2 := 10 * (a + 1)) (by omega) (fun j h1 h2 => coff j (by omega) (by omega))]; exact hT) _ rfl
      · have c64 : ¬ ((B : Nat) : Int) ≤ ((e : Nat) : Int) := by have hcv := n_le c64; rw [nI_toInt (show B < 2 ^ 31 by omega), nI_toInt (show e < 2 ^ 31 by omega)] at hcv; exact hcv
        refine wp_aload_n C 0 dX12_lays_67 rfl rfl ?_
        refine wp_getR C dX12_lays_68 fX12_lays_31 hM.ob (hM.rf 11 rfl) ?_
        refine wp_bipush C 10 dX12_lays_71 (by decide) ?_
        refine wp_iload_n C 1 dX12_lays_73 rfl rfl ?_
        refine wp_imul C dX12_lays_74 ?_
        refine wp_eqi (pk_mul 10 a) ?_
        refine wp_iload_n C 2 dX12_lays_75 rfl rfl ?_
        refine wp_iadd C dX12_lays_76 ?_
        refine wp_eqi (nI_add (10 * a) e) ?_
        refine wp_iald C dX12_lays_77 (hM.ar 11 rfl rfl) (j := (10 * a) + e) rfl (by omega) (by decide) ?_
        refine wp_eqi (hx _ (by omega) (by omega) (by omega)) ?_
        refine wp_iconst C 1 dX12_lays_78 (by decide) ?_
        refine wp_icmp_ne C 88 dX12_lays_79 (by decide) (fun c79 => ?_) (fun c79 => ?_)
        · have cp : c (10 * a + e) ≠ 1 := fun z => c79 (by rw [if_pos z]; rfl)
          refine wp_iinc C 2 (nI (e + 1)) [(2, .int (nI (e + 1))), (0, .ref m), (1, .int (nI a))] dX12_lays_88 rfl (nI_1 e) (by decide) rfl ?_
          refine wp_goto C 59 dX12_lays_91 (by decide) ?_
          refine wp_lv [1, 2, 0] rfl ?_
          refine ihe (e + 1) (by omega) (by omega) I1 hF hx (by rw [show 10 * a + (e + 1) = (10 * a + e) + 1 by omega, TF_0 cp]; exact hT) _ rfl
        · have cp : c (10 * a + e) = 1 := Classical.byContradiction (fun z => by rw [if_neg z] at c79; exact absurd c79 (by decide))
          refine wp_aload_n C 0 dX12_lays_82 rfl rfl ?_
          refine wp_iload_n C 1 dX12_lays_83 rfl rfl ?_
          refine wp_iload_n C 2 dX12_lays_84 rfl rfl ?_
          have tI := TF_TI hS.2.2.1.2.2 c01 hL.1.2 (10 * a + e) (by omega)
          have fa := tI.freeA hS.2.2.1.2.2 (by omega) cp (hL.1.2 _ (by omega))
          have fb := tI.freeE hS.2.2.1.2.2 (by omega) cp (hL.1.2 _ (by omega))
          rw [show (10 * a + e) / 10 = a by omega] at fa
          rw [show (10 * a + e) % 10 = e by omega] at fb
          refine wp_callV C (As := [.int (nI a), .int (nI e)]) (rest := []) dX12_lays_85 kX12_lays_187 hM.ob (m_lay _ hM (H := h) ((congrFun fm 9).trans hS.2.2.1.1) hS.2.2.1.2.2 hT tI.1 (ag := a) (ed := e) (by omega) (by omega) fa fb) rfl (Nat.le_of_ble_eq_true rfl) (by decide) (by decide) ?_
          rintro _ _ I2 _ _ ⟨rfl, rfl, rfl, rfl, hF2, hT2⟩
          change WP E 3 0 0 T I2 J R 88 [(0, .ref m), (1, .int (nI a)), (2, .int (nI e))] []
          refine wp_iinc C 2 (nI (e + 1)) [(2, .int (nI (e + 1))), (0, .ref m), (1, .int (nI a))] dX12_lays_88 rfl (nI_1 e) (by decide) rfl ?_
          refine wp_goto C 59 dX12_lays_91 (by decide) ?_
          refine wp_lv [1, 2, 0] rfl ?_
          refine ihe (e + 1) (by omega) (by omega) I2 (fun x hx2 => (hF2 x (hx2 17 (by omega) (by omega)) (hx2 18 (by omega) (by omega)) (hx2 19 (by omega) (by omega)) (hx2 20 (by omega) (by omega))).trans (hF x hx2)) (fun p hp h1 h2 => by rw [hF2 (ad 11) (hM.ne 11 17 rfl rfl (by decide)) (hM.ne 11 18 rfl rfl (by decide)) (hM.ne 11 19 rfl rfl (by decide)) (hM.ne 11 20 rfl rfl (by decide))]; exact hx p hp h1 h2) (by rw [show 10 * a + (e + 1) = (10 * a + e) + 1 by omega, TF_1 cp, show (10 * a + e) / 10 = a by omega, show (10 * a + e) % 10 = e by omega]; exact hT2) _ rfl
    intro I1 hF hx hT lv hlv
    refine wp_lv [0, 1] hlv ?_
    have fm : I1 m = I m := hF m nmk
    refine wp_iload_n C 1 dX12_lays_49 rfl rfl ?_
    refine wp_aload_n C 0 dX12_lays_50 rfl rfl ?_
    refine wp_getI C dX12_lays_51 fX12_lays_158 hM.ob ?_
    refine wp_eqi ((congrFun fm 7).trans hS.1.1) ?_
    refine wp_icmp_ge C 100 dX12_lays_54 (by decide) (fun c54 => ?_) (fun c54 => ?_)
    · have c54 : ((A : Nat) : Int) ≤ ((a : Nat) : Int) := by have hcv := p_le c54; rw [nI_toInt (show A < 2 ^ 31 by omega), nI_toInt (show a < 2 ^ 31 by omega)] at hcv; exact hcv
      have haA : a = A := by omega
      exact wp_vret C Z dX12_lays_100 (by decide) (by decide) ⟨rfl, rfl, rfl, rfl, hF, c, hL, by rw [← TF_skips (k := 10 * a) (k2 := 80) (by omega) (fun j h1 h2 => coff j (by omega) (by omega))]; exact hT⟩
    · have c54 : ¬ ((A : Nat) : Int) ≤ ((a : Nat) : Int) := by have hcv := n_le c54; rw [nI_toInt (show A < 2 ^ 31 by omega), nI_toInt (show a < 2 ^ 31 by omega)] at hcv; exact hcv
      refine wp_iconst C 0 dX12_lays_57 (by decide) ?_
      refine wp_istore_n C [(2, .int 0), (0, .ref m), (1, .int (nI a))] dX12_lays_58 rfl (by decide) rfl ?_
      refine wp_lv [1, 2, 0] rfl ?_
      exact loopE (by omega) 0 (by omega) I1 hF hx hT _ rfl
  have f2 : ∀ c, Lex h w c → ∀ i, i ≤ 80 → ∀ I1 : gI, FrL I I1 ad → (∀ p, p < 80 → p / 10 < A → p % 10 < B → I1 (ad 11) p = nI (if c p = 1 then 1 else 2)) → (∀ q, q < 64 → I1 (ad 17) q = vI 0) → (∀ q, q < i → I1 (ad 18) q = vI 0) → ∀ lv, lv_pick lv [0, 1] = [(0, .ref m), (1, .int (nI i))] → WP E 3 0 0 T I1 J R 28 lv [] := by
    intro c hL
    refine loopN 80 (fun i hi ih => ?_)
    intro I1 hF hx h17 h18 lv hlv
    refine wp_lv [0, 1] hlv ?_
    refine wp_iload_n C 1 dX12_lays_28 rfl rfl ?_
    refine wp_bipush C 80 dX12_lays_29 (by decide) ?_
    refine wp_icmp_ge C 47 dX12_lays_31 (by decide) (fun c31 => ?_) (fun c31 => ?_)
    · have c31 : 80 ≤ ((i : Nat) : Int) := by have hcv := p_le c31; rw [nI_toInt (show i < 2 ^ 31 by omega)] at hcv; exact hcv
      refine wp_iconst C 0 dX12_lays_47 (by decide) ?_
      refine wp_istore_n C [(1, .int 0), (0, .ref m)] dX12_lays_48 rfl (by decide) rfl ?_
      refine wp_lv [1, 0] rfl ?_
      exact lA c hL 0 (by omega) I1 hF hx ⟨h17, fun q hq => h18 q (by omega)⟩ _ rfl
    · have c31 : ¬ 80 ≤ ((i : Nat) : Int) := by have hcv := n_le c31; rw [nI_toInt (show i < 2 ^ 31 by omega)] at hcv; exact hcv
      refine wp_aload_n C 0 dX12_lays_34 rfl rfl ?_
      refine wp_getR C dX12_lays_35 fX12_lays_53 hM.ob (hM.rf 18 rfl) ?_
      refine wp_iload_n C 1 dX12_lays_38 rfl rfl ?_
      refine wp_iconst C (-1) dX12_lays_39 (by decide) ?_
      refine wp_iast C dX12_lays_40 (hM.ar 18 rfl rfl) (j := i) rfl (by omega) (by decide) ?_
      refine wp_iinc C 1 (nI (i + 1)) [(1, .int (nI (i + 1))), (0, .ref m)] dX12_lays_41 rfl (nI_1 i) (by decide) rfl ?_
      refine wp_goto C 28 dX12_lays_44 (by decide) ?_
      refine wp_lv [1, 0] rfl ?_
      refine ih (i + 1) (by omega) (by omega) _ (fun x hx2 => by rw [u2_rown _ _ _ _ (hx2 18 (by omega) (by omega))]; exact hF x hx2) (fun p hp h1 h2 => by rw [u2_rown _ _ _ _ (hM.ne 11 18 rfl rfl (by decide))]; exact hx p hp h1 h2) (fun q hq => by rw [u2_rown _ _ _ _ (hM.ne 17 18 rfl rfl (by decide))]; exact h17 q hq) (fun q hq => ?_) _ rfl
      rw [u2_if]
      by_cases e : q = i
      · rw [if_pos e, vI_0]
      · rw [if_neg e]; exact h18 q (by omega)
  have f1 : ∀ c, Lex h w c → ∀ i, i ≤ 64 → ∀ I1 : gI, FrL I I1 ad → (∀ p, p < 80 → p / 10 < A → p % 10 < B → I1 (ad 11) p = nI (if c p = 1 then 1 else 2)) → (∀ q, q < i → I1 (ad 17) q = vI 0) → ∀ lv, lv_pick lv [0, 1] = [(0, .ref m), (1, .int (nI i))] → WP E 3 0 0 T I1 J R 7 lv [] := by
    intro c hL
    refine loopN 64 (fun i hi ih => ?_)
    intro I1 hF hx h17 lv hlv
    refine wp_lv [0, 1] hlv ?_
    refine wp_iload_n C 1 dX12_lays_7 rfl rfl ?_
    refine wp_bipush C 64 dX12_lays_8 (by decide) ?_
    refine wp_icmp_ge C 26 dX12_lays_10 (by decide) (fun c10 => ?_) (fun c10 => ?_)
    · have c10 : 64 ≤ ((i : Nat) : Int) := by have hcv := p_le c10; rw [nI_toInt (show i < 2 ^ 31 by omega)] at hcv; exact hcv
      refine wp_iconst C 0 dX12_lays_26 (by decide) ?_
      refine wp_istore_n C [(1, .int 0), (0, .ref m)] dX12_lays_27 rfl (by decide) rfl ?_
      refine wp_lv [1, 0] rfl ?_
      exact f2 c hL 0 (by omega) I1 hF hx (fun q hq => h17 q (by omega)) (fun q hq => by omega) _ rfl
    · have c10 : ¬ 64 ≤ ((i : Nat) : Int) := by have hcv := n_le c10; rw [nI_toInt (show i < 2 ^ 31 by omega)] at hcv; exact hcv
      refine wp_aload_n C 0 dX12_lays_13 rfl rfl ?_
      refine wp_getR C dX12_lays_14 fX12_lays_50 hM.ob (hM.rf 17 rfl) ?_
      refine wp_iload_n C 1 dX12_lays_17 rfl rfl ?_
      refine wp_iconst C (-1) dX12_lays_18 (by decide) ?_
      refine wp_iast C dX12_lays_19 (hM.ar 17 rfl rfl) (j := i) rfl (by omega) (by decide) ?_
      refine wp_iinc C 1 (nI (i + 1)) [(1, .int (nI (i + 1))), (0, .ref m)] dX12_lays_20 rfl (nI_1 i) (by decide) rfl ?_
      refine wp_goto C 7 dX12_lays_23 (by decide) ?_
      refine wp_lv [1, 0] rfl ?_
      refine ih (i + 1) (by omega) (by omega) _ (fun x hx2 => by rw [u2_rown _ _ _ _ (hx2 17 (by omega) (by omega))]; exact hF x hx2) (fun p hp h1 h2 => by rw [u2_rown _ _ _ _ (hM.ne 11 17 rfl rfl (by decide))]; exact hx p hp h1 h2) (fun q hq => ?_) _ rfl
      rw [u2_if]
      by_cases e : q = i
      · rw [if_pos e, vI_0]
      · rw [if_neg e]; exact h17 q (by omega)
  refine wp_aload_n C 0 dX12_lays_0 rfl rfl ?_
  refine wp_callV C (As := []) (rest := []) dX12_lays_1 kX12_lays_184 hM.ob (m_bests _ hM hS hw0) rfl (Nat.le_of_ble_eq_true rfl) (by decide) (by decide) ?_
  rintro _ _ I2 _ _ ⟨v, c, rfl, rfl, rfl, rfl, hF2, hL, -, hx⟩
  change WP E 3 0 0 T I2 J R 4 [(0, .ref m)] [.int v]
  refine wp_pop C dX12_lays_4 rfl ?_
  refine wp_iconst C 0 dX12_lays_5 (by decide) ?_
  refine wp_istore_n C [(1, .int 0), (0, .ref m)] dX12_lays_6 rfl (by decide) rfl ?_
  refine wp_lv [1, 0] rfl ?_
  exact f1 c hL 0 (by omega) I2 (fun x hx2 => hF2 x (hx2 11 (by omega) (by omega)) (hx2 12 (by omega) (by omega)) (hx2 13 (by omega) (by omega)) (hx2 14 (by omega) (by omega)) (hx2 15 (by omega) (by omega)) (hx2 16 (by omega) (by omega))) hx (fun q hq => by omega) _ rfl
