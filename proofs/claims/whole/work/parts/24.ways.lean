/-! ===== ways() of the reference ===== -/
theorem rmI_pf {T : gSh} {R : gR} {m : Nat} {ad : Nat → Nat} {I : gI} {f fr : Nat → Int32} (h : MO T R m ad) (k : Nat) (x : Int32) : u2 (rmI I ad f fr) (ad 15) k x = rmI I ad (fun j => if j = k then x else f j) fr := by
  unfold rmI
  rw [u2_out _ _ _ _ (h.ne 15 16 rfl rfl (by decide)), u2_in]
theorem rmI_pr {ad : Nat → Nat} {I : gI} {f fr : Nat → Int32} (k : Nat) (x : Int32) : u2 (rmI I ad f fr) (ad 16) k x = rmI I ad f (fun j => if j = k then x else fr j) := u2_in _ _ _ _ _
theorem rmI_id {ad : Nat → Nat} {I : gI} : rmI I ad (I (ad 15)) (I (ad 16)) = I := by
  unfold rmI
  rw [vu_id]
  exact vu_id I (ad 16)
/-- no step of a pair gains more -/
def clP (w fx mt : Nat → Nat) (f : Nat → Int32) (a e : Nat) : Prop := (fx (10 * a + e) = 0 → mt (10 * a + e) = 0 → f a ≠ -1000000000 → f (8 + e) ≠ -1000000000 ∧ (f a).toInt + (w (10 * a + e) : Int) ≤ (f (8 + e)).toInt) ∧ (fx (10 * a + e) = 0 → mt (10 * a + e) = 1 → f (8 + e) ≠ -1000000000 → f a ≠ -1000000000 ∧ (f (8 + e)).toInt - (w (10 * a + e) : Int) ≤ (f a).toInt)
theorem SM.far {A B : Nat} {w fx mt al : Nat → Nat} {π : Nat → Int} {f fr : Nat → Int32} (H : SM A B w fx mt al π f fr) {v : Nat} (hv : v < 18) : (f v = -1000000000 ∧ (f v).toInt = -1000000000) ∨ (f v ≠ -1000000000 ∧ -1800 ≤ (f v).toInt ∧ (f v).toInt ≤ 100) := by
  by_cases q : f v = -1000000000
  · exact Or.inl ⟨q, by rw [q]; rfl⟩
  · have h := H.2.1 v hv q
    have := crM_le f
    refine Or.inr ⟨q, by omega, ?_⟩
    by_cases v8 : v < 8
    · have := (h.2.1 v8).2; omega
    · exact h.2.2 (by omega)
theorem SM.close {A B : Nat} {w fx mt al : Nat → Nat} {π : Nat → Int} {f fr : Nat → Int32} (hA : A ≤ 8) (hB : B ≤ 10) (H : SM A B w fx mt al π f fr) (hc : ∀ a e, a < A → e < B → clP w fx mt f a e) : ∀ u v g, rdM f u → ArcM A B w fx mt al u v g → rdM f v ∧ DM f u + g ≤ DM f v := by
  intro u v g hu ha
  rcases ha with ⟨a, e, a1, a2, a3, a4, a5, a6, a7⟩ | ⟨a, e, a1, a2, a3, a4, a5, a6, a7⟩ | ⟨a1, a2, a3, a4⟩
  · subst a3; subst a4; subst a7
    have hf : f u ≠ -1000000000 := by rcases hu with q | q
                                      · omega
                                      · exact q.2
    have k := (hc u e a1 a2).1 a5 a6 hf
    refine ⟨Or.inr ⟨by omega, k.1⟩, ?_⟩
    unfold DM; rw [if_neg (by omega), if_neg (by omega)]; exact k.2
  · subst a3; subst a4; subst a7
    have hf : f (8 + e) ≠ -1000000000 := by rcases hu with q | q
                                            · omega
                                            · exact q.2
    have k := (hc v e a1 a2).2 a5 a6 hf
    refine ⟨Or.inr ⟨by omega, k.1⟩, ?_⟩
    unfold DM; rw [if_neg (by omega), if_neg (by omega)]; omega
  · subst a1; subst a4
    have f0 := H.2.2.1 v a2 a3
    refine ⟨Or.inr ⟨by omega, by rw [f0]; decide⟩, ?_⟩
    unfold DM; rw [if_pos rfl, if_neg (by omega), f0]; decide
set_option maxRecDepth 100000 in
set_option maxHeartbeats 4000000 in
theorem m_ways (l : Launch) {T : gSh} {I : gI} {J : gJ} {R : gR} {m : Nat} {ad : Nat → Nat} (hM : MO T R m ad) {A B : Nat} {w fx mt al el : Nat → Nat} (hS : MS I m ad A B w fx mt al el) {π : Nat → Int} (hπ : ∀ u v g, ArcM A B w fx mt al u v g → π u + g ≤ π v) (hU : ∀ a e, a < A → e < B → fx (10 * a + e) = 0 → mt (10 * a + e) = 1 → π a ≤ π 18) (hπ0 : ∀ v, v < A → 0 < al v → π 18 ≤ π v) : Con l yX12_ways wsX12_ways ({ frames := 0, cells := 0, slots := 0, locals := 0 }) [.ref m] T I J R (PM T J R I ad A B w fx mt al π) := by
  refine Con.mk (cc := cX12_ways) (maxL := 5) (ret := none) (by decide) rfl (Nat.le_of_ble_eq_true rfl) ?_
  intro E hE C Z hnm
  subst hE
  change WP E 5 0 0 T I J R 0 [(0, .ref m)] []
  have hA8 := hS.1.2
  have hB10 := hS.2.1.2
  have outerW : ∀ (k : Nat) (f1 g1 : Nat → Int32), muM f1 ≤ k → SM A B w fx mt al π f1 g1 → ∀ lv, lv_pick lv [0, 1] = [(0, .ref m), (1, .int 1)] → WP E 5 0 0 T (rmI I ad f1 g1) J R 45 lv [] := by
    intro k
    induction k using Nat.strongRecOn with
    | ind k ihk =>
    intro f0 g0 hmu hV0 lv hlv
    refine wp_lv [0, 1] hlv ?_
    have loopA : ∀ a, a ≤ A → ∀ (gv : Nat) (f1 g1 : Nat → Int32), gv ≤ 1 → SM A B w fx mt al π f1 g1 → (gv = 0 → muM f1 ≤ k ∧ ∀ a2 e2, a2 < A → e2 < B → (a2 < a ∨ (a2 = a ∧ e2 < 0)) → clP w fx mt f1 a2 e2) → (gv = 1 → muM f1 < k) → ∀ lv, lv_pick lv [0, 1, 2] = [(0, .ref m), (1, .int (nI gv)), (2, .int (nI a))] → WP E 5 0 0 T (rmI I ad f1 g1) J R 53 lv [] := by
      refine loopN A (fun a ha iha => ?_)
      intro gv f1 g1 hgv hV hz0 hz1 lv hlv
      refine wp_lv [0, 1, 2] hlv ?_
      have loopE : a < A → ∀ e, e ≤ B → ∀ (gv : Nat) (f1 g1 : Nat → Int32), gv ≤ 1 → SM A B w fx mt al π f1 g1 → (gv = 0 → muM f1 ≤ k ∧ ∀ a2 e2, a2 < A → e2 < B → (a2 < a ∨ (a2 = a ∧ e2 < e)) → clP w fx mt f1 a2 e2) → (gv = 1 → muM f1 < k) → ∀ lv, lv_pick lv [0, 1, 2, 3] = [(0, .ref m), (1, .int (nI gv)), (2, .int (nI a)), (3, .int (nI e))] → WP E 5 0 0 T (rmI I ad f1 g1) J R 63 lv [] := by
        intro haA
        refine loopN B (fun e he ihe => ?_)
        intro gv f1 g1 hgv hV hz0 hz1 lv hlv
        refine wp_lv [0, 1, 2, 3] hlv ?_
        refine wp_iload_n C 3 dX12_ways_63 rfl rfl ?_
        refine wp_aload_n C 0 dX12_ways_64 rfl rfl ?_
        refine wp_getI C dX12_ways_65 fX12_ways_161 hM.ob ?_
        refine wp_eqi ((congrFun (rmI_m hM) 8).trans hS.2.1.1) ?_
        refine wp_icmp_ge C 262 dX12_ways_68 (by decide) (fun c68 => ?_) (fun c68 => ?_)
        · have c68 : ((B : Nat) : Int) ≤ ((e : Nat) : Int) := by have h := p_le c68; rw [nI_toInt (show B < 2 ^ 31 by omega), nI_toInt (show e < 2 ^ 31 by omega)] at h; exact h
          refine wp_iinc C 2 (nI (a + 1)) [(2, .int (nI (a + 1))), (0, .ref m), (1, .int (nI gv)), (3, .int (nI e))] dX12_ways_262 rfl (nI_1 a) (by decide) rfl ?_
          refine wp_goto C 53 dX12_ways_265 (by decide) ?_
          have heB : e = B := by omega
          subst heB
          refine wp_lv [1, 2, 0] rfl ?_
          refine iha (a + 1) (by omega) (by omega) gv f1 g1 hgv hV (fun q => ⟨(hz0 q).1, fun a2 e2 b1 b2 b3 => (hz0 q).2 a2 e2 b1 b2 (by omega)⟩) hz1 _ rfl
        · have c68 : ¬ ((B : Nat) : Int) ≤ ((e : Nat) : Int) := by have h := n_le c68; rw [nI_toInt (show B < 2 ^ 31 by omega), nI_toInt (show e < 2 ^ 31 by omega)] at h; exact h
          refine wp_bipush C 10 dX12_ways_71 (by decide) ?_
          refine wp_iload_n C 2 dX12_ways_73 rfl rfl ?_
          refine wp_imul C dX12_ways_74 ?_
          refine wp_eqi (pk_mul 10 a) ?_
          refine wp_iload_n C 3 dX12_ways_75 rfl rfl ?_
          refine wp_iadd C dX12_ways_76 ?_
          refine wp_eqi (nI_add (10 * a) e) ?_
          have bw := (hS.2.2.1 (10 * a + e) (by omega)).2
          have bx := (hS.2.2.2.1 (10 * a + e) (by omega)).2
          have bm := (hS.2.2.2.2.1 a e (by omega) (by omega)).2
          have ra := hV.far (v := a) (by omega)
          have re := hV.far (v := 8 + e) (by omega)
          have cA : (fx (10 * a + e) = 0 → mt (10 * a + e) = 0 → (f1 a).toInt ≤ -1000000000 ∨ (f1 a).toInt + (w (10 * a + e) : Int) ≤ (f1 (8 + e)).toInt) → (fx (10 * a + e) = 0 → mt (10 * a + e) = 1 → (f1 (8 + e)).toInt ≤ -1000000000 ∨ (f1 (8 + e)).toInt - (w (10 * a + e) : Int) ≤ (f1 a).toInt) → clP w fx mt f1 a e := by
            intro q1 q2
            refine ⟨fun z1 z2 z3 => ?_, fun z1 z2 z3 => ?_⟩
            · have := q1 z1 z2
              rcases ra with ⟨r1, r2⟩ | ⟨r1, r2, r3⟩
              · exact absurd r1 z3
              · rcases re with ⟨s1, s2⟩ | ⟨s1, s2, s3⟩
                · omega
                · exact ⟨s1, by omega⟩
            · have := q2 z1 z2
              rcases re with ⟨r1, r2⟩ | ⟨r1, r2, r3⟩
              · exact absurd r1 z3
              · rcases ra with ⟨s1, s2⟩ | ⟨s1, s2, s3⟩
                · omega
                · exact ⟨s1, by omega⟩
          refine wp_istore C [(4, .int (nI ((10 * a) + e))), (0, .ref m), (1, .int (nI gv)), (2, .int (nI a)), (3, .int (nI e))] dX12_ways_77 (by decide) rfl ?_
          refine wp_aload_n C 1 dX12_ways_79 rfl rfl ?_
          refine wp_getR C dX12_ways_80 fX12_ways_31 hM.ob (hM.rf 11 rfl) ?_
          refine wp_iload C 0 dX12_ways_83 rfl ?_
          refine wp_iald C dX12_ways_85 (hM.ar 11 rfl rfl) (j := (10 * a) + e) rfl (by omega) (by decide) ?_
          refine wp_eqi ((congrFun (rmI_o hM 11 rfl (by decide) (by decide)) _).trans (hS.2.2.2.1 _ (by omega)).1) ?_
          refine wp_if_eq C 92 dX12_ways_86 (by decide) (fun c86 => ?_) (fun c86 => ?_)
          · have c86 : ((fx ((10 * a) + e) : Nat) : Int) = 0 := by have h := p_eq c86; rw [nI_toInt (show fx ((10 * a) + e) < 2 ^ 31 by omega)] at h; exact h
            refine wp_aload_n C 1 dX12_ways_92 rfl rfl ?_
            refine wp_getR C dX12_ways_93 fX12_ways_34 hM.ob (hM.rf 12 rfl) ?_
            refine wp_iload C 0 dX12_ways_96 rfl ?_
            refine wp_zald C dX12_ways_98 (hM.ar 12 rfl rfl) (j := (10 * a) + e) rfl (by omega) (by decide) ?_
            refine wp_eqi ((congrFun (rmI_o hM 12 rfl (by decide) (by decide)) _).trans (hS.2.2.2.2.1 a e (by omega) (by omega)).1) ?_
            refine wp_if_ne C 174 dX12_ways_99 (by decide) (fun c99 => ?_) (fun c99 => ?_)
            · have c99 : ¬ ((mt ((10 * a) + e) : Nat) : Int) = 0 := by have h := n_eq c99; rw [nI_toInt (show mt ((10 * a) + e) < 2 ^ 31 by omega)] at h; exact h
              refine wp_aload_n C 1 dX12_ways_174 rfl rfl ?_
              refine wp_getR C dX12_ways_175 fX12_ways_34 hM.ob (hM.rf 12 rfl) ?_
              refine wp_iload C 0 dX12_ways_178 rfl ?_
              refine wp_zald C dX12_ways_180 (hM.ar 12 rfl rfl) (j := (10 * a) + e) rfl (by omega) (by decide) ?_
              refine wp_eqi ((congrFun (rmI_o hM 12 rfl (by decide) (by decide)) _).trans (hS.2.2.2.2.1 a e (by omega) (by omega)).1) ?_
              refine wp_if_eq C 256 dX12_ways_181 (by decide) (fun c181 => ?_) (fun c181 => ?_)
              · exact (by have h := p_eq c181; rw [nI_toInt (show mt (10 * a + e) < 2 ^ 31 by omega)] at h; have h2 : ((mt (10 * a + e) : Nat) : Int) = 0 := h; omega)
              · have c181 : ¬ ((mt ((10 * a) + e) : Nat) : Int) = 0 := by have h := n_eq c181; rw [nI_toInt (show mt ((10 * a) + e) < 2 ^ 31 by omega)] at h; exact h
                refine wp_aload_n C 1 dX12_ways_184 rfl rfl ?_
                refine wp_getR C dX12_ways_185 fX12_ways_44 hM.ob (hM.rf 15 rfl) ?_
                refine wp_bipush C 8 dX12_ways_188 (by decide) ?_
                refine wp_iload_n C 4 dX12_ways_190 rfl rfl ?_
                refine wp_iadd C dX12_ways_191 ?_
                refine wp_eqi (nI_add 8 e) ?_
                refine wp_iald C dX12_ways_192 (hM.ar 15 rfl rfl) (j := 8 + e) rfl (by omega) (by decide) ?_
                refine wp_eqi (congrFun (rmI_f hM) _) ?_
                refine wp_ldc C (-1000000000) dX12_ways_193 (by decide +kernel) ?_
                refine wp_icmp_le C 256 dX12_ways_195 (by decide) (fun c195 => ?_) (fun c195 => ?_)
                · have c195 : (f1 (8 + e)).toInt ≤ (-1000000000) := by have h := p_le c195; exact h
                  refine wp_iinc C 4 (nI (e + 1)) [(3, .int (nI (e + 1))), (4, .int (nI ((10 * a) + e))), (0, .ref m), (1, .int (nI gv)), (2, .int (nI a))] dX12_ways_256 rfl (nI_1 e) (by decide) rfl ?_
                  refine wp_goto C 63 dX12_ways_259 (by decide) ?_
                  refine wp_lv [2, 3, 4, 0] rfl ?_
                  refine ihe (e + 1) (by omega) (by omega) gv f1 g1 hgv hV (fun q => ⟨(hz0 q).1, fun a2 e2 b1 b2 b3 => ?_⟩) hz1 _ rfl
                  by_cases q2 : a2 = a ∧ e2 = e
                  · rw [q2.1, q2.2]; exact cA (fun _ _ => by omega) (fun _ _ => by omega)
                  · exact (hz0 q).2 a2 e2 b1 b2 (by omega)
                · have c195 : ¬ (f1 (8 + e)).toInt ≤ (-1000000000) := by have h := n_le c195; exact h
                  refine wp_aload_n C 1 dX12_ways_198 rfl rfl ?_
                  refine wp_getR C dX12_ways_199 fX12_ways_44 hM.ob (hM.rf 15 rfl) ?_
                  refine wp_bipush C 8 dX12_ways_202 (by decide) ?_
                  refine wp_iload_n C 4 dX12_ways_204 rfl rfl ?_
                  refine wp_iadd C dX12_ways_205 ?_
                  refine wp_eqi (nI_add 8 e) ?_
                  refine wp_iald C dX12_ways_206 (hM.ar 15 rfl rfl) (j := 8 + e) rfl (by omega) (by decide) ?_
                  refine wp_eqi (congrFun (rmI_f hM) _) ?_
                  refine wp_aload_n C 1 dX12_ways_207 rfl rfl ?_
                  refine wp_getR C dX12_ways_208 fX12_ways_28 hM.ob (hM.rf 10 rfl) ?_
                  refine wp_iload C 0 dX12_ways_211 rfl ?_
                  refine wp_iald C dX12_ways_213 (hM.ar 10 rfl rfl) (j := (10 * a) + e) rfl (by omega) (by decide) ?_
                  refine wp_eqi ((congrFun (rmI_o hM 10 rfl (by decide) (by decide)) _).trans (hS.2.2.1 _ (by omega)).1) ?_
                  refine wp_isub C dX12_ways_214 ?_
                  refine wp_aload_n C 1 dX12_ways_215 rfl rfl ?_
                  refine wp_getR C dX12_ways_216 fX12_ways_44 hM.ob (hM.rf 15 rfl) ?_
                  refine wp_iload_n C 3 dX12_ways_219 rfl rfl ?_
                  refine wp_iald C dX12_ways_220 (hM.ar 15 rfl rfl) (j := a) rfl (by omega) (by decide) ?_
                  refine wp_eqi (congrFun (rmI_f hM) _) ?_
                  have eX : (f1 (8 + e) - nI (w (10 * a + e))).toInt = (f1 (8 + e)).toInt - (w (10 * a + e) : Int) := by rw [sub32 (by omega) (by rw [nI_toInt (by omega)]; omega), nI_toInt (by omega)]
                  refine wp_icmp_le C 256 dX12_ways_221 (by decide) (fun c221 => ?_) (fun c221 => ?_)
                  · have c221 : ((f1 (8 + e)) - (nI (w ((10 * a) + e)))).toInt ≤ (f1 a).toInt := by have h := p_le c221; exact h
                    refine wp_iinc C 4 (nI (e + 1)) [(3, .int (nI (e + 1))), (4, .int (nI ((10 * a) + e))), (0, .ref m), (1, .int (nI gv)), (2, .int (nI a))] dX12_ways_256 rfl (nI_1 e) (by decide) rfl ?_
                    refine wp_goto C 63 dX12_ways_259 (by decide) ?_
                    refine wp_lv [2, 3, 4, 0] rfl ?_
                    refine ihe (e + 1) (by omega) (by omega) gv f1 g1 hgv hV (fun q => ⟨(hz0 q).1, fun a2 e2 b1 b2 b3 => ?_⟩) hz1 _ rfl
                    by_cases q2 : a2 = a ∧ e2 = e
                    · rw [q2.1, q2.2]; exact cA (fun _ _ => by omega) (fun _ _ => by omega)
                    · exact (hz0 q).2 a2 e2 b1 b2 (by omega)
                  · have c221 : ¬ ((f1 (8 + e)) - (nI (w ((10 * a) + e)))).toInt ≤ (f1 a).toInt := by have h := n_le c221; exact h
                    refine wp_aload_n C 1 dX12_ways_224 rfl rfl ?_
                    refine wp_getR C dX12_ways_225 fX12_ways_44 hM.ob (hM.rf 15 rfl) ?_
                    refine wp_iload_n C 3 dX12_ways_228 rfl rfl ?_
                    refine wp_aload_n C 1 dX12_ways_229 rfl rfl ?_
                    refine wp_getR C dX12_ways_230 fX12_ways_44 hM.ob (hM.rf 15 rfl) ?_
                    refine wp_bipush C 8 dX12_ways_233 (by decide) ?_
                    refine wp_iload_n C 4 dX12_ways_235 rfl rfl ?_
                    refine wp_iadd C dX12_ways_236 ?_
                    refine wp_eqi (nI_add 8 e) ?_
                    refine wp_iald C dX12_ways_237 (hM.ar 15 rfl rfl) (j := 8 + e) rfl (by omega) (by decide) ?_
                    refine wp_eqi (congrFun (rmI_f hM) _) ?_
                    refine wp_aload_n C 1 dX12_ways_238 rfl rfl ?_
                    refine wp_getR C dX12_ways_239 fX12_ways_28 hM.ob (hM.rf 10 rfl) ?_
                    refine wp_iload C 0 dX12_ways_242 rfl ?_
                    refine wp_iald C dX12_ways_244 (hM.ar 10 rfl rfl) (j := (10 * a) + e) rfl (by omega) (by decide) ?_
                    refine wp_eqi ((congrFun (rmI_o hM 10 rfl (by decide) (by decide)) _).trans (hS.2.2.1 _ (by omega)).1) ?_
                    refine wp_isub C dX12_ways_245 ?_
                    refine wp_iast C dX12_ways_246 (hM.ar 15 rfl rfl) (j := a) rfl (by omega) (by decide) ?_
                    refine wp_eI (rmI_pf hM _ _) ?_
                    refine wp_aload_n C 1 dX12_ways_247 rfl rfl ?_
                    refine wp_getR C dX12_ways_248 fX12_ways_47 hM.ob (hM.rf 16 rfl) ?_
                    refine wp_iload_n C 3 dX12_ways_251 rfl rfl ?_
                    refine wp_iload_n C 4 dX12_ways_252 rfl rfl ?_
                    refine wp_iast C dX12_ways_253 (hM.ar 16 rfl rfl) (j := a) rfl (by omega) (by decide) ?_
                    refine wp_eI (rmI_pr _ _) ?_
                    have na : f1 (8 + e) ≠ -1000000000 := by
                      rcases re with r | r
                      · exfalso; omega
                      · exact r.1
                    obtain ⟨hV2, hm2⟩ := SM.up (x := f1 (8 + e) - nI (w (10 * a + e))) (b := nI e) hA8 hB10 hπ hU (fun p hp => (hS.2.2.1 p hp).2) hV (u := 8 + e) (v := a) (g := -(w (10 * a + e) : Int)) (Or.inr ⟨by omega, na⟩) (by omega) (Or.inr (Or.inl ⟨a, e, haA, by omega, rfl, rfl, by omega, by omega, rfl⟩)) (by omega) (by rw [eX]; unfold DM; rw [if_neg (by omega)]; omega) (by omega) ⟨fun _ => ⟨e, by omega, rfl, rfl⟩, fun q => by omega⟩
                    refine wp_iconst C 1 dX12_ways_254 (by decide) ?_
                    refine wp_istore_n C [(1, .int 1), (4, .int (nI ((10 * a) + e))), (0, .ref m), (2, .int (nI a)), (3, .int (nI e))] dX12_ways_255 rfl (by decide) rfl ?_
                    refine wp_iinc C 4 (nI (e + 1)) [(3, .int (nI (e + 1))), (1, .int 1), (4, .int (nI ((10 * a) + e))), (0, .ref m), (2, .int (nI a))] dX12_ways_256 rfl (nI_1 e) (by decide) rfl ?_
                    refine wp_goto C 63 dX12_ways_259 (by decide) ?_
                    refine wp_lv [3, 1, 4, 0] rfl ?_
                    have hk2 : muM f1 ≤ k := by
                      rcases Nat.eq_zero_or_pos gv with q | q
                      · exact (hz0 q).1
                      · have := hz1 (by omega); omega
                    exact ihe (e + 1) (by omega) (by omega) 1 _ _ (by omega) hV2 (fun q => by omega) (fun _ => by omega) _ rfl
            · have c99 : ((mt ((10 * a) + e) : Nat) : Int) = 0 := by have h := p_eq c99; rw [nI_toInt (show mt ((10 * a) + e) < 2 ^ 31 by omega)] at h; exact h
              refine wp_aload_n C 1 dX12_ways_102 rfl rfl ?_
              refine wp_getR C dX12_ways_103 fX12_ways_44 hM.ob (hM.rf 15 rfl) ?_
              refine wp_iload_n C 3 dX12_ways_106 rfl rfl ?_
              refine wp_iald C dX12_ways_107 (hM.ar 15 rfl rfl) (j := a) rfl (by omega) (by decide) ?_
              refine wp_eqi (congrFun (rmI_f hM) _) ?_
              refine wp_ldc C (-1000000000) dX12_ways_108 (by decide +kernel) ?_
              refine wp_icmp_le C 174 dX12_ways_110 (by decide) (fun c110 => ?_) (fun c110 => ?_)
              · have c110 : (f1 a).toInt ≤ (-1000000000) := by have h := p_le c110; exact h
                refine wp_aload_n C 1 dX12_ways_174 rfl rfl ?_
                refine wp_getR C dX12_ways_175 fX12_ways_34 hM.ob (hM.rf 12 rfl) ?_
                refine wp_iload C 0 dX12_ways_178 rfl ?_
                refine wp_zald C dX12_ways_180 (hM.ar 12 rfl rfl) (j := (10 * a) + e) rfl (by omega) (by decide) ?_
                refine wp_eqi ((congrFun (rmI_o hM 12 rfl (by decide) (by decide)) _).trans (hS.2.2.2.2.1 a e (by omega) (by omega)).1) ?_
                refine wp_if_eq C 256 dX12_ways_181 (by decide) (fun c181 => ?_) (fun c181 => ?_)
                · have c181 : ((mt ((10 * a) + e) : Nat) : Int) = 0 := by have h := p_eq c181; rw [nI_toInt (show mt ((10 * a) + e) < 2 ^ 31 by omega)] at h; exact h
                  refine wp_iinc C 4 (nI (e + 1)) [(3, .int (nI (e + 1))), (4, .int (nI ((10 * a) + e))), (0, .ref m), (1, .int (nI gv)), (2, .int (nI a))] dX12_ways_256 rfl (nI_1 e) (by decide) rfl ?_
                  refine wp_goto C 63 dX12_ways_259 (by decide) ?_
                  refine wp_lv [2, 3, 4, 0] rfl ?_
                  refine ihe (e + 1) (by omega) (by omega) gv f1 g1 hgv hV (fun q => ⟨(hz0 q).1, fun a2 e2 b1 b2 b3 => ?_⟩) hz1 _ rfl
                  by_cases q2 : a2 = a ∧ e2 = e
                  · rw [q2.1, q2.2]; exact cA (fun _ _ => by omega) (fun _ _ => by omega)
                  · exact (hz0 q).2 a2 e2 b1 b2 (by omega)
                · exact (by have h := n_eq c181; rw [nI_toInt (show mt (10 * a + e) < 2 ^ 31 by omega)] at h; have h2 : ¬ ((mt (10 * a + e) : Nat) : Int) = 0 := h; omega)
              · have c110 : ¬ (f1 a).toInt ≤ (-1000000000) := by have h := n_le c110; exact h
                refine wp_aload_n C 1 dX12_ways_113 rfl rfl ?_
                refine wp_getR C dX12_ways_114 fX12_ways_44 hM.ob (hM.rf 15 rfl) ?_
                refine wp_iload_n C 3 dX12_ways_117 rfl rfl ?_
                refine wp_iald C dX12_ways_118 (hM.ar 15 rfl rfl) (j := a) rfl (by omega) (by decide) ?_
                refine wp_eqi (congrFun (rmI_f hM) _) ?_
                refine wp_aload_n C 1 dX12_ways_119 rfl rfl ?_
                refine wp_getR C dX12_ways_120 fX12_ways_28 hM.ob (hM.rf 10 rfl) ?_
                refine wp_iload C 0 dX12_ways_123 rfl ?_
                refine wp_iald C dX12_ways_125 (hM.ar 10 rfl rfl) (j := (10 * a) + e) rfl (by omega) (by decide) ?_
                refine wp_eqi ((congrFun (rmI_o hM 10 rfl (by decide) (by decide)) _).trans (hS.2.2.1 _ (by omega)).1) ?_
                refine wp_iadd C dX12_ways_126 ?_
                refine wp_aload_n C 1 dX12_ways_127 rfl rfl ?_
                refine wp_getR C dX12_ways_128 fX12_ways_44 hM.ob (hM.rf 15 rfl) ?_
                refine wp_bipush C 8 dX12_ways_131 (by decide) ?_
                refine wp_iload_n C 4 dX12_ways_133 rfl rfl ?_
                refine wp_iadd C dX12_ways_134 ?_
                refine wp_eqi (nI_add 8 e) ?_
                refine wp_iald C dX12_ways_135 (hM.ar 15 rfl rfl) (j := 8 + e) rfl (by omega) (by decide) ?_
                refine wp_eqi (congrFun (rmI_f hM) _) ?_
                have eX : (f1 a + nI (w (10 * a + e))).toInt = (f1 a).toInt + (w (10 * a + e) : Int) := by rw [add32 (by omega) (by rw [nI_toInt (by omega)]; omega), nI_toInt (by omega)]
                refine wp_icmp_le C 174 dX12_ways_136 (by decide) (fun c136 => ?_) (fun c136 => ?_)
                · have c136 : ((f1 a) + (nI (w ((10 * a) + e)))).toInt ≤ (f1 (8 + e)).toInt := by have h := p_le c136; exact h
                  refine wp_aload_n C 1 dX12_ways_174 rfl rfl ?_
                  refine wp_getR C dX12_ways_175 fX12_ways_34 hM.ob (hM.rf 12 rfl) ?_
                  refine wp_iload C 0 dX12_ways_178 rfl ?_
                  refine wp_zald C dX12_ways_180 (hM.ar 12 rfl rfl) (j := (10 * a) + e) rfl (by omega) (by decide) ?_
                  refine wp_eqi ((congrFun (rmI_o hM 12 rfl (by decide) (by decide)) _).trans (hS.2.2.2.2.1 a e (by omega) (by omega)).1) ?_
                  refine wp_if_eq C 256 dX12_ways_181 (by decide) (fun c181 => ?_) (fun c181 => ?_)
                  · have c181 : ((mt ((10 * a) + e) : Nat) : Int) = 0 := by have h := p_eq c181; rw [nI_toInt (show mt ((10 * a) + e) < 2 ^ 31 by omega)] at h; exact h
                    refine wp_iinc C 4 (nI (e + 1)) [(3, .int (nI (e + 1))), (4, .int (nI ((10 * a) + e))), (0, .ref m), (1, .int (nI gv)), (2, .int (nI a))] dX12_ways_256 rfl (nI_1 e) (by decide) rfl ?_
                    refine wp_goto C 63 dX12_ways_259 (by decide) ?_
                    refine wp_lv [2, 3, 4, 0] rfl ?_
                    refine ihe (e + 1) (by omega) (by omega) gv f1 g1 hgv hV (fun q => ⟨(hz0 q).1, fun a2 e2 b1 b2 b3 => ?_⟩) hz1 _ rfl
                    by_cases q2 : a2 = a ∧ e2 = e
                    · rw [q2.1, q2.2]; exact cA (fun _ _ => by omega) (fun _ _ => by omega)
                    · exact (hz0 q).2 a2 e2 b1 b2 (by omega)
                  · exact (by have h := n_eq c181; rw [nI_toInt (show mt (10 * a + e) < 2 ^ 31 by omega)] at h; have h2 : ¬ ((mt (10 * a + e) : Nat) : Int) = 0 := h; omega)
                · have c136 : ¬ ((f1 a) + (nI (w ((10 * a) + e)))).toInt ≤ (f1 (8 + e)).toInt := by have h := n_le c136; exact h
                  refine wp_aload_n C 1 dX12_ways_139 rfl rfl ?_
                  refine wp_getR C dX12_ways_140 fX12_ways_44 hM.ob (hM.rf 15 rfl) ?_
                  refine wp_bipush C 8 dX12_ways_143 (by decide) ?_
                  refine wp_iload_n C 4 dX12_ways_145 rfl rfl ?_
                  refine wp_iadd C dX12_ways_146 ?_
                  refine wp_eqi (nI_add 8 e) ?_
                  refine wp_aload_n C 1 dX12_ways_147 rfl rfl ?_
                  refine wp_getR C dX12_ways_148 fX12_ways_44 hM.ob (hM.rf 15 rfl) ?_
                  refine wp_iload_n C 3 dX12_ways_151 rfl rfl ?_
                  refine wp_iald C dX12_ways_152 (hM.ar 15 rfl rfl) (j := a) rfl (by omega) (by decide) ?_
                  refine wp_eqi (congrFun (rmI_f hM) _) ?_
                  refine wp_aload_n C 1 dX12_ways_153 rfl rfl ?_
                  refine wp_getR C dX12_ways_154 fX12_ways_28 hM.ob (hM.rf 10 rfl) ?_
                  refine wp_iload C 0 dX12_ways_157 rfl ?_
                  refine wp_iald C dX12_ways_159 (hM.ar 10 rfl rfl) (j := (10 * a) + e) rfl (by omega) (by decide) ?_
                  refine wp_eqi ((congrFun (rmI_o hM 10 rfl (by decide) (by decide)) _).trans (hS.2.2.1 _ (by omega)).1) ?_
                  refine wp_iadd C dX12_ways_160 ?_
                  refine wp_iast C dX12_ways_161 (hM.ar 15 rfl rfl) (j := 8 + e) rfl (by omega) (by decide) ?_
                  refine wp_eI (rmI_pf hM _ _) ?_
                  refine wp_aload_n C 1 dX12_ways_162 rfl rfl ?_
                  refine wp_getR C dX12_ways_163 fX12_ways_47 hM.ob (hM.rf 16 rfl) ?_
                  refine wp_bipush C 8 dX12_ways_166 (by decide) ?_
                  refine wp_iload_n C 4 dX12_ways_168 rfl rfl ?_
                  refine wp_iadd C dX12_ways_169 ?_
                  refine wp_eqi (nI_add 8 e) ?_
                  refine wp_iload_n C 3 dX12_ways_170 rfl rfl ?_
                  refine wp_iast C dX12_ways_171 (hM.ar 16 rfl rfl) (j := 8 + e) rfl (by omega) (by decide) ?_
                  refine wp_eI (rmI_pr _ _) ?_
                  have na : f1 a ≠ -1000000000 := by
                    rcases ra with r | r
                    · exfalso; omega
                    · exact r.1
                  obtain ⟨hV2, hm2⟩ := SM.up (x := f1 a + nI (w (10 * a + e))) (b := nI a) hA8 hB10 hπ hU (fun p hp => (hS.2.2.1 p hp).2) hV (u := a) (v := 8 + e) (g := (w (10 * a + e) : Int)) (Or.inr ⟨by omega, na⟩) (by omega) (Or.inl ⟨a, e, haA, by omega, rfl, rfl, by omega, by omega, rfl⟩) (by omega) (by rw [eX]; unfold DM; rw [if_neg (by omega)]) (by omega) ⟨fun q => by omega, fun _ => ⟨rfl, haA⟩⟩
                  refine wp_iconst C 1 dX12_ways_172 (by decide) ?_
                  refine wp_istore_n C [(1, .int 1), (4, .int (nI ((10 * a) + e))), (0, .ref m), (2, .int (nI a)), (3, .int (nI e))] dX12_ways_173 rfl (by decide) rfl ?_
                  refine wp_aload_n C 2 dX12_ways_174 rfl rfl ?_
                  refine wp_getR C dX12_ways_175 fX12_ways_34 hM.ob (hM.rf 12 rfl) ?_
                  refine wp_iload C 1 dX12_ways_178 rfl ?_
                  refine wp_zald C dX12_ways_180 (hM.ar 12 rfl rfl) (j := (10 * a) + e) rfl (by omega) (by decide) ?_
                  refine wp_eqi ((congrFun (rmI_o hM 12 rfl (by decide) (by decide)) _).trans (hS.2.2.2.2.1 a e (by omega) (by omega)).1) ?_
                  refine wp_if_eq C 256 dX12_ways_181 (by decide) (fun c181 => ?_) (fun c181 => ?_)
                  · have c181 : ((mt ((10 * a) + e) : Nat) : Int) = 0 := by have h := p_eq c181; rw [nI_toInt (show mt ((10 * a) + e) < 2 ^ 31 by omega)] at h; exact h
                    refine wp_iinc C 4 (nI (e + 1)) [(3, .int (nI (e + 1))), (1, .int 1), (4, .int (nI ((10 * a) + e))), (0, .ref m), (2, .int (nI a))] dX12_ways_256 rfl (nI_1 e) (by decide) rfl ?_
                    refine wp_goto C 63 dX12_ways_259 (by decide) ?_
                    refine wp_lv [3, 1, 4, 0] rfl ?_
                    have hk2 : muM f1 ≤ k := by
                      rcases Nat.eq_zero_or_pos gv with q | q
                      · exact (hz0 q).1
                      · have := hz1 (by omega); omega
                    exact ihe (e + 1) (by omega) (by omega) 1 _ _ (by omega) hV2 (fun q => by omega) (fun _ => by omega) _ rfl
                  · exact (by have h := n_eq c181; rw [nI_toInt (show mt (10 * a + e) < 2 ^ 31 by omega)] at h; have h2 : ¬ ((mt (10 * a + e) : Nat) : Int) = 0 := h; omega)
          · have c86 : ¬ ((fx ((10 * a) + e) : Nat) : Int) = 0 := by have h := n_eq c86; rw [nI_toInt (show fx ((10 * a) + e) < 2 ^ 31 by omega)] at h; exact h
            refine wp_goto C 256 dX12_ways_89 (by decide) ?_
            refine wp_iinc C 4 (nI (e + 1)) [(3, .int (nI (e + 1))), (4, .int (nI ((10 * a) + e))), (0, .ref m), (1, .int (nI gv)), (2, .int (nI a))] dX12_ways_256 rfl (nI_1 e) (by decide) rfl ?_
            refine wp_goto C 63 dX12_ways_259 (by decide) ?_
            refine wp_lv [2, 3, 4, 0] rfl ?_
            refine ihe (e + 1) (by omega) (by omega) gv f1 g1 hgv hV (fun q => ⟨(hz0 q).1, fun a2 e2 b1 b2 b3 => ?_⟩) hz1 _ rfl
            by_cases q2 : a2 = a ∧ e2 = e
            · rw [q2.1, q2.2]; exact cA (fun _ _ => by omega) (fun _ _ => by omega)
            · exact (hz0 q).2 a2 e2 b1 b2 (by omega)
      refine wp_iload_n C 2 dX12_ways_53 rfl rfl ?_
      refine wp_aload_n C 0 dX12_ways_54 rfl rfl ?_
      refine wp_getI C dX12_ways_55 fX12_ways_158 hM.ob ?_
      refine wp_eqi ((congrFun (rmI_m hM) 7).trans hS.1.1) ?_
      refine wp_icmp_ge C 268 dX12_ways_58 (by decide) (fun c58 => ?_) (fun c58 => ?_)
      · have c58 : ((A : Nat) : Int) ≤ ((a : Nat) : Int) := by have h := p_le c58; rw [nI_toInt (show A < 2 ^ 31 by omega), nI_toInt (show a < 2 ^ 31 by omega)] at h; exact h
        refine wp_goto C 45 dX12_ways_268 (by decide) ?_
        have haA : a = A := by omega
        rcases Nat.eq_zero_or_pos gv with q | q
        · subst q
          change WP E 5 0 0 T (rmI I ad f1 g1) J R 45 [(0, .ref m), (1, .int 0), (2, .int (nI a))] []
          refine wp_iload_n C 1 dX12_ways_45 rfl rfl ?_
          refine wp_if_eq C 271 dX12_ways_46 (by decide) (fun c46 => ?_) (fun c46 => ?_)
          · exact wp_vret C Z dX12_ways_271 (by decide) (by decide) ⟨rfl, rfl, rfl, rfl, f1, g1, rfl, hV, hV.close hA8 hB10 (fun a2 e2 b1 b2 => (hz0 rfl).2 a2 e2 b1 b2 (by omega))⟩
          · exact absurd (by decide) c46
        · have q1 : gv = 1 := by omega
          subst q1
          refine wp_lv [0, 1] rfl ?_
          exact ihk (muM f1) (hz1 rfl) f1 g1 (Nat.le_refl _) hV _ rfl
      · have c58 : ¬ ((A : Nat) : Int) ≤ ((a : Nat) : Int) := by have h := n_le c58; rw [nI_toInt (show A < 2 ^ 31 by omega), nI_toInt (show a < 2 ^ 31 by omega)] at h; exact h
        refine wp_iconst C 0 dX12_ways_61 (by decide) ?_
        refine wp_istore_n C [(3, .int 0), (0, .ref m), (1, .int (nI gv)), (2, .int (nI a))] dX12_ways_62 rfl (by decide) rfl ?_
        refine wp_lv [1, 2, 3, 0] rfl ?_
        exact loopE (by omega) 0 (by omega) gv f1 g1 hgv hV (fun q => ⟨(hz0 q).1, fun a2 e2 b1 b2 b3 => (hz0 q).2 a2 e2 b1 b2 (by omega)⟩) hz1 _ rfl
    refine wp_iload_n C 1 dX12_ways_45 rfl rfl ?_
    refine wp_if_eq C 271 dX12_ways_46 (by decide) (fun c46 => ?_) (fun c46 => ?_)
    · exact absurd c46 (by decide)
    · refine wp_iconst C 0 dX12_ways_49 (by decide) ?_
      refine wp_istore_n C [(1, .int 0), (0, .ref m)] dX12_ways_50 rfl (by decide) rfl ?_
      refine wp_iconst C 0 dX12_ways_51 (by decide) ?_
      refine wp_istore_n C [(2, .int 0), (1, .int 0), (0, .ref m)] dX12_ways_52 rfl (by decide) rfl ?_
      refine wp_lv [2, 1, 0] rfl ?_
      exact loopA 0 (by omega) 0 f0 g0 (by omega) hV0 (fun _ => ⟨hmu, fun a2 e2 b1 b2 b3 => by omega⟩) (fun q => by omega) _ rfl
  have fill : ∀ i, i ≤ 18 → WP E 5 0 0 T (rmI I ad (fun j => if j < i then (if j < A ∧ 0 < al j then 0 else -1000000000) else I (ad 15) j) (I (ad 16))) J R 2 [(0, .ref m), (1, .int (nI i))] [] := by
    refine loopN 18 (fun i hi ih => ?_)
    refine wp_iload_n C 1 dX12_ways_2 rfl rfl ?_
    refine wp_bipush C 18 dX12_ways_3 (by decide) ?_
    refine wp_icmp_ge C 43 dX12_ways_5 (by decide) (fun c5 => ?_) (fun c5 => ?_)
    · have c5 : 18 ≤ ((i : Nat) : Int) := by have h := p_le c5; rw [nI_toInt (show i < 2 ^ 31 by omega)] at h; exact h
      refine wp_iconst C 1 dX12_ways_43 (by decide) ?_
      refine wp_istore_n C [(1, .int 1), (0, .ref m)] dX12_ways_44 rfl (by decide) rfl ?_
      have hi18 : i = 18 := by omega
      subst hi18
      refine wp_lv [1, 0] rfl (outerW _ _ _ (Nat.le_refl _) (SM.init hA8 (fun v hv => ?_) (fun v h1 h2 => hπ0 v h1 h2)) _ rfl)
      exact if_pos hv
    · have c5 : ¬ 18 ≤ ((i : Nat) : Int) := by have h := n_le c5; rw [nI_toInt (show i < 2 ^ 31 by omega)] at h; exact h
      refine wp_aload_n C 0 dX12_ways_8 rfl rfl ?_
      refine wp_getR C dX12_ways_9 fX12_ways_44 hM.ob (hM.rf 15 rfl) ?_
      refine wp_iload_n C 1 dX12_ways_12 rfl rfl ?_
      refine wp_iload_n C 1 dX12_ways_13 rfl rfl ?_
      refine wp_aload_n C 0 dX12_ways_14 rfl rfl ?_
      refine wp_getI C dX12_ways_15 fX12_ways_158 hM.ob ?_
      refine wp_eqi ((congrFun (rmI_m hM) 7).trans hS.1.1) ?_
      refine wp_icmp_ge C 34 dX12_ways_18 (by decide) (fun c18 => ?_) (fun c18 => ?_)
      · have c18 : ((A : Nat) : Int) ≤ ((i : Nat) : Int) := by have h := p_le c18; rw [nI_toInt (show A < 2 ^ 31 by omega), nI_toInt (show i < 2 ^ 31 by omega)] at h; exact h
        refine wp_ldc C (-1000000000) dX12_ways_34 (by decide +kernel) ?_
        refine wp_iast C dX12_ways_36 (hM.ar 15 rfl rfl) (j := i) rfl (by omega) (by decide) ?_
        refine wp_iinc C 1 (nI (i + 1)) [(1, .int (nI (i + 1))), (0, .ref m)] dX12_ways_37 rfl (nI_1 i) (by decide) rfl ?_
        refine wp_goto C 2 dX12_ways_40 (by decide) ?_
        refine wp_lv [1, 0] rfl ?_
        refine wp_eI ((rmI_pf hM _ _).trans ?_) (ih (i + 1) (by omega) (by omega))
        congr 1
        funext j
        by_cases q : j = i
        · subst q
          rw [if_pos rfl, if_pos (by omega)]
          rw [if_neg (by omega)]
        · rw [if_neg q]
          by_cases q2 : j < i
          · simp only [if_pos q2, if_pos (show j < i + 1 by omega)]
          · simp only [if_neg q2, if_neg (show ¬ j < i + 1 by omega)]
      · have c18 : ¬ ((A : Nat) : Int) ≤ ((i : Nat) : Int) := by have h := n_le c18; rw [nI_toInt (show A < 2 ^ 31 by omega), nI_toInt (show i < 2 ^ 31 by omega)] at h; exact h
        refine wp_aload_n C 0 dX12_ways_21 rfl rfl ?_
        refine wp_getR C dX12_ways_22 fX12_ways_38 hM.ob (hM.rf 13 rfl) ?_
        refine wp_iload_n C 1 dX12_ways_25 rfl rfl ?_
        refine wp_iald C dX12_ways_26 (hM.ar 13 rfl rfl) (j := i) rfl (by omega) (by decide) ?_
        refine wp_eqi ((congrFun (rmI_o hM 13 rfl (by decide) (by decide)) _).trans (hS.2.2.2.2.2.1 _ (by omega)).1) ?_
        have ba := (hS.2.2.2.2.2.1 i (by omega)).2
        refine wp_if_le C 34 dX12_ways_27 (by decide) (fun c27 => ?_) (fun c27 => ?_)
        · have c27 : ((al i : Nat) : Int) ≤ 0 := by have h := p_le c27; rw [nI_toInt (show al i < 2 ^ 31 by omega)] at h; exact h
          refine wp_ldc C (-1000000000) dX12_ways_34 (by decide +kernel) ?_
          refine wp_iast C dX12_ways_36 (hM.ar 15 rfl rfl) (j := i) rfl (by omega) (by decide) ?_
          refine wp_iinc C 1 (nI (i + 1)) [(1, .int (nI (i + 1))), (0, .ref m)] dX12_ways_37 rfl (nI_1 i) (by decide) rfl ?_
          refine wp_goto C 2 dX12_ways_40 (by decide) ?_
          refine wp_lv [1, 0] rfl ?_
          refine wp_eI ((rmI_pf hM _ _).trans ?_) (ih (i + 1) (by omega) (by omega))
          congr 1
          funext j
          by_cases q : j = i
          · subst q
            rw [if_pos rfl, if_pos (by omega)]
            rw [if_neg (by omega)]
          · rw [if_neg q]
            by_cases q2 : j < i
            · simp only [if_pos q2, if_pos (show j < i + 1 by omega)]
            · simp only [if_neg q2, if_neg (show ¬ j < i + 1 by omega)]
        · have c27 : ¬ ((al i : Nat) : Int) ≤ 0 := by have h := n_le c27; rw [nI_toInt (show al i < 2 ^ 31 by omega)] at h; exact h
          refine wp_iconst C 0 dX12_ways_30 (by decide) ?_
          refine wp_goto C 36 dX12_ways_31 (by decide) ?_
          refine wp_iast C dX12_ways_36 (hM.ar 15 rfl rfl) (j := i) rfl (by omega) (by decide) ?_
          refine wp_iinc C 1 (nI (i + 1)) [(1, .int (nI (i + 1))), (0, .ref m)] dX12_ways_37 rfl (nI_1 i) (by decide) rfl ?_
          refine wp_goto C 2 dX12_ways_40 (by decide) ?_
          refine wp_lv [1, 0] rfl ?_
          refine wp_eI ((rmI_pf hM _ _).trans ?_) (ih (i + 1) (by omega) (by omega))
          congr 1
          funext j
          by_cases q : j = i
          · subst q
            rw [if_pos rfl, if_pos (by omega)]
            rw [if_pos (by omega)]
          · rw [if_neg q]
            by_cases q2 : j < i
            · simp only [if_pos q2, if_pos (show j < i + 1 by omega)]
            · simp only [if_neg q2, if_neg (show ¬ j < i + 1 by omega)]
  refine wp_iconst C 0 dX12_ways_0 (by decide) ?_
  refine wp_istore_n C [(1, .int 0), (0, .ref m)] dX12_ways_1 rfl (by decide) rfl ?_
  refine wp_lv [1, 0] rfl ?_
  refine wp_eI ((rmI_id (ad := ad)).symm.trans ?_) (fill 0 (by omega))
  congr 1
