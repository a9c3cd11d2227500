/-! ===== the law: between its calls ===== -/
theorem KA.only {T : gSh} {I I' : gI} {J J' : gJ} {R : gR} {ca : Nat → Nat} {a : gI} {n : gJ} (k : KA T I J R ca a n) (h : ∀ x, x ∈ T.1 → CF T ca x → I' x = I x ∧ J' x = J x) : KA T I' J' R ca a n := by
  obtain ⟨hC, k0, k1, k2, k3, k4, k5, k6, k7, k8⟩ := k
  have c : ∀ i, i < 30 → I' (ca i) = I (ca i) ∧ J' (ca i) = J (ca i) := fun i hi => h _ (hC.1 i hi).1 (Or.inl ⟨i, hi, rfl⟩)
  have d : ∀ {x k : Nat}, OB T x k → dyn k → I' x = I x := fun ho hk => (h _ ho.1 (Or.inr (by rw [ho.2]; exact hk))).1
  refine ⟨hC, by rw [(c 0 (by omega)).1]; exact k0, by rw [(c 0 (by omega)).2]; exact k1, ?_, ?_, ?_, ?_, ?_, ?_, ?_⟩
  · intro t ht
    rw [(c (5 + t) (by omega)).1, (c (9 + t) (by omega)).2]; exact k2 t ht
  · obtain ⟨A, B, hh, w, q1, q2⟩ := k3
    refine ⟨A, B, hh, w, ?_, q2⟩
    unfold KM BS TT at q1 ⊢
    rw [(c 2 (by omega)).1, (c 13 (by omega)).1, (c 22 (by omega)).1, (c 14 (by omega)).1, (c 17 (by omega)).1, (c 16 (by omega)).1, (c 18 (by omega)).1, (c 15 (by omega)).1, (c 23 (by omega)).1, (c 24 (by omega)).1]
    exact q1
  · unfold KB at k4 ⊢
    rw [(c 3 (by omega)).1, (c 25 (by omega)).1, (c 26 (by omega)).1]; exact k4
  · obtain ⟨g, q1, q2, q3, ga, ra, q4, q5, q6⟩ := k5
    refine ⟨g, q1, by rw [(c 3 (by omega)).1]; exact q2, q3, ga, ra, fun i hi => ?_, q5, q6⟩
    obtain ⟨p1, p2, p3, p4, p5⟩ := q4 i hi
    rw [d p2 (by unfold dyn; omega)]
    exact ⟨p1, p2, p3, ⟨p4.1, fun k hk => by rw [d p4.1 (by unfold dyn; omega)]; exact p4.2 k hk⟩, p5⟩
  · obtain ⟨o, q1, q2, q3, oa, q4⟩ := k6
    exact ⟨o, q1, by rw [(c 3 (by omega)).1]; exact q2, q3, oa, fun i hi => ⟨(q4 i hi).1, (q4 i hi).2.1, fun k hk => by rw [d (q4 i hi).2.1 (by unfold dyn; omega)]; exact (q4 i hi).2.2 k hk⟩⟩
  · obtain ⟨z, q1, q2, q3, q4, fa, rb, q5, q6⟩ := k7
    refine ⟨z, q1, by rw [(c 4 (by omega)).1]; exact q2, q3, by rw [(c 4 (by omega)).1]; exact q4, fa, rb, fun i hi => ?_, q6⟩
    obtain ⟨p1, p2, p3, p4, p5⟩ := q5 i hi
    rw [d p2 (by unfold dyn; omega)]
    exact ⟨p1, p2, p3, ⟨p4.1, fun k hk => by rw [d p4.1 (by unfold dyn; omega)]; exact p4.2 k hk⟩, p5⟩
  · rcases k8 with q | ⟨q1, u, q2, q3, q4⟩
    · exact Or.inl q
    · exact Or.inr ⟨q1, u, q2, q3, by rw [d q3 (by unfold dyn; omega)]; exact q4⟩
/-- the reference's cells are none of the class's -/
def Sep (T : gSh) (ca : Nat → Nat) (m : Nat) (ad : Nat → Nat) : Prop := ∀ x, MF m ad x → x ∈ T.1 ∧ ¬ CF T ca x
def LI (T : gSh) (I : gI) (J : gJ) (R : gR) (ca : Nat → Nat) (m : Nat) (ad : Nat → Nat) (a : gI) (n : gJ) : Prop := KA T I J R ca a n ∧ MO T R m ad ∧ MA I J m ad a n ∧ Sep T ca m ad
section LIs
variable {T T1 : gSh} {I I1 I2 : gI} {J J1 J2 : gJ} {R R1 : gR} {ca : Nat → Nat} {m : Nat} {ad : Nat → Nat} {a a0 : gI} {n n0 : gJ}
theorem LI.fr (h : LI T I J R ca m ad a n) (f : FrC T T1 I I1 J J1 R R1 ca) : MO T1 R1 m ad ∧ MA I1 J1 m ad a n ∧ Sep T1 ca m ad := by
  obtain ⟨hK, hM, hA, hS⟩ := h
  have sm : MF m ad m := Or.inl rfl
  have sa : ∀ k, mA k = true → MF m ad (ad k) := fun k hk => Or.inr ⟨k, hk, rfl⟩
  have e : ∀ x, MF m ad x → I1 x = I x ∧ J1 x = J x ∧ R1 x = R x := fun x hx => f.2 x (hS x hx).1 (hS x hx).2
  refine ⟨⟨hM.1.gr f.1, fun k hk => ⟨by rw [(e m sm).2.2]; exact (hM.2.1 k hk).1, (hM.2.1 k hk).2.gr f.1⟩, hM.2.2⟩, ⟨fun k hk => by rw [(e m sm).1]; exact hA.1 k hk, fun k hk => by rw [(e _ (sa k (mR_A hk))).1]; exact hA.2.1 k hk, by rw [(e m sm).2.1]; exact hA.2.2.1, by rw [(e _ (sa 6 rfl)).2.1]; exact hA.2.2.2⟩, fun x hx => ?_⟩
  have h1 := hS x hx
  refine ⟨(f.1 x h1.1).1, fun z => h1.2 ?_⟩
  rcases z with z | z
  · exact Or.inl z
  · exact Or.inr (by rw [← (f.1 x h1.1).2.1]; exact z)
theorem LI.z (hK : KA T1 I1 J1 R1 ca a n) (hM : MO T1 R1 m ad ∧ MA I1 J1 m ad a0 n0 ∧ Sep T1 ca m ad) (hX : MX I1 I2 J1 J2 m ad a n) : LI T1 I2 J2 R1 ca m ad a n :=
  ⟨hK.only (fun x _ hc => hX.1 x (fun z => (hM.2.2 x z).2 hc)), hM.1, hX.2, hM.2.2⟩
theorem KA.okT (k : KA T I J R ca a n) : okT a := fun t ht => by have := k.2.2.2.1.ar ht; omega
theorem KA.okN (k : KA T I J R ca a n) : okN a := ⟨k.2.2.2.2.1.ar.1.2, k.2.2.2.2.1.ar.2.1.2, k.2.2.2.2.1.ar.2.2.2⟩
theorem KA.okB (k : KA T I J R ca a n) : okB a := k.2.2.2.2.2.1.ar.2
theorem KA.okG (k : KA T I J R ca a n) : okG a := k.2.2.2.2.2.2.1.ok
theorem KA.okO (k : KA T I J R ca a n) : okO a := k.2.2.2.2.2.2.2.1.ar.2
theorem KA.okF (k : KA T I J R ca a n) : okF a := k.2.2.2.2.2.2.2.2.1.ok
theorem c_statusQ (l : Launch) (hK : KA T I J R ca a n) : Con l yX11_status wsX11_status ({ frames := 0, cells := 0, slots := 0, locals := 0 }) [.ref (ca 0)] T I J R (PQ T I J R ca (.int (a 0 0)) a n) :=
  (c_status l hK.1).weaken (fun v T' I' J' R' h => by
    obtain ⟨h1, h2, h3, h4, h5⟩ := h
    subst h2; subst h3; subst h4; subst h5
    exact ⟨by rw [h1, hK.2.1], FrC.rf _ _ _ _ _, hK⟩)
theorem c_upperQ (l : Launch) (hK : KA T I J R ca a n) : Con l yX11_upper wsX11_upper ({ frames := 0, cells := 0, slots := 0, locals := 0 }) [.ref (ca 0)] T I J R (PQ T I J R ca (.long (n 0 2)) a n) :=
  (c_upper l hK.1).weaken (fun v T' I' J' R' h => by
    obtain ⟨h1, h2, h3, h4, h5⟩ := h
    subst h2; subst h3; subst h4; subst h5
    exact ⟨by rw [h1, hK.2.2.1.1], FrC.rf _ _ _ _ _, hK⟩)
theorem c_lowerQ (l : Launch) (hK : KA T I J R ca a n) : Con l yX11_lower wsX11_lower ({ frames := 0, cells := 0, slots := 0, locals := 0 }) [.ref (ca 0)] T I J R (PQ T I J R ca (.long (n 0 3)) a n) :=
  (c_lower l hK.1).weaken (fun v T' I' J' R' h => by
    obtain ⟨h1, h2, h3, h4, h5⟩ := h
    subst h2; subst h3; subst h4; subst h5
    exact ⟨by rw [h1, hK.2.2.1.2], FrC.rf _ _ _ _ _, hK⟩)
theorem m_statusZ (l : Launch) (hM : MO T R m ad) (hA : MA I J m ad a n) : Con l yX12_status wsX12_status ({ frames := 0, cells := 0, slots := 0, locals := 0 }) [.ref m] T I J R (PZ T I J R m ad (.int (a 0 0)) a n) :=
  (m_status l hM).weaken (fun v T' I' J' R' h => by
    obtain ⟨h1, h2, h3, h4, h5⟩ := h
    exact ⟨by rw [h1, hA.1 0 (by decide)], h2.symm, h5.symm, by rw [h3, h4]; exact (MX.i hA).t hM 0⟩)
theorem m_upperZ (l : Launch) (hM : MO T R m ad) (hA : MA I J m ad a n) : Con l yX12_upper wsX12_upper ({ frames := 0, cells := 0, slots := 0, locals := 0 }) [.ref m] T I J R (PZ T I J R m ad (.long (n 0 2)) a n) :=
  (m_upper l hM).weaken (fun v T' I' J' R' h => by
    obtain ⟨h1, h2, h3, h4, h5⟩ := h
    exact ⟨by rw [h1, hA.2.2.1], h2.symm, h5.symm, by rw [h3, h4]; exact (MX.i hA).t hM 0⟩)
theorem m_lowerZ (l : Launch) (hM : MO T R m ad) (hA : MA I J m ad a n) : Con l yX12_lower wsX12_lower ({ frames := 0, cells := 0, slots := 0, locals := 0 }) [.ref m] T I J R (PZ T I J R m ad (.long (n 0 3)) a n) :=
  (m_lower l hM).weaken (fun v T' I' J' R' h => by
    obtain ⟨h1, h2, h3, h4, h5⟩ := h
    exact ⟨by rw [h1, hA.2.2.1], h2.symm, h5.symm, by rw [h3, h4]; exact (MX.i hA).t hM 0⟩)
end LIs
/-- the law at work: its words, its script -/
def LW (E : gEnv) (b L : Nat) (xs : Nat → Int32) : Prop := Cx E cL_law RL wsL_law 4 room_1 ∧ va_X b L xs E.1.2.2.2.2 E.2.2.2.2.2.1 ∧ b < E.2.2.2.2.2.1.size ∧ ¬ E.2.2.2.2.1 b ∧ L ≤ 5120
section LWs
variable {E : gEnv} {b L : Nat} {xs : Nat → Int32} {cells slots : Nat} {T : gSh} {I : gI} {J : gJ} {R : gR} {pc : Nat} {lv : List (Nat × Value)} {st : List Value}
theorem wp_sld (h : LW E b L xs) {i : Int32} {j : Nat} (hi : i = nI j) (hj : j < L) (hd : decode cL_law pc = .ok (.iaload, 1)) (kk : WP E 4 cells slots T I J R (pc + 1) lv (.int (xs j) :: st)) : WP E 4 cells slots T I J R pc lv (.int i :: .ref b :: st) := by
  intro H locs ls hP hD hS hl
  have h5 := h.2.2.2.2
  have hcl : i.toNatClampNeg = j := by rw [hi]; exact nI_clamp (by omega)
  refine va_sld h.1.1 h.1.2.1 h.2.1 h.2.2.1 h.2.2.2.1 hS (i := i) (by rw [hi]; exact nI_in hj (by omega)) hd ?_
  rw [hcl]
  exact kk H locs ls hP hD hS hl
theorem wp_slen (h : LW E b L xs) (hd : decode cL_law pc = .ok (.arraylength, 1)) (kk : WP E 4 cells slots T I J R (pc + 1) lv (.int (nI L) :: st)) : WP E 4 cells slots T I J R pc lv (.ref b :: st) := by
  intro H locs ls hP hD hS hl
  exact va_slen h.1.1 h.1.2.1 h.2.1 h.2.2.1 h.2.2.2.1 hS hd (kk H locs ls hP hD hS hl)
theorem lc_self (x : Int64) : lg_cmp x x = 0 := by
  have h := lc_s x x
  exact (i_eq _ _).mpr (by have : (0 : Int32).toInt = 0 := rfl; omega)
end LWs
theorem kL_law_9 : CI wsL_law RL 9 yX11_init wsX11_init 2 0 := ⟨cX11_init, _, gL_law_X11_init, rfl, by decide +kernel, by decide +kernel, by decide +kernel, by decide +kernel, by decide +kernel⟩
theorem kL_law_12 : CI wsL_law RL 12 yX12_init wsX12_init 2 0 := ⟨cX12_init, _, gL_law_X12_init, rfl, by decide +kernel, by decide +kernel, by decide +kernel, by decide +kernel, by decide +kernel⟩
theorem kL_law_13 : CV wsL_law RL 13 11 yX11_status wsX11_status 1 0 := ⟨RX11, TX11, 8, cX11_status, (some .int), _, rfl, by decide, gL_law_X11_status, rfl, by decide +kernel⟩
theorem kL_law_17 : CV wsL_law RL 17 12 yX12_status wsX12_status 1 0 := ⟨RX12, TX12, 54, cX12_status, (some .int), _, rfl, by decide, gL_law_X12_status, rfl, by decide +kernel⟩
theorem kL_law_18 : CV wsL_law RL 18 11 yX11_tray wsX11_tray 4 3 := ⟨RX11, TX11, 8, cX11_tray, (some .boolean), _, rfl, by decide, gL_law_X11_tray, rfl, by decide +kernel⟩
theorem kL_law_22 : CV wsL_law RL 22 12 yX12_tray wsX12_tray 5 3 := ⟨RX12, TX12, 54, cX12_tray, (some .boolean), _, rfl, by decide, gL_law_X12_tray, rfl, by decide +kernel⟩
theorem kL_law_25 : CV wsL_law RL 25 11 yX11_write wsX11_write 5 3 := ⟨RX11, TX11, 8, cX11_write, (some .boolean), _, rfl, by decide, gL_law_X11_write, rfl, by decide +kernel⟩
theorem kL_law_29 : CV wsL_law RL 29 12 yX12_write wsX12_write 5 3 := ⟨RX12, TX12, 54, cX12_write, (some .boolean), _, rfl, by decide, gL_law_X12_write, rfl, by decide +kernel⟩
theorem kL_law_30 : CV wsL_law RL 30 11 yX11_read wsX11_read 3 2 := ⟨RX11, TX11, 8, cX11_read, (some .long), _, rfl, by decide, gL_law_X11_read, rfl, by decide +kernel⟩
theorem kL_law_34 : CV wsL_law RL 34 12 yX12_read wsX12_read 3 2 := ⟨RX12, TX12, 54, cX12_read, (some .long), _, rfl, by decide, gL_law_X12_read, rfl, by decide +kernel⟩
theorem kL_law_35 : CV wsL_law RL 35 11 yX11_pour wsX11_pour 6 5 := ⟨RX11, TX11, 8, cX11_pour, (some .boolean), _, rfl, by decide, gL_law_X11_pour, rfl, by decide +kernel⟩
theorem kL_law_39 : CV wsL_law RL 39 12 yX12_pour wsX12_pour 9 5 := ⟨RX12, TX12, 54, cX12_pour, (some .boolean), _, rfl, by decide, gL_law_X12_pour, rfl, by decide +kernel⟩
theorem kL_law_40 : CV wsL_law RL 40 11 yX11_agent wsX11_agent 1 0 := ⟨RX11, TX11, 8, cX11_agent, (some .int), _, rfl, by decide, gL_law_X11_agent, rfl, by decide +kernel⟩
theorem kL_law_43 : CV wsL_law RL 43 12 yX12_agent wsX12_agent 1 0 := ⟨RX12, TX12, 54, cX12_agent, (some .int), _, rfl, by decide, gL_law_X12_agent, rfl, by decide +kernel⟩
theorem kL_law_44 : CV wsL_law RL 44 11 yX11_editor wsX11_editor 1 0 := ⟨RX11, TX11, 8, cX11_editor, (some .int), _, rfl, by decide, gL_law_X11_editor, rfl, by decide +kernel⟩
theorem kL_law_47 : CV wsL_law RL 47 12 yX12_editor wsX12_editor 1 0 := ⟨RX12, TX12, 54, cX12_editor, (some .int), _, rfl, by decide, gL_law_X12_editor, rfl, by decide +kernel⟩
theorem kL_law_48 : CV wsL_law RL 48 11 yX11_hours wsX11_hours 2 1 := ⟨RX11, TX11, 8, cX11_hours, (some .boolean), _, rfl, by decide, gL_law_X11_hours, rfl, by decide +kernel⟩
theorem kL_law_52 : CV wsL_law RL 52 12 yX12_hours wsX12_hours 2 1 := ⟨RX12, TX12, 54, cX12_hours, (some .boolean), _, rfl, by decide, gL_law_X12_hours, rfl, by decide +kernel⟩
theorem kL_law_53 : CV wsL_law RL 53 11 yX11_worth wsX11_worth 4 3 := ⟨RX11, TX11, 8, cX11_worth, (some .boolean), _, rfl, by decide, gL_law_X11_worth, rfl, by decide +kernel⟩
theorem kL_law_56 : CV wsL_law RL 56 12 yX12_worth wsX12_worth 4 3 := ⟨RX12, TX12, 54, cX12_worth, (some .boolean), _, rfl, by decide, gL_law_X12_worth, rfl, by decide +kernel⟩
theorem kL_law_57 : CV wsL_law RL 57 11 yX11_best wsX11_best 1 0 := ⟨RX11, TX11, 8, cX11_best, (some .int), _, rfl, by decide, gL_law_X11_best, rfl, by decide +kernel⟩
theorem kL_law_60 : CV wsL_law RL 60 12 yX12_best wsX12_best 1 0 := ⟨RX12, TX12, 54, cX12_best, (some .int), _, rfl, by decide, gL_law_X12_best, rfl, by decide +kernel⟩
theorem kL_law_61 : CV wsL_law RL 61 11 yX11_meets wsX11_meets 4 2 := ⟨RX11, TX11, 8, cX11_meets, (some .int), _, rfl, by decide, gL_law_X11_meets, rfl, by decide +kernel⟩
theorem kL_law_65 : CV wsL_law RL 65 12 yX12_meets wsX12_meets 4 2 := ⟨RX12, TX12, 54, cX12_meets, (some .int), _, rfl, by decide, gL_law_X12_meets, rfl, by decide +kernel⟩
theorem kL_law_66 : CV wsL_law RL 66 11 yX11_at wsX11_at 4 2 := ⟨RX11, TX11, 8, cX11_at, (some .int), _, rfl, by decide, gL_law_X11_at, rfl, by decide +kernel⟩
theorem kL_law_69 : CV wsL_law RL 69 12 yX12_at wsX12_at 4 2 := ⟨RX12, TX12, 54, cX12_at, (some .int), _, rfl, by decide, gL_law_X12_at, rfl, by decide +kernel⟩
theorem kL_law_70 : CV wsL_law RL 70 11 yX11_book wsX11_book 2 1 := ⟨RX11, TX11, 8, cX11_book, (some .int), _, rfl, by decide, gL_law_X11_book, rfl, by decide +kernel⟩
theorem kL_law_74 : CV wsL_law RL 74 12 yX12_book wsX12_book 2 1 := ⟨RX12, TX12, 54, cX12_book, (some .int), _, rfl, by decide, gL_law_X12_book, rfl, by decide +kernel⟩
theorem kL_law_75 : CV wsL_law RL 75 11 yX11_list wsX11_list 4 3 := ⟨RX11, TX11, 8, cX11_list, (some .boolean), _, rfl, by decide, gL_law_X11_list, rfl, by decide +kernel⟩
theorem kL_law_79 : CV wsL_law RL 79 12 yX12_list wsX12_list 4 3 := ⟨RX12, TX12, 54, cX12_list, (some .boolean), _, rfl, by decide, gL_law_X12_list, rfl, by decide +kernel⟩
theorem kL_law_80 : CV wsL_law RL 80 11 yX11_hears wsX11_hears 3 2 := ⟨RX11, TX11, 8, cX11_hears, (some .int), _, rfl, by decide, gL_law_X11_hears, rfl, by decide +kernel⟩
theorem kL_law_83 : CV wsL_law RL 83 12 yX12_hears wsX12_hears 3 2 := ⟨RX12, TX12, 54, cX12_hears, (some .int), _, rfl, by decide, gL_law_X12_hears, rfl, by decide +kernel⟩
theorem kL_law_84 : CV wsL_law RL 84 11 yX11_grant wsX11_grant 9 7 := ⟨RX11, TX11, 8, cX11_grant, (some .int), _, rfl, by decide, gL_law_X11_grant, rfl, by decide +kernel⟩
theorem kL_law_88 : CV wsL_law RL 88 12 yX12_grant wsX12_grant 8 7 := ⟨RX12, TX12, 54, cX12_grant, (some .int), _, rfl, by decide, gL_law_X12_grant, rfl, by decide +kernel⟩
theorem kL_law_89 : CV wsL_law RL 89 11 yX11_end wsX11_end 3 2 := ⟨RX11, TX11, 8, cX11_end, (some .boolean), _, rfl, by decide, gL_law_X11_end, rfl, by decide +kernel⟩
theorem kL_law_93 : CV wsL_law RL 93 12 yX12_end wsX12_end 3 2 := ⟨RX12, TX12, 54, cX12_end, (some .boolean), _, rfl, by decide, gL_law_X12_end, rfl, by decide +kernel⟩
theorem kL_law_94 : CV wsL_law RL 94 11 yX11_has wsX11_has 7 5 := ⟨RX11, TX11, 8, cX11_has, (some .int), _, rfl, by decide, gL_law_X11_has, rfl, by decide +kernel⟩
theorem kL_law_98 : CV wsL_law RL 98 12 yX12_has wsX12_has 7 5 := ⟨RX12, TX12, 54, cX12_has, (some .int), _, rfl, by decide, gL_law_X12_has, rfl, by decide +kernel⟩
theorem kL_law_99 : CV wsL_law RL 99 11 yX11_left wsX11_left 8 5 := ⟨RX11, TX11, 8, cX11_left, (some .boolean), _, rfl, by decide, gL_law_X11_left, rfl, by decide +kernel⟩
theorem kL_law_102 : CV wsL_law RL 102 12 yX12_left wsX12_left 11 5 := ⟨RX12, TX12, 54, cX12_left, (some .boolean), _, rfl, by decide, gL_law_X12_left, rfl, by decide +kernel⟩
theorem kL_law_103 : CV wsL_law RL 103 11 yX11_option wsX11_option 5 4 := ⟨RX11, TX11, 8, cX11_option, (some .boolean), _, rfl, by decide, gL_law_X11_option, rfl, by decide +kernel⟩
theorem kL_law_107 : CV wsL_law RL 107 12 yX12_option wsX12_option 5 4 := ⟨RX12, TX12, 54, cX12_option, (some .boolean), _, rfl, by decide, gL_law_X12_option, rfl, by decide +kernel⟩
theorem kL_law_108 : CV wsL_law RL 108 11 yX11_may wsX11_may 10 8 := ⟨RX11, TX11, 8, cX11_may, (some .int), _, rfl, by decide, gL_law_X11_may, rfl, by decide +kernel⟩
theorem kL_law_112 : CV wsL_law RL 112 12 yX12_may wsX12_may 9 8 := ⟨RX12, TX12, 54, cX12_may, (some .int), _, rfl, by decide, gL_law_X12_may, rfl, by decide +kernel⟩
theorem kL_law_113 : CV wsL_law RL 113 11 yX11_upper wsX11_upper 1 0 := ⟨RX11, TX11, 8, cX11_upper, (some .long), _, rfl, by decide, gL_law_X11_upper, rfl, by decide +kernel⟩
theorem kL_law_117 : CV wsL_law RL 117 12 yX12_upper wsX12_upper 1 0 := ⟨RX12, TX12, 54, cX12_upper, (some .long), _, rfl, by decide, gL_law_X12_upper, rfl, by decide +kernel⟩
theorem kL_law_118 : CV wsL_law RL 118 11 yX11_lower wsX11_lower 1 0 := ⟨RX11, TX11, 8, cX11_lower, (some .long), _, rfl, by decide, gL_law_X11_lower, rfl, by decide +kernel⟩
theorem kL_law_121 : CV wsL_law RL 121 12 yX12_lower wsX12_lower 1 0 := ⟨RX12, TX12, 54, cX12_lower, (some .long), _, rfl, by decide, gL_law_X12_lower, rfl, by decide +kernel⟩
theorem kL_law_122 : CV wsL_law RL 122 11 yX11_auction wsX11_auction 7 5 := ⟨RX11, TX11, 8, cX11_auction, (some .int), _, rfl, by decide, gL_law_X11_auction, rfl, by decide +kernel⟩
theorem kL_law_125 : CV wsL_law RL 125 12 yX12_auction wsX12_auction 12 5 := ⟨RX12, TX12, 54, cX12_auction, (some .int), _, rfl, by decide, gL_law_X12_auction, rfl, by decide +kernel⟩
theorem kL_law_126 : CV wsL_law RL 126 11 yX11_sold wsX11_sold 2 1 := ⟨RX11, TX11, 8, cX11_sold, (some .int), _, rfl, by decide, gL_law_X11_sold, rfl, by decide +kernel⟩
theorem kL_law_130 : CV wsL_law RL 130 12 yX12_sold wsX12_sold 2 1 := ⟨RX12, TX12, 54, cX12_sold, (some .int), _, rfl, by decide, gL_law_X12_sold, rfl, by decide +kernel⟩
theorem kL_law_131 : CV wsL_law RL 131 11 yX11_offer wsX11_offer 11 9 := ⟨RX11, TX11, 8, cX11_offer, (some .int), _, rfl, by decide, gL_law_X11_offer, rfl, by decide +kernel⟩
theorem kL_law_135 : CV wsL_law RL 135 12 yX12_offer wsX12_offer 10 9 := ⟨RX12, TX12, 54, cX12_offer, (some .int), _, rfl, by decide, gL_law_X12_offer, rfl, by decide +kernel⟩
theorem kL_law_136 : CV wsL_law RL 136 11 yX11_take wsX11_take 5 2 := ⟨RX11, TX11, 8, cX11_take, (some .int), _, rfl, by decide, gL_law_X11_take, rfl, by decide +kernel⟩
theorem kL_law_139 : CV wsL_law RL 139 12 yX12_take wsX12_take 6 2 := ⟨RX12, TX12, 54, cX12_take, (some .int), _, rfl, by decide, gL_law_X12_take, rfl, by decide +kernel⟩
theorem kL_law_140 : CV wsL_law RL 140 11 yX11_state wsX11_state 3 2 := ⟨RX11, TX11, 8, cX11_state, (some .int), _, rfl, by decide, gL_law_X11_state, rfl, by decide +kernel⟩
theorem kL_law_143 : CV wsL_law RL 143 12 yX12_state wsX12_state 3 2 := ⟨RX12, TX12, 54, cX12_state, (some .int), _, rfl, by decide, gL_law_X12_state, rfl, by decide +kernel⟩
theorem nL_law_7 : NL wsL_law RL 7 11 := ⟨RX11, TX11, 8, tyX11, rfl, rfl, by decide, inlX11, by decide +kernel, by decide +kernel, by decide +kernel, tyX11_ok, by decide +kernel⟩
theorem nL_law_10 : NL wsL_law RL 10 12 := ⟨RX12, TX12, 54, tyX12, rfl, rfl, by decide, inlX12, by decide +kernel, by decide +kernel, by decide +kernel, tyX12_ok, by decide +kernel⟩
