/-! ===== grant, end, has of the class ===== -/
section NR
variable {T : gSh} {I : gI} {J : gJ} {R : gR} {ca : Nat → Nat} {a : gI} {n : gJ}
theorem RI.st {r : Nat} {v : Nat → Int32} (h : RI T I r v) (hC : CO T R ca) (s : Int32) : RI T (u2 I (ca 0) 5 s) r v :=
  ⟨h.1, fun k hk => by rw [u2_rown _ _ _ _ (hC.nd h.1 (by unfold dyn; omega) (by omega))]; exact h.2 k hk⟩
theorem newR (k : KA T I J R ca a n) {q : Nat} (hq : q ∉ T.1) (x0 x1 x2 x3 x4 : Int32) : KA (T.1 ++ [q], va_up T.2.1 q 8, va_up T.2.2 q 0) (u2 (u2 (u2 (u2 (u2 (va_up I q (fun _ => 0)) q 0 x0) q 1 x1) q 2 x2) q 3 x3) q 4 x4) (va_up J q (fun _ => 0)) (va_up R q (fun _ => none)) ca a n ∧ RI (T.1 ++ [q], va_up T.2.1 q 8, va_up T.2.2 q 0) (u2 (u2 (u2 (u2 (u2 (va_up I q (fun _ => 0)) q 0 x0) q 1 x1) q 2 x2) q 3 x3) q 4 x4) q (rv x0 x1 x2 x3 x4) ∧ ExL T (T.1 ++ [q], va_up T.2.1 q 8, va_up T.2.2 q 0) I (u2 (u2 (u2 (u2 (u2 (va_up I q (fun _ => 0)) q 0 x0) q 1 x1) q 2 x2) q 3 x3) q 4 x4) J (va_up J q (fun _ => 0)) R (va_up R q (fun _ => none)) ca [] := by
  have hx : ExL T (T.1 ++ [q], va_up T.2.1 q 8, va_up T.2.2 q 0) I (u2 (u2 (u2 (u2 (u2 (va_up I q (fun _ => 0)) q 0 x0) q 1 x1) q 2 x2) q 3 x3) q 4 x4) J (va_up J q (fun _ => 0)) R (va_up R q (fun _ => none)) ca [] := ((((((ExL.rf (fun i hi => by cases hi)).push hq).nI hq 0 x0).nI hq 1 x1).nI hq 2 x2).nI hq 3 x3).nI hq 4 x4
  refine ⟨k.grow hx, ⟨OB.new, fun k hk => ?_⟩, hx⟩
  rcases (show k = 0 ∨ k = 1 ∨ k = 2 ∨ k = 3 ∨ k = 4 by omega) with rfl | rfl | rfl | rfl | rfl <;> simp [u2, rv]
/-- cells of one kind alone have changed -/
def ExK (T : gSh) (I I' : gI) (kd : Nat) : Prop := ∀ x, x ∈ T.1 → T.2.1 x ≠ kd → I' x = I x
theorem ExK.fx {I' : gI} {kd : Nat} (h : ExK T I I' kd) (hC : CO T R ca) (hk : dyn kd) {i : Nat} (hi : i < 30) : I' (ca i) = I (ca i) :=
  h _ (hC.1 i hi).1 (fun z => hC.nd (k := kd) ⟨(hC.1 i hi).1, z⟩ hk hi rfl)
theorem ExK.ob {I' : gI} {kd x c : Nat} (h : ExK T I I' kd) (hx : OB T x c) (hc : c ≠ kd) : I' x = I x := h _ hx.1 (by rw [hx.2]; exact hc)
theorem KA.exk3 {I' : gI} {a' : gI} (k : KA T I J R ca a n) (h : ExK T I I' 3) (hg : KG T I' R ca a') (hr : ∀ r, r ≠ 35 → a' r = a r) : KA T I' J R ca a' n := by
  obtain ⟨hC, k0, k1, k2, k3, k4, k5, k6, k7, k8⟩ := k
  have c : ∀ i, i < 30 → I' (ca i) = I (ca i) := fun i hi => h.fx hC (by unfold dyn; omega) hi
  refine ⟨hC, by rw [c 0 (by omega), hr 0 (by decide)]; exact k0, k1, ?_, ?_, ?_, hg, ?_, ?_, ?_⟩
  · intro t ht
    rw [c (5 + t) (by omega), hr 4 (by decide), hr 5 (by decide)]; exact k2 t ht
  · obtain ⟨A, B, hh, w, q1, q2⟩ := k3
    refine ⟨A, B, hh, w, ?_, by rw [hr 0 (by decide), hr 10 (by decide)]; exact q2⟩
    unfold KM BS TT at q1 ⊢
    rw [c 2 (by omega), c 13 (by omega), c 22 (by omega), c 14 (by omega), c 17 (by omega), c 16 (by omega), c 18 (by omega), c 15 (by omega), c 23 (by omega), c 24 (by omega)]
    exact q1
  · unfold KB at k4 ⊢
    rw [c 3 (by omega), c 25 (by omega), c 26 (by omega), hr 0 (by decide), hr 26 (by decide), hr 27 (by decide)]; exact k4
  · obtain ⟨o, q1, q2, q3, oa, q4⟩ := k6
    refine ⟨o, q1, by rw [c 3 (by omega)]; exact q2, by rw [hr 0 (by decide)]; exact q3, oa, fun i hi => ⟨(q4 i hi).1, (q4 i hi).2.1, fun k hk => by rw [h.ob (q4 i hi).2.1 (by decide), hr (36 + k) (by omega)]; exact (q4 i hi).2.2 k hk⟩⟩
  · obtain ⟨z, q1, q2, q3, q4, fa, rb, q5, q6⟩ := k7
    refine ⟨z, q1, by rw [c 4 (by omega)]; exact q2, by rw [hr 0 (by decide)]; exact q3, by rw [c 4 (by omega), hr 0 (by decide)]; exact q4, fa, rb, fun i hi => ?_, q6⟩
    obtain ⟨p1, p2, p3, p4, p5, p6, p7, p8, p9, p10, p11⟩ := q5 i hi
    have ev : ov a' i = ov a i := by funext k; unfold ov; rw [hr (42 + k) (by omega)]
    rw [ev, h.ob p2 (by decide), hr 40 (by decide), hr 41 (by decide), hr 47 (by decide), hr 48 (by decide)]
    exact ⟨p1, p2, p3, ⟨p4.1, fun k hk => by rw [h.ob p4.1 (by decide)]; exact p4.2 k hk⟩, p5, p6, p7, p8, p9, p10, p11⟩
  · unfold KS at k8 ⊢
    rw [hr 0 (by decide)]
    rcases k8 with q | ⟨q1, u, q2, q3, q4⟩
    · exact Or.inl q
    · exact Or.inr ⟨q1, u, q2, q3, by rw [h.ob q3 (by decide)]; exact q4⟩
end NR
def stEn (a : gI) (g d : Int32) : Nat := if 0 ≤ g.toInt ∧ g.toInt < (a 0 22).toInt then (if 0 ≤ d.toInt ∧ d.toInt ≤ 9999 then (if (a 35 g.toInt.toNat).toInt < 0 then 0 else 8) else 2) else 1
def aEn (a : gI) (g d : Int32) : gI := if stEn a g d = 0 then u2 (u2 a 0 0 0) 35 g.toInt.toNat d else u2 a 0 0 (nI (stEn a g d))
theorem stEn_le (a : gI) (g d : Int32) : stEn a g d ≤ 8 := by simp only [stEn]; (repeat' split) <;> omega
theorem stEn_ok {a : gI} {g d : Int32} (z : stEn a g d = 0) : (0 ≤ g.toInt ∧ g.toInt < (a 0 22).toInt) ∧ (0 ≤ d.toInt ∧ d.toInt ≤ 9999) ∧ (a 35 g.toInt.toNat).toInt < 0 := by
  simp only [stEn] at z; (repeat' split at z) <;> omega
theorem dm1 {d : Int32} (h : 0 ≤ d.toInt ∧ d.toInt ≤ 9999) : (d - 1).toInt = d.toInt - 1 := by
  rw [sub32 (by omega) (by decide)]; rfl
/-- a grant ends -/
theorem KA.endG {T : gSh} {I : gI} {J : gJ} {R : gR} {ca : Nat → Nat} {a : gI} {n : gJ} (k : KA T I J R ca a n) {i y : Nat} {d : Int32} (hi : (i : Int) < (a 0 22).toInt) (hy : R (ca 27) i = some y) (h0 : (a 35 i).toInt < 0) (hd : 0 ≤ d.toInt ∧ d.toInt ≤ 9999) : KA T (u2 (u2 I y 3 1) y 4 (mnI (I y 4) (d - 1))) J R ca (u2 a 35 i d) n := by
  have hC := k.1
  obtain ⟨g, k1, k2, k3, ga, ra, k4, k5, k6⟩ := k.2.2.2.2.2.2.1
  have ig : i < g := by rw [k3, nI_toInt (by omega)] at hi; omega
  have ey : ga i = y := Option.some.inj ((k4 i ig).1.symm.trans hy)
  subst ey
  have hob := (k4 i ig).2.1
  have hx : ExK T I (u2 (u2 I (ga i) 3 1) (ga i) 4 (mnI (I (ga i) 4) (d - 1))) 3 := fun x _ hn => by
    have : x ≠ ga i := fun z => hn (by rw [z]; exact hob.2)
    rw [u2_rown _ _ _ _ this, u2_rown _ _ _ _ this]
  have ra_ : ∀ r, r ≠ 35 → u2 a 35 i d r = a r := fun r hr => u2_rown _ _ _ _ hr
  have lo : ∀ j, j ≠ i → lastI (u2 a 35 i d) j = lastI a j := fun j hj => by unfold lastI; rw [u2_k _ _ _ _ hj, ra_ 34 (by decide)]
  have hm := mn_s (show mnI (I (ga i) 4) (d - 1) = _ from rfl)
  rw [dm1 hd] at hm
  have hl := (k4 i ig).2.2.2.2.2.2.2.2.2
  have le : lastI a i = (a 34 i).toInt := by unfold lastI; rw [if_pos h0]
  have li : lastI (u2 a 35 i d) i = (mnI (I (ga i) 4) (d - 1)).toInt := by
    unfold lastI
    rw [u2_s, ra_ 34 (by decide), if_neg (by omega)]
    split <;> omega
  have lle : ∀ j, lastI (u2 a 35 i d) j ≤ lastI a j := fun j => by
    by_cases z : j = i
    · rw [z, li]; omega
    · rw [lo j z]; omega
  refine k.exk3 hx ⟨g, k1, ?_, by rw [ra_ 0 (by decide)]; exact k3, ga, ra, fun j hj => ?_, k5, fun j j2 h1 h2 z => ?_⟩ ra_
  · rw [hx.fx hC (by unfold dyn; omega) (by omega)]; exact k2
  · obtain ⟨p1, p2, p3, p4, p5, p6, p7, p8, p9, p10⟩ := k4 j hj
    have ev : gv (u2 a 35 i d) j = gv a j ∨ True := Or.inr trivial
    have ev5 : ∀ k, k < 5 → gv (u2 a 35 i d) j k = gv a j k := fun k hk => by unfold gv; rw [ra_ (30 + k) (by omega)]
    have hv5 : vR (gv (u2 a 35 i d) j) := by
      unfold vR at p5 ⊢
      rw [ev5 0 (by omega), ev5 1 (by omega), ev5 2 (by omega), ev5 3 (by omega), ev5 4 (by omega)]
      exact p5
    have hr5 : RI T (u2 (u2 I (ga i) 3 1) (ga i) 4 (mnI (I (ga i) 4) (d - 1))) (ra j) (gv (u2 a 35 i d) j) := ⟨p4.1, fun k hk => by rw [hx.ob p4.1 (by decide), ev5 k hk]; exact p4.2 k hk⟩
    by_cases z : j = i
    · subst z
      rw [ra_ 28 (by decide), ra_ 29 (by decide), u2_s, li]
      exact ⟨p1, p2, p3, hr5, hv5, by rw [u2_k _ _ _ _ (by decide), u2_k _ _ _ _ (by decide)]; exact p6, by rw [u2_k _ _ _ _ (by decide), u2_k _ _ _ _ (by decide)]; exact p7, p8, Or.inr ⟨hd, by rw [u2_k _ _ _ _ (by decide), u2_s]⟩, by rw [u2_s]⟩
    · have ne : ga j ≠ ga i := fun y => z (k5 j i hj ig y)
      rw [ra_ 28 (by decide), ra_ 29 (by decide), u2_k _ _ _ _ z, lo j z, u2_rown _ _ _ _ ne, u2_rown _ _ _ _ ne]
      exact ⟨p1, p2, p3, hr5, hv5, p6, p7, p8, p9, p10⟩
  · rw [ra_ 28 (by decide), ra_ 30 (by decide), ra_ 31 (by decide), ra_ 32 (by decide), ra_ 33 (by decide)] at z
    have q1 := lle j
    have q2 := lle j2
    exact k6 j j2 h1 h2 ⟨z.1, z.2.1, z.2.2.1, z.2.2.2.1, by omega, by omega, by omega, by omega⟩
/-- the one cell of a land, a tongue and a form -/
def rc (l t f d : Int32) : Nat → Int32 := rv (1 <<< (l &&& 31)) (1 <<< (t &&& 31)) (1 <<< (f &&& 31)) d d
theorem shl_all : ∀ k, k < 8 → ((1 : Int32) <<< (nI k &&& 31)).toInt = 2 ^ k := by decide +kernel
theorem shl_bd {l : Int32} (h : 0 ≤ l.toInt ∧ l.toInt ≤ 7) : 0 ≤ ((1 : Int32) <<< (l &&& 31)).toInt ∧ ((1 : Int32) <<< (l &&& 31)).toInt ≤ 255 ∧ (l.toInt ≤ 3 → ((1 : Int32) <<< (l &&& 31)).toInt ≤ 15) := by
  obtain ⟨k, hk, rfl⟩ := natOf h.1
  have h2 := shl_all k (by omega)
  have h3 : k < 8 := by omega
  rw [h2]
  rcases (show k = 0 ∨ k = 1 ∨ k = 2 ∨ k = 3 ∨ k = 4 ∨ k = 5 ∨ k = 6 ∨ k = 7 by omega) with rfl | rfl | rfl | rfl | rfl | rfl | rfl | rfl <;> omega
theorem rc_b {l t f d : Int32} (h1 : 0 ≤ l.toInt ∧ l.toInt ≤ 7) (h2 : 0 ≤ t.toInt ∧ t.toInt ≤ 3) (h3 : 0 ≤ f.toInt ∧ f.toInt ≤ 3) : vB (rc l t f d) := by
  have a1 := shl_bd (l := l) h1
  have a2 := shl_bd (l := t) (by omega)
  have a3 := shl_bd (l := f) (by omega)
  exact ⟨⟨a1.1, a1.2.1⟩, ⟨a2.1, a2.2.2 h2.2⟩, ⟨a3.1, a3.2.2 h3.2⟩⟩
def stCe (a : gI) (b l t f d : Int32) : Nat := if 0 ≤ b.toInt ∧ b.toInt < (a 0 21).toInt then (if (0 ≤ l.toInt ∧ l.toInt ≤ 7) ∧ (0 ≤ t.toInt ∧ t.toInt ≤ 3) ∧ (0 ≤ f.toInt ∧ f.toInt ≤ 3) ∧ (0 ≤ d.toInt ∧ d.toInt ≤ 9999) then 0 else 2) else 1
theorem stCe_le (a : gI) (b l t f d : Int32) : stCe a b l t f d ≤ 2 := by simp only [stCe]; (repeat' split) <;> omega
theorem stCe_ok {a : gI} {b l t f d : Int32} (z : stCe a b l t f d = 0) : (0 ≤ b.toInt ∧ b.toInt < (a 0 21).toInt) ∧ (0 ≤ l.toInt ∧ l.toInt ≤ 7) ∧ (0 ≤ t.toInt ∧ t.toInt ≤ 3) ∧ (0 ≤ f.toInt ∧ f.toInt ≤ 3) ∧ (0 ≤ d.toInt ∧ d.toInt ≤ 9999) := by
  simp only [stCe] at z; (repeat' split at z) <;> omega
def stHa (a : gI) (b l t f d : Int32) : Nat := if stCe a b l t f d = 0 then (if clN a b (rc l t f d) = 0 then 9 else 0) else stCe a b l t f d
def vHa (a : gI) (b l t f d : Int32) : Int32 := if stHa a b l t f d = 0 then ownV a b (rc l t f d) else -1
set_option maxRecDepth 100000 in
set_option maxHeartbeats 4000000 in
theorem c_statusOfGrant (l : Launch) {T : gSh} {I : gI} {J : gJ} {R : gR} {ca : Nat → Nat} {a : gI} {n : gJ} (hK : KA T I J R ca a n) {s : Nat} {v : Nat → Int32} (hs : RI T I s v) (b e : Int32) : Con l yX11_statusOfGrant wsX11_statusOfGrant ({ frames := 5, cells := 0, slots := 0, locals := 110 }) [.ref (ca 0), .int b, .int e, .ref s] T I J R (gP (some (.int (nI (stGr a b e v)))) T I J R) := by
  refine Con.mk (cc := cX11_statusOfGrant) (maxL := 4) (ret := (some .int)) (by decide) rfl (Nat.le_of_ble_eq_true rfl) ?_
  intro E hE C Z hnm
  subst hE
  change WP E 4 0 0 T I J R 0 [(0, .ref (ca 0)), (1, .int b), (2, .int e), (3, .ref s)] []
  have kn := hK.2.2.2.2.1.ar
  have kb := hK.2.2.2.2.2.1.ar
  have kg := hK.2.2.2.2.2.2.1.ar
  have hcl := clN_le a b v
  have hca := can_le v
  refine wp_aload_n C 0 dX11_statusOfGrant_0 rfl rfl ?_
  refine wp_iload_n C 1 dX11_statusOfGrant_1 rfl rfl ?_
  refine wp_cVi C (As := [.int b]) (rest := []) dX11_statusOfGrant_2 kX11_statusOfGrant_171 (hK.1.ob 0 (by decide) rfl) (c_isBook _ hK.1 b) rfl (Nat.le_of_ble_eq_true rfl) (by decide) (by decide) ?_
  refine wp_if_eq C 16 dX11_statusOfGrant_5 (by decide) (fun c5 => ?_) (fun c5 => ?_)
  · have c5 : ¬ (0 ≤ b.toInt ∧ b.toInt < (I (ca 3) 0).toInt) := fun z => absurd ((bI_t z).symm.trans c5) (by decide)
    refine wp_iconst C 1 dX11_statusOfGrant_16 (by decide) ?_
    exact wp_iret C Z dX11_statusOfGrant_17 (by decide) (by decide) (by rw [show stGr a b e v = 1 from by simp only [stGr]; (repeat' split) <;> omega]; exact gP_rf)
  · have c5 : (0 ≤ b.toInt ∧ b.toInt < (I (ca 3) 0).toInt) := Classical.byContradiction (fun z => c5 (bI_f z))
    refine wp_aload_n C 0 dX11_statusOfGrant_8 rfl rfl ?_
    refine wp_iload_n C 2 dX11_statusOfGrant_9 rfl rfl ?_
    refine wp_cVi C (As := [.int e]) (rest := []) dX11_statusOfGrant_10 kX11_statusOfGrant_122 (hK.1.ob 0 (by decide) rfl) (c_isEditor _ hK.1 e) rfl (Nat.le_of_ble_eq_true rfl) (by decide) (by decide) ?_
    refine wp_if_ne C 18 dX11_statusOfGrant_13 (by decide) (fun c13 => ?_) (fun c13 => ?_)
    · have c13 : (0 ≤ e.toInt ∧ e.toInt < (I (ca 2) 1).toInt) := Classical.byContradiction (fun z => c13 (bI_f z))
      refine wp_aload_n C 3 dX11_statusOfGrant_18 rfl rfl ?_
      refine wp_cVi C (As := []) (rest := []) dX11_statusOfGrant_19 kX11_statusOfGrant_192 hs.1 (c_canBe _ hs) rfl (Nat.le_of_ble_eq_true rfl) (by decide) (by decide) ?_
      refine wp_if_ne C 27 dX11_statusOfGrant_22 (by decide) (fun c22 => ?_) (fun c22 => ?_)
      · have c22 : ¬ ((can v : Nat) : Int) = 0 := by have hcv := n_eq c22; rw [nI_toInt (show can v < 2 ^ 31 by omega)] at hcv; exact hcv
        refine wp_aload_n C 0 dX11_statusOfGrant_27 rfl rfl ?_
        refine wp_getR C dX11_statusOfGrant_28 fX11_statusOfGrant_26 (hK.1.ob 0 (by decide) rfl) (hK.1.rf 0 2 3 (by decide)) ?_
        refine wp_getI C dX11_statusOfGrant_31 fX11_statusOfGrant_196 (hK.1.ob 3 (by decide) rfl) ?_
        refine wp_eqi kg.1 ?_
        refine wp_bipush C 60 dX11_statusOfGrant_34 (by decide) ?_
        refine wp_icmp_lt C 42 dX11_statusOfGrant_36 (by decide) (fun c36 => ?_) (fun c36 => ?_)
        · have c36 : (a 0 22).toInt < 60 := by have hcv := p_lt c36; exact hcv
          refine wp_aload_n C 0 dX11_statusOfGrant_42 rfl rfl ?_
          refine wp_getR C dX11_statusOfGrant_43 fX11_statusOfGrant_26 (hK.1.ob 0 (by decide) rfl) (hK.1.rf 0 2 3 (by decide)) ?_
          refine wp_iload_n C 1 dX11_statusOfGrant_46 rfl rfl ?_
          refine wp_aload_n C 3 dX11_statusOfGrant_47 rfl rfl ?_
          refine wp_cVi C (As := [.int b, .ref s]) (rest := []) dX11_statusOfGrant_48 kX11_statusOfGrant_199 (hK.1.ob 3 (by decide) rfl) (c_wouldClash _ hK hs (can_1 (show can v = 1 by omega)).b b) rfl (Nat.le_of_ble_eq_true rfl) (by decide) (by decide) ?_
          refine wp_if_eq C 59 dX11_statusOfGrant_51 (by decide) (fun c51 => ?_) (fun c51 => ?_)
          · have c51 : ((clN a b v : Nat) : Int) = 0 := by have hcv := p_eq c51; rw [nI_toInt (show clN a b v < 2 ^ 31 by omega)] at hcv; exact hcv
            refine wp_iconst C 0 dX11_statusOfGrant_59 (by decide) ?_
            exact wp_iret C Z dX11_statusOfGrant_60 (by decide) (by decide) (by rw [show stGr a b e v = 0 from by simp only [stGr]; (repeat' split) <;> omega]; exact gP_rf)
          · have c51 : ¬ ((clN a b v : Nat) : Int) = 0 := by have hcv := n_eq c51; rw [nI_toInt (show clN a b v < 2 ^ 31 by omega)] at hcv; exact hcv
            refine wp_bipush C 10 dX11_statusOfGrant_54 (by decide) ?_
            refine wp_goto C 60 dX11_statusOfGrant_56 (by decide) ?_
            exact wp_iret C Z dX11_statusOfGrant_60 (by decide) (by decide) (by rw [show stGr a b e v = 10 from by simp only [stGr]; (repeat' split) <;> omega]; exact gP_rf)
        · have c36 : ¬ (a 0 22).toInt < 60 := by have hcv := n_lt c36; exact hcv
          refine wp_bipush C 7 dX11_statusOfGrant_39 (by decide) ?_
          exact wp_iret C Z dX11_statusOfGrant_41 (by decide) (by decide) (by rw [show stGr a b e v = 7 from by simp only [stGr]; (repeat' split) <;> omega]; exact gP_rf)
      · have c22 : ((can v : Nat) : Int) = 0 := by have hcv := p_eq c22; rw [nI_toInt (show can v < 2 ^ 31 by omega)] at hcv; exact hcv
        refine wp_iconst C 2 dX11_statusOfGrant_25 (by decide) ?_
        exact wp_iret C Z dX11_statusOfGrant_26 (by decide) (by decide) (by rw [show stGr a b e v = 2 from by simp only [stGr]; (repeat' split) <;> omega]; exact gP_rf)
    · have c13 : ¬ (0 ≤ e.toInt ∧ e.toInt < (I (ca 2) 1).toInt) := fun z => absurd ((bI_t z).symm.trans c13) (by decide)
      refine wp_iconst C 1 dX11_statusOfGrant_16 (by decide) ?_
      exact wp_iret C Z dX11_statusOfGrant_17 (by decide) (by decide) (by rw [show stGr a b e v = 1 from by simp only [stGr]; (repeat' split) <;> omega]; exact gP_rf)
set_option maxRecDepth 100000 in
set_option maxHeartbeats 4000000 in
theorem c_grant (l : Launch) {T : gSh} {I : gI} {J : gJ} {R : gR} {ca : Nat → Nat} {a : gI} {n : gJ} (hK : KA T I J R ca a n) (b e p t f d u : Int32) : Con l yX11_grant wsX11_grant ({ frames := 6, cells := 2, slots := 10, locals := 133 }) [.ref (ca 0), .int b, .int e, .int p, .int t, .int f, .int d, .int u] T I J R (PQ T I J R ca (.int (if stGr a b e (rv p t f d u) = 0 then a 0 22 else -1)) (aGrant a b e (rv p t f d u)) n) := by
  refine Con.mk (cc := cX11_grant) (maxL := 9) (ret := (some .int)) (by decide) rfl (Nat.le_of_ble_eq_true rfl) ?_
  intro E hE C Z hnm
  subst hE
  change WP E 9 0 0 T I J R 0 [(0, .ref (ca 0)), (1, .int b), (2, .int e), (3, .int p), (4, .int t), (5, .int f), (6, .int d), (7, .int u)] []
  refine wp_new C dX11_grant_0 nX11_grant_180 (by decide) (by decide) ?_
  intro q hq
  refine wp_dup C dX11_grant_3 rfl ?_
  refine wp_iload_n C 3 dX11_grant_4 rfl rfl ?_
  refine wp_iload C 4 dX11_grant_5 rfl ?_
  refine wp_iload C 5 dX11_grant_7 rfl ?_
  refine wp_iload C 6 dX11_grant_9 rfl ?_
  refine wp_iload C 7 dX11_grant_11 rfl ?_
  refine wp_cIv C (As := [.int p, .int t, .int f, .int d, .int u]) (rest := [.ref q]) dX11_grant_13 kX11_grant_182 (c_Rights _ OB.new p t f d u) rfl (Nat.le_of_ble_eq_true rfl) (by decide) (by decide) ?_
  refine wp_gen (fun T1 I1 J1 R1 => KA T1 I1 J1 R1 ca a n ∧ RI T1 I1 q (rv p t f d u) ∧ ExL T T1 I I1 J J1 R R1 ca []) (newR hK hq p t f d u) ?_
  intro T1 I1 J1 R1 hp
  refine wp_astore C [(8, .ref q), (0, .ref (ca 0)), (1, .int b), (2, .int e), (3, .int p), (4, .int t), (5, .int f), (6, .int d), (7, .int u)] dX11_grant_16 (by decide) rfl ?_
  refine wp_aload_n C 1 dX11_grant_18 rfl rfl ?_
  refine wp_aload_n C 1 dX11_grant_19 rfl rfl ?_
  refine wp_iload_n C 2 dX11_grant_20 rfl rfl ?_
  refine wp_iload_n C 3 dX11_grant_21 rfl rfl ?_
  refine wp_aload C 0 dX11_grant_22 rfl ?_
  refine wp_cVi C (As := [.int b, .int e, .ref q]) (rest := [.ref (ca 0)]) dX11_grant_24 kX11_grant_185 (hp.1.1.ob 0 (by decide) rfl) (c_statusOfGrant _ hp.1 hp.2.1 b e) rfl (Nat.le_of_ble_eq_true rfl) (by decide) (by decide) ?_
  refine wp_putI C dX11_grant_27 pX11_grant_41 (fun h => nomatch h) (hp.1.1.ob 0 (by decide) rfl) ?_
  refine wp_aload_n C 1 dX11_grant_30 rfl rfl ?_
  refine wp_getI C dX11_grant_31 fX11_grant_41 (hp.1.1.ob 0 (by decide) rfl) ?_
  refine wp_eqi (u2_s _ _ _ _) ?_
  refine wp_if_ne C 51 dX11_grant_34 (by decide) (fun c34 => ?_) (fun c34 => ?_)
  · have c34 : ¬ stGr a b e (rv p t f d u) = 0 := fun z => c34 (by rw [z]; rfl)
    refine wp_iconst C (-1) dX11_grant_51 (by decide) ?_
    exact wp_iret C Z dX11_grant_52 (by decide) (by decide) ⟨by rw [if_neg c34], hp.2.2.frc.pI (by decide) 5 _, by unfold aGrant; rw [if_neg c34]; exact hp.1.st _⟩
  · have c34 : stGr a b e (rv p t f d u) = 0 := by have hcv := p_eq c34; rw [nI_toInt (show stGr a b e (rv p t f d u) < 2 ^ 31 by have := stGr_le a b e (rv p t f d u); omega)] at hcv; have hz0 : ((0 : Int32)).toInt = 0 := rfl; omega
    have hsu := stGr_ok c34
    refine wp_eI (show _ = u2 I1 (ca 0) 5 0 by rw [c34]; rfl) ?_
    refine wp_aload_n C 1 dX11_grant_37 rfl rfl ?_
    refine wp_getR C dX11_grant_38 fX11_grant_26 (hp.1.1.ob 0 (by decide) rfl) (hp.1.1.rf 0 2 3 (by decide)) ?_
    refine wp_iload_n C 2 dX11_grant_41 rfl rfl ?_
    refine wp_iload_n C 3 dX11_grant_42 rfl rfl ?_
    refine wp_aload C 0 dX11_grant_43 rfl ?_
    refine wp_callV C (As := [.int b, .int e, .ref q]) (rest := []) dX11_grant_45 kX11_grant_189 (hp.1.1.ob 3 (by decide) rfl) (c_addGrant _ (hp.1.st 0) (hp.2.1.st hp.1.1 0) (can_1 hsu.2.1) hsu.1.2.1 (by rw [u2_k _ _ _ _ (by decide)]; exact hsu.2.2.1) (by rw [(clN_st a 0 b _).1]; exact hsu.2.2.2)) rfl (Nat.le_of_ble_eq_true rfl) (by decide) (by decide) ?_
    rintro _ T2 I2 J2 R2 ⟨rfl, hF2, hK2⟩
    change WP E 9 _ _ T2 I2 J2 R2 48 [(8, .ref q), (0, .ref (ca 0)), (1, .int b), (2, .int e), (3, .int p), (4, .int t), (5, .int f), (6, .int d), (7, .int u)] [.int (u2 a 0 0 0 0 22)]
    refine wp_eqi (u2_k _ _ _ _ (by decide) _) ?_
    refine wp_goto C 52 dX11_grant_48 (by decide) ?_
    exact wp_iret C Z dX11_grant_52 (by decide) (by decide) ⟨by rw [if_pos c34], (hp.2.2.frc.pI (i := 0) (by decide) 5 0).tr hF2, by unfold aGrant; rw [if_pos c34]; exact hK2⟩
set_option maxRecDepth 100000 in
set_option maxHeartbeats 4000000 in
theorem c_statusOfEnd (l : Launch) {T : gSh} {I : gI} {J : gJ} {R : gR} {ca : Nat → Nat} {a : gI} {n : gJ} (hK : KA T I J R ca a n) (g d : Int32) : Con l yX11_statusOfEnd wsX11_statusOfEnd ({ frames := 1, cells := 0, slots := 0, locals := 20 }) [.ref (ca 0), .int g, .int d] T I J R (gP (some (.int (nI (stEn a g d)))) T I J R) := by
  refine Con.mk (cc := cX11_statusOfEnd) (maxL := 3) (ret := (some .int)) (by decide) rfl (Nat.le_of_ble_eq_true rfl) ?_
  intro E hE C Z hnm
  subst hE
  change WP E 3 0 0 T I J R 0 [(0, .ref (ca 0)), (1, .int g), (2, .int d)] []
  obtain ⟨gg, g60, e33, e22, ga, ra, k4, -⟩ := hK.2.2.2.2.2.2.1
  have q22 : (a 0 22).toInt = gg := by rw [e22, nI_toInt (by omega)]
  refine wp_iload_n C 1 dX11_statusOfEnd_0 rfl rfl ?_
  refine wp_if_lt C 15 dX11_statusOfEnd_1 (by decide) (fun c1 => ?_) (fun c1 => ?_)
  · have c1 : g.toInt < 0 := by have hcv := p_lt c1; exact hcv
    refine wp_iconst C 1 dX11_statusOfEnd_15 (by decide) ?_
    exact wp_iret C Z dX11_statusOfEnd_16 (by decide) (by decide) (by rw [show stEn a g d = 1 from by simp only [stEn]; (repeat' split) <;> omega]; exact gP_rf)
  · have c1 : ¬ g.toInt < 0 := by have hcv := n_lt c1; exact hcv
    refine wp_iload_n C 1 dX11_statusOfEnd_4 rfl rfl ?_
    refine wp_aload_n C 0 dX11_statusOfEnd_5 rfl rfl ?_
    refine wp_getR C dX11_statusOfEnd_6 fX11_statusOfEnd_26 (hK.1.ob 0 (by decide) rfl) (hK.1.rf 0 2 3 (by decide)) ?_
    refine wp_getI C dX11_statusOfEnd_9 fX11_statusOfEnd_196 (hK.1.ob 3 (by decide) rfl) ?_
    refine wp_eqi (e33.trans e22.symm) ?_
    refine wp_icmp_lt C 17 dX11_statusOfEnd_12 (by decide) (fun c12 => ?_) (fun c12 => ?_)
    · have c12 : g.toInt < (a 0 22).toInt := by have hcv := p_lt c12; exact hcv
      refine wp_iload_n C 2 dX11_statusOfEnd_17 rfl rfl ?_
      refine wp_cSi C (As := [.int d]) (rest := []) dX11_statusOfEnd_18 kX11_statusOfEnd_215 (c_isDay _ d) rfl (Nat.le_of_ble_eq_true rfl) (by decide) (by decide) ?_
      refine wp_if_ne C 26 dX11_statusOfEnd_21 (by decide) (fun c21 => ?_) (fun c21 => ?_)
      · have c21 : (0 ≤ d.toInt ∧ d.toInt ≤ 9999) := Classical.byContradiction (fun z => c21 (bI_f z))
        have pe : ((a 35 g.toInt.toNat).toInt = -1 ∧ (I (ga g.toInt.toNat) 3).toInt = 0) ∨ (0 ≤ (a 35 g.toInt.toNat).toInt ∧ (I (ga g.toInt.toNat) 3).toInt = 1) := by
          rcases (k4 g.toInt.toNat (by omega)).2.2.2.2.2.2.2.2.1 with z | z
          · exact Or.inl ⟨z.1, by rw [z.2]; rfl⟩
          · exact Or.inr ⟨z.1.1, by rw [z.2]; rfl⟩
        refine wp_aload_n C 0 dX11_statusOfEnd_26 rfl rfl ?_
        refine wp_getR C dX11_statusOfEnd_27 fX11_statusOfEnd_26 (hK.1.ob 0 (by decide) rfl) (hK.1.rf 0 2 3 (by decide)) ?_
        refine wp_getR C dX11_statusOfEnd_30 fX11_statusOfEnd_206 (hK.1.ob 3 (by decide) rfl) (hK.1.rf 3 4 27 (by decide)) ?_
        refine wp_iload_n C 1 dX11_statusOfEnd_33 rfl rfl ?_
        refine wp_aald C RX3 dX11_statusOfEnd_34 (hK.1.ar 27 (by decide) rfl) (by decide) rfl (j := g.toInt.toNat) (nI_nat (by omega)) (by omega) (by decide) (k4 g.toInt.toNat (by omega)).1 ?_
        refine wp_getI C dX11_statusOfEnd_35 fX11_statusOfEnd_218 (k4 g.toInt.toNat (by omega)).2.1 ?_
        refine wp_if_eq C 46 dX11_statusOfEnd_38 (by decide) (fun c38 => ?_) (fun c38 => ?_)
        · have c38 : (I (ga g.toInt.toNat) 3).toInt = 0 := by have hcv := p_eq c38; exact hcv
          refine wp_iconst C 0 dX11_statusOfEnd_46 (by decide) ?_
          exact wp_iret C Z dX11_statusOfEnd_47 (by decide) (by decide) (by rw [show stEn a g d = 0 from by simp only [stEn]; (repeat' split) <;> omega]; exact gP_rf)
        · have c38 : ¬ (I (ga g.toInt.toNat) 3).toInt = 0 := by have hcv := n_eq c38; exact hcv
          refine wp_bipush C 8 dX11_statusOfEnd_41 (by decide) ?_
          refine wp_goto C 47 dX11_statusOfEnd_43 (by decide) ?_
          exact wp_iret C Z dX11_statusOfEnd_47 (by decide) (by decide) (by rw [show stEn a g d = 8 from by simp only [stEn]; (repeat' split) <;> omega]; exact gP_rf)
      · have c21 : ¬ (0 ≤ d.toInt ∧ d.toInt ≤ 9999) := fun z => absurd ((bI_t z).symm.trans c21) (by decide)
        refine wp_iconst C 2 dX11_statusOfEnd_24 (by decide) ?_
        exact wp_iret C Z dX11_statusOfEnd_25 (by decide) (by decide) (by rw [show stEn a g d = 2 from by simp only [stEn]; (repeat' split) <;> omega]; exact gP_rf)
    · have c12 : ¬ g.toInt < (a 0 22).toInt := by have hcv := n_lt c12; exact hcv
      refine wp_iconst C 1 dX11_statusOfEnd_15 (by decide) ?_
      exact wp_iret C Z dX11_statusOfEnd_16 (by decide) (by decide) (by rw [show stEn a g d = 1 from by simp only [stEn]; (repeat' split) <;> omega]; exact gP_rf)
set_option maxRecDepth 100000 in
set_option maxHeartbeats 4000000 in
theorem c_end (l : Launch) {T : gSh} {I : gI} {J : gJ} {R : gR} {ca : Nat → Nat} {a : gI} {n : gJ} (hK : KA T I J R ca a n) (g d : Int32) : Con l yX11_end wsX11_end ({ frames := 2, cells := 0, slots := 0, locals := 42 }) [.ref (ca 0), .int g, .int d] T I J R (PQ T I J R ca (.int (bI (stEn a g d = 0))) (aEn a g d) n) := by
  refine Con.mk (cc := cX11_end) (maxL := 3) (ret := (some .boolean)) (by decide) rfl (Nat.le_of_ble_eq_true rfl) ?_
  intro E hE C Z hnm
  subst hE
  change WP E 3 0 0 T I J R 0 [(0, .ref (ca 0)), (1, .int g), (2, .int d)] []
  obtain ⟨gg, g60, e33, e22, ga, ra, k4, -⟩ := hK.2.2.2.2.2.2.1
  have q22 : (a 0 22).toInt = gg := by rw [e22, nI_toInt (by omega)]
  refine wp_aload_n C 0 dX11_end_0 rfl rfl ?_
  refine wp_aload_n C 0 dX11_end_1 rfl rfl ?_
  refine wp_iload_n C 1 dX11_end_2 rfl rfl ?_
  refine wp_iload_n C 2 dX11_end_3 rfl rfl ?_
  refine wp_cVi C (As := [.int g, .int d]) (rest := [.ref (ca 0)]) dX11_end_4 kX11_end_203 (hK.1.ob 0 (by decide) rfl) (c_statusOfEnd _ hK g d) rfl (Nat.le_of_ble_eq_true rfl) (by decide) (by decide) ?_
  refine wp_putI C dX11_end_7 pX11_end_41 (fun h => nomatch h) (hK.1.ob 0 (by decide) rfl) ?_
  refine wp_aload_n C 0 dX11_end_10 rfl rfl ?_
  refine wp_getI C dX11_end_11 fX11_end_41 (hK.1.ob 0 (by decide) rfl) ?_
  refine wp_eqi (u2_s _ _ _ _) ?_
  refine wp_if_eq C 19 dX11_end_14 (by decide) (fun c14 => ?_) (fun c14 => ?_)
  · have c14 : stEn a g d = 0 := by have hcv := p_eq c14; rw [nI_toInt (show stEn a g d < 2 ^ 31 by have := stEn_le a g d; omega)] at hcv; have hz0 : ((0 : Int32)).toInt = 0 := rfl; omega
    have hsu := stEn_ok c14
    refine wp_aload_n C 0 dX11_end_19 rfl rfl ?_
    refine wp_getR C dX11_end_20 fX11_end_26 (hK.1.ob 0 (by decide) rfl) (hK.1.rf 0 2 3 (by decide)) ?_
    refine wp_getR C dX11_end_23 fX11_end_206 (hK.1.ob 3 (by decide) rfl) (hK.1.rf 3 4 27 (by decide)) ?_
    refine wp_iload_n C 1 dX11_end_26 rfl rfl ?_
    refine wp_aald C RX3 dX11_end_27 (hK.1.ar 27 (by decide) rfl) (by decide) rfl (j := g.toInt.toNat) (nI_nat (by omega)) (by omega) (by decide) (k4 g.toInt.toNat (by omega)).1 ?_
    refine wp_iload_n C 2 dX11_end_28 rfl rfl ?_
    refine wp_cVv C (As := [.int d]) (rest := []) dX11_end_29 kX11_end_210 (k4 g.toInt.toNat (by omega)).2.1 (c_endOn _ (k4 g.toInt.toNat (by omega)).2.1 d) rfl (Nat.le_of_ble_eq_true rfl) (by decide) (by decide) ?_
    refine wp_iconst C 1 dX11_end_32 (by decide) ?_
    have e0 : nI (stEn a g d) = 0 := by rw [c14]; rfl
    have hob := (k4 g.toInt.toNat (by omega)).2.1
    have hsu2 := hsu.2.2
    have hk := (hK.st 0).endG (i := g.toInt.toNat) (d := d) (by rw [u2_k _ _ _ _ (by decide)]; omega) (k4 g.toInt.toNat (by omega)).1 (by rw [u2_a _ _ _ _ (by decide)]; omega) hsu.2.1
    exact wp_zret C Z dX11_end_33 (by decide) (by decide) (by decide) ⟨by rw [bI_t c14], (((FrC.rf T I J R ca).pI (by decide) 5 _).dI hob (by unfold dyn; omega) 3 _).dI hob (by unfold dyn; omega) 4 _, by unfold aEn; rw [if_pos c14, e0]; exact hk⟩
  · have c14 : ¬ stEn a g d = 0 := fun z => c14 (by rw [z]; rfl)
    refine wp_iconst C 0 dX11_end_17 (by decide) ?_
    exact wp_zret C Z dX11_end_18 (by decide) (by decide) (by decide) ⟨by rw [bI_f c14], (FrC.rf T I J R ca).pI (by decide) 5 _, by unfold aEn; rw [if_neg c14]; exact hK.st _⟩
set_option maxRecDepth 100000 in
set_option maxHeartbeats 4000000 in
theorem c_statusOfCell (l : Launch) {T : gSh} {I : gI} {J : gJ} {R : gR} {ca : Nat → Nat} {a : gI} {n : gJ} (hK : KA T I J R ca a n) (b p t f d : Int32) : Con l yX11_statusOfCell wsX11_statusOfCell ({ frames := 1, cells := 0, slots := 0, locals := 21 }) [.ref (ca 0), .int b, .int p, .int t, .int f, .int d] T I J R (gP (some (.int (nI (stCe a b p t f d)))) T I J R) := by
  refine Con.mk (cc := cX11_statusOfCell) (maxL := 7) (ret := (some .int)) (by decide) rfl (Nat.le_of_ble_eq_true rfl) ?_
  intro E hE C Z hnm
  subst hE
  change WP E 7 0 0 T I J R 0 [(0, .ref (ca 0)), (1, .int b), (2, .int p), (3, .int t), (4, .int f), (5, .int d)] []
  have kn := hK.2.2.2.2.1.ar
  have kb := hK.2.2.2.2.2.1.ar
  refine wp_aload_n C 0 dX11_statusOfCell_0 rfl rfl ?_
  refine wp_iload_n C 1 dX11_statusOfCell_1 rfl rfl ?_
  refine wp_cVi C (As := [.int b]) (rest := []) dX11_statusOfCell_2 kX11_statusOfCell_171 (hK.1.ob 0 (by decide) rfl) (c_isBook _ hK.1 b) rfl (Nat.le_of_ble_eq_true rfl) (by decide) (by decide) ?_
  refine wp_if_ne C 10 dX11_statusOfCell_5 (by decide) (fun c5 => ?_) (fun c5 => ?_)
  · have c5 : (0 ≤ b.toInt ∧ b.toInt < (I (ca 3) 0).toInt) := Classical.byContradiction (fun z => c5 (bI_f z))
    refine wp_iload_n C 2 dX11_statusOfCell_10 rfl rfl ?_
    refine wp_if_lt C 44 dX11_statusOfCell_11 (by decide) (fun c11 => ?_) (fun c11 => ?_)
    · have c11 : p.toInt < 0 := by have hcv := p_lt c11; exact hcv
      refine wp_iconst C 0 dX11_statusOfCell_44 (by decide) ?_
      refine wp_istore C [(6, .int 0), (0, .ref (ca 0)), (1, .int b), (2, .int p), (3, .int t), (4, .int f), (5, .int d)] dX11_statusOfCell_45 (by decide) rfl ?_
      refine wp_iload C 0 dX11_statusOfCell_47 rfl ?_
      refine wp_if_eq C 64 dX11_statusOfCell_49 (by decide) (fun c49 => ?_) (fun c49 => ?_)
      · refine wp_iconst C 2 dX11_statusOfCell_64 (by decide) ?_
        exact wp_iret C Z dX11_statusOfCell_65 (by decide) (by decide) (by rw [show stCe a b p t f d = 2 from by simp only [stCe]; (repeat' split) <;> omega]; exact gP_rf)
      · exact absurd (by decide) c49
    · have c11 : ¬ p.toInt < 0 := by have hcv := n_lt c11; exact hcv
      refine wp_iload_n C 2 dX11_statusOfCell_14 rfl rfl ?_
      refine wp_bipush C 7 dX11_statusOfCell_15 (by decide) ?_
      refine wp_icmp_gt C 44 dX11_statusOfCell_17 (by decide) (fun c17 => ?_) (fun c17 => ?_)
      · have c17 : 7 < p.toInt := by have hcv := p_lt c17; exact hcv
        refine wp_iconst C 0 dX11_statusOfCell_44 (by decide) ?_
        refine wp_istore C [(6, .int 0), (0, .ref (ca 0)), (1, .int b), (2, .int p), (3, .int t), (4, .int f), (5, .int d)] dX11_statusOfCell_45 (by decide) rfl ?_
        refine wp_iload C 0 dX11_statusOfCell_47 rfl ?_
        refine wp_if_eq C 64 dX11_statusOfCell_49 (by decide) (fun c49 => ?_) (fun c49 => ?_)
        · refine wp_iconst C 2 dX11_statusOfCell_64 (by decide) ?_
          exact wp_iret C Z dX11_statusOfCell_65 (by decide) (by decide) (by rw [show stCe a b p t f d = 2 from by simp only [stCe]; (repeat' split) <;> omega]; exact gP_rf)
        · exact absurd (by decide) c49
      · have c17 : ¬ 7 < p.toInt := by have hcv := n_lt c17; exact hcv
        refine wp_iload_n C 3 dX11_statusOfCell_20 rfl rfl ?_
        refine wp_if_lt C 44 dX11_statusOfCell_21 (by decide) (fun c21 => ?_) (fun c21 => ?_)
        · have c21 : t.toInt < 0 := by have hcv := p_lt c21; exact hcv
          refine wp_iconst C 0 dX11_statusOfCell_44 (by decide) ?_
          refine wp_istore C [(6, .int 0), (0, .ref (ca 0)), (1, .int b), (2, .int p), (3, .int t), (4, .int f), (5, .int d)] dX11_statusOfCell_45 (by decide) rfl ?_
          refine wp_iload C 0 dX11_statusOfCell_47 rfl ?_
          refine wp_if_eq C 64 dX11_statusOfCell_49 (by decide) (fun c49 => ?_) (fun c49 => ?_)
          · refine wp_iconst C 2 dX11_statusOfCell_64 (by decide) ?_
            exact wp_iret C Z dX11_statusOfCell_65 (by decide) (by decide) (by rw [show stCe a b p t f d = 2 from by simp only [stCe]; (repeat' split) <;> omega]; exact gP_rf)
          · exact absurd (by decide) c49
        · have c21 : ¬ t.toInt < 0 := by have hcv := n_lt c21; exact hcv
          refine wp_iload_n C 3 dX11_statusOfCell_24 rfl rfl ?_
          refine wp_iconst C 3 dX11_statusOfCell_25 (by decide) ?_
          refine wp_icmp_gt C 44 dX11_statusOfCell_26 (by decide) (fun c26 => ?_) (fun c26 => ?_)
          · have c26 : 3 < t.toInt := by have hcv := p_lt c26; exact hcv
            refine wp_iconst C 0 dX11_statusOfCell_44 (by decide) ?_
            refine wp_istore C [(6, .int 0), (0, .ref (ca 0)), (1, .int b), (2, .int p), (3, .int t), (4, .int f), (5, .int d)] dX11_statusOfCell_45 (by decide) rfl ?_
            refine wp_iload C 0 dX11_statusOfCell_47 rfl ?_
            refine wp_if_eq C 64 dX11_statusOfCell_49 (by decide) (fun c49 => ?_) (fun c49 => ?_)
            · refine wp_iconst C 2 dX11_statusOfCell_64 (by decide) ?_
              exact wp_iret C Z dX11_statusOfCell_65 (by decide) (by decide) (by rw [show stCe a b p t f d = 2 from by simp only [stCe]; (repeat' split) <;> omega]; exact gP_rf)
            · exact absurd (by decide) c49
          · have c26 : ¬ 3 < t.toInt := by have hcv := n_lt c26; exact hcv
            refine wp_iload C 4 dX11_statusOfCell_29 rfl ?_
            refine wp_if_lt C 44 dX11_statusOfCell_31 (by decide) (fun c31 => ?_) (fun c31 => ?_)
            · have c31 : f.toInt < 0 := by have hcv := p_lt c31; exact hcv
              refine wp_iconst C 0 dX11_statusOfCell_44 (by decide) ?_
              refine wp_istore C [(6, .int 0), (0, .ref (ca 0)), (1, .int b), (2, .int p), (3, .int t), (4, .int f), (5, .int d)] dX11_statusOfCell_45 (by decide) rfl ?_
              refine wp_iload C 0 dX11_statusOfCell_47 rfl ?_
              refine wp_if_eq C 64 dX11_statusOfCell_49 (by decide) (fun c49 => ?_) (fun c49 => ?_)
              · refine wp_iconst C 2 dX11_statusOfCell_64 (by decide) ?_
                exact wp_iret C Z dX11_statusOfCell_65 (by decide) (by decide) (by rw [show stCe a b p t f d = 2 from by simp only [stCe]; (repeat' split) <;> omega]; exact gP_rf)
              · exact absurd (by decide) c49
            · have c31 : ¬ f.toInt < 0 := by have hcv := n_lt c31; exact hcv
              refine wp_iload C 4 dX11_statusOfCell_34 rfl ?_
              refine wp_iconst C 3 dX11_statusOfCell_36 (by decide) ?_
              refine wp_icmp_gt C 44 dX11_statusOfCell_37 (by decide) (fun c37 => ?_) (fun c37 => ?_)
              · have c37 : 3 < f.toInt := by have hcv := p_lt c37; exact hcv
                refine wp_iconst C 0 dX11_statusOfCell_44 (by decide) ?_
                refine wp_istore C [(6, .int 0), (0, .ref (ca 0)), (1, .int b), (2, .int p), (3, .int t), (4, .int f), (5, .int d)] dX11_statusOfCell_45 (by decide) rfl ?_
                refine wp_iload C 0 dX11_statusOfCell_47 rfl ?_
                refine wp_if_eq C 64 dX11_statusOfCell_49 (by decide) (fun c49 => ?_) (fun c49 => ?_)
                · refine wp_iconst C 2 dX11_statusOfCell_64 (by decide) ?_
                  exact wp_iret C Z dX11_statusOfCell_65 (by decide) (by decide) (by rw [show stCe a b p t f d = 2 from by simp only [stCe]; (repeat' split) <;> omega]; exact gP_rf)
                · exact absurd (by decide) c49
              · have c37 : ¬ 3 < f.toInt := by have hcv := n_lt c37; exact hcv
                refine wp_iconst C 1 dX11_statusOfCell_40 (by decide) ?_
                refine wp_goto C 45 dX11_statusOfCell_41 (by decide) ?_
                refine wp_istore C [(6, .int 1), (0, .ref (ca 0)), (1, .int b), (2, .int p), (3, .int t), (4, .int f), (5, .int d)] dX11_statusOfCell_45 (by decide) rfl ?_
                refine wp_iload C 0 dX11_statusOfCell_47 rfl ?_
                refine wp_if_eq C 64 dX11_statusOfCell_49 (by decide) (fun c49 => ?_) (fun c49 => ?_)
                · exact absurd c49 (by decide)
                · refine wp_iload C 6 dX11_statusOfCell_52 rfl ?_
                  refine wp_cSi C (As := [.int d]) (rest := []) dX11_statusOfCell_54 kX11_statusOfCell_215 (c_isDay _ d) rfl (Nat.le_of_ble_eq_true rfl) (by decide) (by decide) ?_
                  refine wp_if_eq C 64 dX11_statusOfCell_57 (by decide) (fun c57 => ?_) (fun c57 => ?_)
                  · have c57 : ¬ (0 ≤ d.toInt ∧ d.toInt ≤ 9999) := fun z => absurd ((bI_t z).symm.trans c57) (by decide)
                    refine wp_iconst C 2 dX11_statusOfCell_64 (by decide) ?_
                    exact wp_iret C Z dX11_statusOfCell_65 (by decide) (by decide) (by rw [show stCe a b p t f d = 2 from by simp only [stCe]; (repeat' split) <;> omega]; exact gP_rf)
                  · have c57 : (0 ≤ d.toInt ∧ d.toInt ≤ 9999) := Classical.byContradiction (fun z => c57 (bI_f z))
                    refine wp_iconst C 0 dX11_statusOfCell_60 (by decide) ?_
                    refine wp_goto C 65 dX11_statusOfCell_61 (by decide) ?_
                    exact wp_iret C Z dX11_statusOfCell_65 (by decide) (by decide) (by rw [show stCe a b p t f d = 0 from by simp only [stCe]; (repeat' split) <;> omega]; exact gP_rf)
  · have c5 : ¬ (0 ≤ b.toInt ∧ b.toInt < (I (ca 3) 0).toInt) := fun z => absurd ((bI_t z).symm.trans c5) (by decide)
    refine wp_iconst C 1 dX11_statusOfCell_8 (by decide) ?_
    exact wp_iret C Z dX11_statusOfCell_9 (by decide) (by decide) (by rw [show stCe a b p t f d = 1 from by simp only [stCe]; (repeat' split) <;> omega]; exact gP_rf)
set_option maxRecDepth 100000 in
set_option maxHeartbeats 4000000 in
theorem c_has (l : Launch) {T : gSh} {I : gI} {J : gJ} {R : gR} {ca : Nat → Nat} {a : gI} {n : gJ} (hK : KA T I J R ca a n) (b p t f d : Int32) : Con l yX11_has wsX11_has ({ frames := 4, cells := 1, slots := 5, locals := 88 }) [.ref (ca 0), .int b, .int p, .int t, .int f, .int d] T I J R (PQ T I J R ca (.int (vHa a b p t f d)) (u2 a 0 0 (nI (stHa a b p t f d))) n) := by
  refine Con.mk (cc := cX11_has) (maxL := 7) (ret := (some .int)) (by decide) rfl (Nat.le_of_ble_eq_true rfl) ?_
  intro E hE C Z hnm
  subst hE
  change WP E 7 0 0 T I J R 0 [(0, .ref (ca 0)), (1, .int b), (2, .int p), (3, .int t), (4, .int f), (5, .int d)] []
  refine wp_aload_n C 0 dX11_has_0 rfl rfl ?_
  refine wp_aload_n C 0 dX11_has_1 rfl rfl ?_
  refine wp_iload_n C 1 dX11_has_2 rfl rfl ?_
  refine wp_iload_n C 2 dX11_has_3 rfl rfl ?_
  refine wp_iload_n C 3 dX11_has_4 rfl rfl ?_
  refine wp_iload C 4 dX11_has_5 rfl ?_
  refine wp_iload C 5 dX11_has_7 rfl ?_
  refine wp_cVi C (As := [.int b, .int p, .int t, .int f, .int d]) (rest := [.ref (ca 0)]) dX11_has_9 kX11_has_222 (hK.1.ob 0 (by decide) rfl) (c_statusOfCell _ hK b p t f d) rfl (Nat.le_of_ble_eq_true rfl) (by decide) (by decide) ?_
  refine wp_putI C dX11_has_12 pX11_has_41 (fun h => nomatch h) (hK.1.ob 0 (by decide) rfl) ?_
  refine wp_aload_n C 0 dX11_has_15 rfl rfl ?_
  refine wp_getI C dX11_has_16 fX11_has_41 (hK.1.ob 0 (by decide) rfl) ?_
  refine wp_eqi (u2_s _ _ _ _) ?_
  refine wp_if_eq C 24 dX11_has_19 (by decide) (fun c19 => ?_) (fun c19 => ?_)
  · have c19 : stCe a b p t f d = 0 := by have hcv := p_eq c19; rw [nI_toInt (show stCe a b p t f d < 2 ^ 31 by have := stCe_le a b p t f d; omega)] at hcv; have hz0 : ((0 : Int32)).toInt = 0 := rfl; omega
    have hsu := stCe_ok c19
    refine wp_eI (show _ = u2 I (ca 0) 5 0 by rw [c19]; rfl) ?_
    refine wp_aload_n C 0 dX11_has_24 rfl rfl ?_
    refine wp_getR C dX11_has_25 fX11_has_26 (hK.1.ob 0 (by decide) rfl) (hK.1.rf 0 2 3 (by decide)) ?_
    refine wp_iload_n C 1 dX11_has_28 rfl rfl ?_
    refine wp_new C dX11_has_29 nX11_has_180 (by decide) (by decide) ?_
    intro q hq
    refine wp_dup C dX11_has_32 rfl ?_
    refine wp_iconst C 1 dX11_has_33 (by decide) ?_
    refine wp_iload_n C 2 dX11_has_34 rfl rfl ?_
    refine wp_ishl C dX11_has_35 ?_
    refine wp_iconst C 1 dX11_has_36 (by decide) ?_
    refine wp_iload_n C 3 dX11_has_37 rfl rfl ?_
    refine wp_ishl C dX11_has_38 ?_
    refine wp_iconst C 1 dX11_has_39 (by decide) ?_
    refine wp_iload C 4 dX11_has_40 rfl ?_
    refine wp_ishl C dX11_has_42 ?_
    refine wp_iload C 5 dX11_has_43 rfl ?_
    refine wp_iload C 5 dX11_has_45 rfl ?_
    refine wp_cIv C (As := [.int (1 <<< (p &&& 31)), .int (1 <<< (t &&& 31)), .int (1 <<< (f &&& 31)), .int d, .int d]) (rest := [.ref q, .int b, .ref (ca 3)]) dX11_has_47 kX11_has_182 (c_Rights _ OB.new (1 <<< (p &&& 31)) (1 <<< (t &&& 31)) (1 <<< (f &&& 31)) d d) rfl (Nat.le_of_ble_eq_true rfl) (by decide) (by decide) ?_
    refine wp_gen (fun T1 I1 J1 R1 => KA T1 I1 J1 R1 ca (u2 a 0 0 0) n ∧ RI T1 I1 q (rv (1 <<< (p &&& 31)) (1 <<< (t &&& 31)) (1 <<< (f &&& 31)) d d) ∧ ExL T T1 (u2 I (ca 0) 5 0) I1 J J1 R R1 ca []) (newR (hK.st 0) hq (1 <<< (p &&& 31)) (1 <<< (t &&& 31)) (1 <<< (f &&& 31)) d d) ?_
    intro T1 I1 J1 R1 hp
    refine wp_cVi C (As := [.int b, .ref q]) (rest := []) dX11_has_50 kX11_has_225 (hp.1.1.ob 3 (by decide) rfl) (c_ownerOf _ hp.1 (v := rc p t f d) hp.2.1 (rc_b hsu.2.1 hsu.2.2.1 hsu.2.2.2.1) b) rfl (Nat.le_of_ble_eq_true rfl) (by decide) (by decide) ?_
    refine wp_eqi (clN_st a 0 b _).2 ?_
    refine wp_istore C [(6, .int (ownV a b (rc p t f d))), (0, .ref (ca 0)), (1, .int b), (2, .int p), (3, .int t), (4, .int f), (5, .int d)] dX11_has_53 (by decide) rfl ?_
    refine wp_aload_n C 1 dX11_has_55 rfl rfl ?_
    refine wp_iload C 0 dX11_has_56 rfl ?_
    refine wp_iconst C (-1) dX11_has_58 (by decide) ?_
    refine wp_icmp_ne C 67 dX11_has_59 (by decide) (fun c59 => ?_) (fun c59 => ?_)
    · have c59 : ¬ clN a b (rc p t f d) = 0 := fun z => c59 ((ownV_s hK.2.2.2.2.2.2.1 b _).mpr z)
      refine wp_iconst C 0 dX11_has_67 (by decide) ?_
      refine wp_putI C dX11_has_68 pX11_has_41 (fun h => nomatch h) (hp.1.1.ob 0 (by decide) rfl) ?_
      refine wp_iload C 0 dX11_has_71 rfl ?_
      have hst : stHa a b p t f d = 0 := by unfold stHa; rw [if_pos c19, if_neg c59]
      have hk := hp.1.st 0
      rw [u2_u2] at hk
      exact wp_iret C Z dX11_has_73 (by decide) (by decide) ⟨by unfold vHa; rw [if_pos hst], (((FrC.rf T I J R ca).pI (i := 0) (by decide) 5 0).tr hp.2.2.frc).pI (by decide) 5 _, by rw [hst]; exact hk⟩
    · have c59 : clN a b (rc p t f d) = 0 := (ownV_s hK.2.2.2.2.2.2.1 b _).mp c59
      refine wp_bipush C 9 dX11_has_62 (by decide) ?_
      refine wp_goto C 68 dX11_has_64 (by decide) ?_
      refine wp_putI C dX11_has_68 pX11_has_41 (fun h => nomatch h) (hp.1.1.ob 0 (by decide) rfl) ?_
      refine wp_iload C 0 dX11_has_71 rfl ?_
      have hst : stHa a b p t f d = 9 := by unfold stHa; rw [if_pos c19, if_pos c59]
      have hk := hp.1.st 9
      rw [u2_u2] at hk
      exact wp_iret C Z dX11_has_73 (by decide) (by decide) ⟨by unfold vHa; rw [if_neg (by rw [hst]; decide), (ownV_s hK.2.2.2.2.2.2.1 b _).mpr c59], (((FrC.rf T I J R ca).pI (i := 0) (by decide) 5 0).tr hp.2.2.frc).pI (by decide) 5 _, by rw [hst]; exact hk⟩
  · have c19 : ¬ stCe a b p t f d = 0 := fun z => c19 (by rw [z]; rfl)
    refine wp_iconst C (-1) dX11_has_22 (by decide) ?_
    have hst : stHa a b p t f d = stCe a b p t f d := by unfold stHa; rw [if_neg c19]
    exact wp_iret C Z dX11_has_23 (by decide) (by decide) ⟨by unfold vHa; rw [if_neg (by rw [hst]; exact c19)], (FrC.rf T I J R ca).pI (by decide) 5 _, by rw [hst]; exact hK.st _⟩
