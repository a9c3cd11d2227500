/-! ===== offers of the class ===== -/
def fN_ (a : gI) : Nat := (a 0 24).toInt.toNat
def mkN (a : gI) (mi : Int32) (i : Nat) : Int32 := if (a 48 i).toInt = 0 ∧ (a 47 i).toInt < mi.toInt then 3 else a 48 i
def stOf (a : gI) (b e : Int32) (v : Nat → Int32) (mi en : Int32) : Nat := if stMa a b e v mi = 0 then (if (0 ≤ en.toInt ∧ en.toInt ≤ 100000) ∧ mi.toInt < en.toInt then (if mi.toInt < (a 0 25).toInt then 3 else if (a 0 24).toInt < 60 then (if mbN a b e v mi = 1 then 0 else 12) else 7) else 2) else stMa a b e v mi
theorem stOf_le (a : gI) (b e : Int32) (v : Nat → Int32) (mi en : Int32) : stOf a b e v mi en ≤ 12 := by have := stMa_le a b e v mi; simp only [stOf]; (repeat' split) <;> omega
theorem stOf_ok {a : gI} {b e : Int32} {v : Nat → Int32} {mi en : Int32} (z : stOf a b e v mi en = 0) : stMa a b e v mi = 0 ∧ (a 0 24).toInt < 60 := by
  simp only [stOf] at z; (repeat' split at z) <;> omega
/-- an offer more -/
def aF (a : gI) (b e : Int32) (v : Nat → Int32) (mi en : Int32) : gI := u2 (u2 (u2 (u2 (u2 (u2 (u2 (u2 (u2 (u2 (u2 a 40 (fN_ a) b) 41 (fN_ a) e) 42 (fN_ a) (v 0)) 43 (fN_ a) (v 1)) 44 (fN_ a) (v 2)) 45 (fN_ a) (v 3)) 46 (fN_ a) (v 4)) 47 (fN_ a) en) 48 (fN_ a) 0) 0 24 (a 0 24 + 1)) 0 25 mi
def aOf (a : gI) (b e : Int32) (v : Nat → Int32) (mi en : Int32) : gI := if stOf a b e v mi en = 0 then aF (u2 a 0 0 0) b e v mi en else u2 a 0 0 (nI (stOf a b e v mi en))
def stAs (a : gI) (o mi : Int32) : Nat := if 0 ≤ o.toInt ∧ o.toInt < (a 0 24).toInt then (if 0 ≤ mi.toInt ∧ mi.toInt ≤ 100000 then (if mi.toInt < (a 0 25).toInt then 3 else 0) else 2) else 1
theorem stAs_le (a : gI) (o mi : Int32) : stAs a o mi ≤ 3 := by simp only [stAs]; (repeat' split) <;> omega
theorem stAs_ok {a : gI} {o mi : Int32} (z : stAs a o mi = 0) : (0 ≤ o.toInt ∧ o.toInt < (a 0 24).toInt) ∧ (0 ≤ mi.toInt ∧ mi.toInt ≤ 100000) := by
  simp only [stAs] at z; (repeat' split at z) <;> omega
def vSt (a : gI) (o mi : Int32) : Int32 := if stAs a o mi = 0 then mkN a mi o.toInt.toNat else -1
def stTa (a : gI) (o mi : Int32) : Nat := if stAs a o mi = 0 then (if (mkN a mi o.toInt.toNat).toInt = 0 then (if (a 0 22).toInt < 60 then (if mbN a (a 40 o.toInt.toNat) (a 41 o.toInt.toNat) (ov a o.toInt.toNat) mi = 1 then 0 else 12) else 7) else 13) else stAs a o mi
theorem stTa_le (a : gI) (o mi : Int32) : stTa a o mi ≤ 13 := by have := stAs_le a o mi; simp only [stTa]; (repeat' split) <;> omega
theorem stTa_ok {a : gI} {o mi : Int32} (z : stTa a o mi = 0) : stAs a o mi = 0 ∧ (a 0 22).toInt < 60 ∧ mbN a (a 40 o.toInt.toNat) (a 41 o.toInt.toNat) (ov a o.toInt.toNat) mi = 1 := by
  simp only [stTa] at z; (repeat' split at z) <;> omega
/-- an offer that clashes becomes void -/
def vdS (b mi : Int32) (a : gI) (k : Nat) : gI := if (a 40 k).toInt = b.toInt then (if (mkN a mi k).toInt = 0 then (if clN a b (ov a k) = 1 then u2 a 48 k 2 else a) else a) else a
def vdF (b mi : Int32) (a : gI) : Nat → gI
  | 0 => a
  | k + 1 => vdS b mi (vdF b mi a k) k
theorem vdF_r (b mi : Int32) (a : gI) (k : Nat) {r : Nat} (hr : r ≠ 48) : vdF b mi a k r = a r := by
  induction k with
  | zero => rfl
  | succ k ih =>
    show vdS b mi (vdF b mi a k) k r = a r
    unfold vdS
    rw [← ih]
    (repeat' split) <;> first | rfl | exact u2_rown _ _ _ _ hr
def aTk (a : gI) (o mi : Int32) : gI := u2 (vdF (a 40 o.toInt.toNat) mi (u2 (aGr (u2 a 0 0 0) (a 40 o.toInt.toNat) (a 41 o.toInt.toNat) (ov a o.toInt.toNat)) 48 o.toInt.toNat 1) (fN_ a)) 0 25 mi
def aTa (a : gI) (o mi : Int32) : gI := if stTa a o mi = 0 then aTk a o mi else u2 a 0 0 (nI (stTa a o mi))
theorem KF.ar {T : gSh} {I : gI} {R : gR} {ca : Nat → Nat} {a : gI} (k : KF T I R ca a) : I (ca 4) 1 = a 0 24 ∧ 0 ≤ (a 0 24).toInt ∧ (a 0 24).toInt ≤ 60 ∧ I (ca 4) 0 = a 0 25 := by
  obtain ⟨c, k1, k2, k3, k4, -⟩ := k
  exact ⟨k2.trans k3.symm, by rw [k3, nI_toInt (by omega)]; omega, by rw [k3, nI_toInt (by omega)]; omega, k4⟩
theorem cRf30 : ∀ x ∈ cRf, x.1 < 30 := by decide
theorem CO.putd {T : gSh} {R : gR} {ca : Nat → Nat} (h : CO T R ca) {y c k : Nat} {v : Option Nat} (hy : OB T y c) (hc : dyn c) : CO T (u2 R y k v) ca :=
  h.put (fun x hx z => absurd z.symm (h.nd hy hc (cRf30 x hx)))
section KAf
variable {T T2 : gSh} {I I2 : gI} {J J2 : gJ} {R R2 : gR} {ca : Nat → Nat} {a : gI} {n : gJ}
theorem KA.addF (k : KA T I J R ca a n) {r q x y : Nat} {v : Nat → Int32} {mi en : Int32} (hr : RI T I r v) (hv : vR v) (hx12 : x < 12) (hy10 : y < 10) (h60 : (a 0 24).toInt < 60) (hx : ExL T T2 I I2 J J2 R R2 ca [4, 29]) (hq : q ∉ T.1) (ho : OB T2 q 5) (q0 : I2 q 0 = nI x) (q1 : I2 q 1 = nI y) (q3 : I2 q 3 = en) (q4 : I2 q 4 = 0) (q2 : R2 q 2 = some r) (c0 : I2 (ca 4) 0 = mi) (c1 : I2 (ca 4) 1 = a 0 24 + 1) (r4 : R2 (ca 4) = R (ca 4)) (r29 : R2 (ca 29) (fN_ a) = some q) (r29o : ∀ i, i ≠ fN_ a → R2 (ca 29) i = R (ca 29) i) : KA T2 I2 J2 R2 ca (aF a (nI x) (nI y) v mi en) n := by
  have hC := k.1
  obtain ⟨c, k1, k2, k3, k4, fa, rb, k5, k6⟩ := k.2.2.2.2.2.2.2.2.1
  have ec : fN_ a = c := by unfold fN_; rw [k3, nI_toInt (by omega)]; rfl
  have c60 : c < 60 := by rw [k3, nI_toInt (by omega)] at h60; omega
  rw [ec] at r29 r29o
  have rr : ∀ r, r ≠ 0 → r < 40 ∨ 48 < r → aF a (nI x) (nI y) v mi en r = a r := fun r h0 hr => by
    unfold aF
    rw [u2_rown _ _ _ _ h0, u2_rown _ _ _ _ h0, u2_rown _ _ _ _ (by omega), u2_rown _ _ _ _ (by omega), u2_rown _ _ _ _ (by omega), u2_rown _ _ _ _ (by omega), u2_rown _ _ _ _ (by omega), u2_rown _ _ _ _ (by omega), u2_rown _ _ _ _ (by omega), u2_rown _ _ _ _ (by omega), u2_rown _ _ _ _ (by omega)]
  have r0 : ∀ i, i ≠ 24 → i ≠ 25 → aF a (nI x) (nI y) v mi en 0 i = a 0 i := fun i h1 h2 => by
    unfold aF
    rw [u2_k _ _ _ _ h2, u2_k _ _ _ _ h1]
    simp [u2]
  have rn : ∀ r i, r ≠ 0 → i ≠ c → aF a (nI x) (nI y) v mi en r i = a r i := fun r i h0 hi => by
    unfold aF
    rw [ec, u2_a _ _ _ _ h0, u2_a _ _ _ _ h0, u2_k _ _ _ _ hi, u2_k _ _ _ _ hi, u2_k _ _ _ _ hi, u2_k _ _ _ _ hi, u2_k _ _ _ _ hi, u2_k _ _ _ _ hi, u2_k _ _ _ _ hi, u2_k _ _ _ _ hi, u2_k _ _ _ _ hi]
  have e24 : aF a (nI x) (nI y) v mi en 0 24 = a 0 24 + 1 := by unfold aF; simp [u2]
  have e25 : aF a (nI x) (nI y) v mi en 0 25 = mi := by unfold aF; simp [u2]
  refine k.onF hx (by decide) r4 ?_ (fun i hi => r0 i (by omega) (by omega)) (fun r h1 h2 => rr r h1 (by omega))
  refine ⟨c + 1, by omega, by rw [c1, k3, nI_1], by rw [e24, k3, nI_1], by rw [c0, e25], va_up fa c q, va_up rb c r, fun i hi => ?_, fun i j hi hj z => ?_⟩
  · by_cases ei : i = c
    · subst ei
      rw [vu_s, vu_s]
      have hd := hx.dy hC hr.1 (by unfold dyn; omega)
      have w : aF a (nI x) (nI y) v mi en 40 i = nI x ∧ aF a (nI x) (nI y) v mi en 41 i = nI y ∧ aF a (nI x) (nI y) v mi en 42 i = v 0 ∧ aF a (nI x) (nI y) v mi en 43 i = v 1 ∧ aF a (nI x) (nI y) v mi en 44 i = v 2 ∧ aF a (nI x) (nI y) v mi en 45 i = v 3 ∧ aF a (nI x) (nI y) v mi en 46 i = v 4 ∧ aF a (nI x) (nI y) v mi en 47 i = en ∧ aF a (nI x) (nI y) v mi en 48 i = 0 := by
        unfold aF
        rw [ec]
        simp [u2]
      obtain ⟨w40, w41, w42, w43, w44, w45, w46, w47, w48⟩ := w
      have ev : ∀ k, k < 5 → ov (aF a (nI x) (nI y) v mi en) i k = v k := by
        intro k hk
        unfold ov
        rcases (show k = 0 ∨ k = 1 ∨ k = 2 ∨ k = 3 ∨ k = 4 by omega) with rfl | rfl | rfl | rfl | rfl
        · exact w42
        · exact w43
        · exact w44
        · exact w45
        · exact w46
      refine ⟨r29, ho, q2, ⟨hr.1.gr hx.1, fun k hk => by rw [hd.1, ev k hk]; exact hr.2 k hk⟩, ?_, by rw [q0, w40], by rw [q1, w41], ⟨x, hx12, w40⟩, ⟨y, hy10, w41⟩, by rw [q3, w47], by rw [q4, w48]⟩
      unfold vR at hv ⊢
      rw [ev 0 (by omega), ev 1 (by omega), ev 2 (by omega), ev 3 (by omega), ev 4 (by omega)]
      exact hv
    · obtain ⟨p1, p2, p3, p4, p5, p6, p7, p8, p9, p10, p11⟩ := k5 i (by omega)
      rw [vu_n _ _ ei, vu_n _ _ ei]
      have d1 := hx.dy hC p2 (by unfold dyn; omega)
      have d2 := hx.dy hC p4.1 (by unfold dyn; omega)
      have ev : ov (aF a (nI x) (nI y) v mi en) i = ov a i := by funext k; exact rn _ i (by omega) ei
      rw [ev, rn 40 i (by decide) ei, rn 41 i (by decide) ei, rn 47 i (by decide) ei, rn 48 i (by decide) ei, d1.1]
      exact ⟨(r29o i ei).trans p1, p2.gr hx.1, by rw [d1.2.2]; exact p3, ⟨p4.1.gr hx.1, fun k hk => by rw [d2.1]; exact p4.2 k hk⟩, p5, p6, p7, p8, p9, p10, p11⟩
  · have hqn : ∀ i, i < c → fa i ≠ q := fun i hi z => hq (z ▸ (k5 i hi).2.1.1)
    by_cases ei : i = c
    · by_cases ej : j = c
      · omega
      · rw [ei, vu_s, vu_n _ _ ej] at z; exact absurd z.symm (hqn j (by omega))
    · by_cases ej : j = c
      · rw [ej, vu_s, vu_n _ _ ei] at z; exact absurd z (hqn i (by omega))
      · rw [vu_n _ _ ei, vu_n _ _ ej] at z; exact k6 i j (by omega) (by omega) z
theorem KA.exk5 {I' : gI} {a' : gI} (k : KA T I J R ca a n) (h : ExK T I I' 5) (hf : KF T I' R ca a') (hr : ∀ r, r ≠ 48 → a' r = a r) : KA T I' J R ca a' n := by
  obtain ⟨hC, k0, k1, k2, k3, k4, k5, k6, k7, k8⟩ := k
  have c : ∀ i, i < 30 → I' (ca i) = I (ca i) := fun i hi => h.fx hC (by unfold dyn; omega) hi
  refine ⟨hC, by rw [c 0 (by omega), hr 0 (by decide)]; exact k0, k1, ?_, ?_, ?_, ?_, ?_, hf, ?_⟩
  · intro t ht
    rw [c (5 + t) (by omega), hr 4 (by decide), hr 5 (by decide)]; exact k2 t ht
  · obtain ⟨A, B, hh, w, q1, q2⟩ := k3
    refine ⟨A, B, hh, w, ?_, by rw [hr 0 (by decide), hr 10 (by decide)]; exact q2⟩
    unfold KM BS TT at q1 ⊢
    rw [c 2 (by omega), c 13 (by omega), c 22 (by omega), c 14 (by omega), c 17 (by omega), c 16 (by omega), c 18 (by omega), c 15 (by omega), c 23 (by omega), c 24 (by omega)]
    exact q1
  · unfold KB at k4 ⊢
    rw [c 3 (by omega), c 25 (by omega), c 26 (by omega), hr 0 (by decide), hr 26 (by decide), hr 27 (by decide)]; exact k4
  · obtain ⟨g, q1, q2, q3, ga, ra, q4, q5, q6⟩ := k5
    have el : ∀ i, lastI a' i = lastI a i := fun i => by unfold lastI; rw [hr 34 (by decide), hr 35 (by decide)]
    refine ⟨g, q1, by rw [c 3 (by omega)]; exact q2, by rw [hr 0 (by decide)]; exact q3, ga, ra, fun i hi => ?_, q5, fun i j h1 h2 => by rw [hr 28 (by decide), hr 30 (by decide), hr 31 (by decide), hr 32 (by decide), hr 33 (by decide), el, el]; exact q6 i j h1 h2⟩
    obtain ⟨p1, p2, p3, p4, p5, p6⟩ := q4 i hi
    have ev : ∀ k, k < 5 → gv a' i k = gv a i k := fun k hk => by unfold gv; rw [hr (30 + k) (by omega)]
    rw [hr 28 (by decide), hr 29 (by decide), hr 35 (by decide), el, h.ob p2 (by decide)]
    refine ⟨p1, p2, p3, ⟨p4.1, fun k hk => by rw [h.ob p4.1 (by decide), ev k hk]; exact p4.2 k hk⟩, ?_, p6⟩
    unfold vR at p5 ⊢
    rw [ev 0 (by omega), ev 1 (by omega), ev 2 (by omega), ev 3 (by omega), ev 4 (by omega)]
    exact p5
  · obtain ⟨o, q1, q2, q3, oa, q4⟩ := k6
    refine ⟨o, q1, by rw [c 3 (by omega)]; exact q2, by rw [hr 0 (by decide)]; exact q3, oa, fun i hi => ⟨(q4 i hi).1, (q4 i hi).2.1, fun k hk => by rw [h.ob (q4 i hi).2.1 (by decide), hr (36 + k) (by omega)]; exact (q4 i hi).2.2 k hk⟩⟩
  · unfold KS at k8 ⊢
    rw [hr 0 (by decide)]
    rcases k8 with q | ⟨q1, u, q2, q3, q4⟩
    · exact Or.inl q
    · exact Or.inr ⟨q1, u, q2, q3, by rw [h.ob q3 (by decide)]; exact q4⟩
theorem KA.mark (k : KA T I J R ca a n) {i y : Nat} (s : Int32) (hi : (i : Int) < (a 0 24).toInt) (hy : R (ca 29) i = some y) : KA T (u2 I y 4 s) J R ca (u2 a 48 i s) n := by
  have hC := k.1
  obtain ⟨c, k1, k2, k3, k4, fa, rb, k5, k6⟩ := k.2.2.2.2.2.2.2.2.1
  have ic : i < c := by rw [k3, nI_toInt (by omega)] at hi; omega
  have ey : fa i = y := Option.some.inj ((k5 i ic).1.symm.trans hy)
  subst ey
  have hob := (k5 i ic).2.1
  have hx : ExK T I (u2 I (fa i) 4 s) 5 := fun x _ hn => u2_rown _ _ _ _ (fun z => hn (by rw [z]; exact hob.2))
  have ra_ : ∀ r, r ≠ 48 → u2 a 48 i s r = a r := fun r hr => u2_rown _ _ _ _ hr
  have c4 := hx.fx hC (by unfold dyn; omega) (show 4 < 30 by omega)
  refine k.exk5 hx ⟨c, k1, by rw [c4]; exact k2, by rw [ra_ 0 (by decide)]; exact k3, by rw [c4, ra_ 0 (by decide)]; exact k4, fa, rb, fun j hj => ?_, k6⟩ ra_
  obtain ⟨p1, p2, p3, p4, p5, p6, p7, p8, p9, p10, p11⟩ := k5 j hj
  have ev : ∀ k, k < 5 → ov (u2 a 48 i s) j k = ov a j k := fun k hk => by unfold ov; rw [ra_ (42 + k) (by omega)]
  have hv5 : vR (ov (u2 a 48 i s) j) := by
    unfold vR at p5 ⊢
    rw [ev 0 (by omega), ev 1 (by omega), ev 2 (by omega), ev 3 (by omega), ev 4 (by omega)]
    exact p5
  have hr5 : RI T (u2 I (fa i) 4 s) (rb j) (ov (u2 a 48 i s) j) := ⟨p4.1, fun k hk => by rw [hx.ob p4.1 (by decide), ev k hk]; exact p4.2 k hk⟩
  rw [ra_ 40 (by decide), ra_ 41 (by decide), ra_ 47 (by decide)]
  by_cases z : j = i
  · subst z
    exact ⟨p1, p2, p3, hr5, hv5, by rw [u2_k _ _ _ _ (by decide)]; exact p6, by rw [u2_k _ _ _ _ (by decide)]; exact p7, p8, p9, by rw [u2_k _ _ _ _ (by decide)]; exact p10, by rw [u2_s, u2_s]⟩
  · have ne : fa j ≠ fa i := fun y => z (k6 j i hj ic y)
    rw [u2_rown _ _ _ _ ne, u2_k _ _ _ _ z]
    exact ⟨p1, p2, p3, hr5, hv5, p6, p7, p8, p9, p10, p11⟩
theorem KA.minute (k : KA T I J R ca a n) (mi : Int32) : KA T (u2 I (ca 4) 0 mi) J R ca (u2 a 0 25 mi) n := by
  have hC := k.1
  have hx : ExL T T I (u2 I (ca 4) 0 mi) J J R R ca [4, 29] := (ExL.rf (by decide)).pI (i := 4) (by decide) 0 mi
  obtain ⟨c, k1, k2, k3, k4, fa, rb, k5, k6⟩ := k.2.2.2.2.2.2.2.2.1
  refine k.onF hx (by decide) rfl ⟨c, k1, by rw [u2_k _ _ _ _ (by decide)]; exact k2, by rw [u2_k _ _ _ _ (by decide)]; exact k3, by rw [u2_s, u2_s], fa, rb, fun i hi => ?_, k6⟩ (fun i hi => u2_k _ _ _ _ (by omega) _) (fun r h1 h2 => u2_rown _ _ _ _ h1)
  obtain ⟨p1, p2, p3, p4, p5, p6, p7, p8, p9, p10, p11⟩ := k5 i hi
  have d1 := hx.dy hC p2 (by unfold dyn; omega)
  have d2 := hx.dy hC p4.1 (by unfold dyn; omega)
  rw [show ov (u2 a 0 25 mi) i = ov a i from by funext k; exact u2_a _ _ _ _ (by omega) _, u2_rown _ _ _ _ (show (40 : Nat) ≠ 0 by decide), u2_rown _ _ _ _ (show (41 : Nat) ≠ 0 by decide), u2_rown _ _ _ _ (show (47 : Nat) ≠ 0 by decide), u2_rown _ _ _ _ (show (48 : Nat) ≠ 0 by decide), d1.1]
  exact ⟨p1, p2, p3, ⟨p4.1, fun k hk => by rw [d2.1]; exact p4.2 k hk⟩, p5, p6, p7, p8, p9, p10, p11⟩
end KAf
set_option maxRecDepth 100000 in
set_option maxHeartbeats 4000000 in
theorem c_Offer (l : Launch) {T : gSh} {I : gI} {J : gJ} {R : gR} {o r : Nat} (ho : OB T o 5) (hr : OB T r 8) (b e en : Int32) : Con l yX5_init wsX5_init ({ frames := 1, cells := 0, slots := 0, locals := 20 }) [.ref o, .int b, .int e, .ref r, .int en] T I J R (gP none T (u2 (u2 (u2 (u2 I o 4 0) o 0 b) o 1 e) o 3 en) J (u2 R o 2 (some r))) := by
  refine Con.mk (cc := cX5_init) (maxL := 5) (ret := none) (by decide) rfl (Nat.le_of_ble_eq_true rfl) ?_
  intro E hE C Z hnm
  subst hE
  change WP E 5 0 0 T I J R 0 [(0, .ref o), (1, .int b), (2, .int e), (3, .ref r), (4, .int en)] []
  refine wp_aload_n C 0 dX5_init_0 rfl rfl ?_
  refine wp_objInit C dX5_init_1 (by decide +kernel) (by decide +kernel) (by decide +kernel) (Nat.le_of_ble_eq_true rfl) (by decide) ?_
  refine wp_aload_n C 0 dX5_init_4 rfl rfl ?_
  refine wp_iconst C 0 dX5_init_5 (by decide) ?_
  refine wp_putI C dX5_init_6 pX5_init_9 (fun h => nomatch h) ho ?_
  refine wp_aload_n C 0 dX5_init_9 rfl rfl ?_
  refine wp_iload_n C 1 dX5_init_10 rfl rfl ?_
  refine wp_putI C dX5_init_11 pX5_init_13 (fun _ => hnm) ho ?_
  refine wp_aload_n C 0 dX5_init_14 rfl rfl ?_
  refine wp_iload_n C 2 dX5_init_15 rfl rfl ?_
  refine wp_putI C dX5_init_16 pX5_init_16 (fun _ => hnm) ho ?_
  refine wp_aload_n C 0 dX5_init_19 rfl rfl ?_
  refine wp_aload_n C 3 dX5_init_20 rfl rfl ?_
  refine wp_putR C dX5_init_21 pX5_init_19 (fun _ => hnm) ho rfl rfl ?_
  refine wp_aload_n C 0 dX5_init_24 rfl rfl ?_
  refine wp_iload C 4 dX5_init_25 rfl ?_
  refine wp_putI C dX5_init_27 pX5_init_23 (fun _ => hnm) ho ?_
  exact wp_vret C Z dX5_init_30 (by decide) (by decide) gP_rf
set_option maxRecDepth 100000 in
set_option maxHeartbeats 4000000 in
theorem c_markAt (l : Launch) {T : gSh} {I : gI} {J : gJ} {R : gR} {o : Nat} (ho : OB T o 5) {a : gI} {i : Nat} (h4 : I o 4 = a 48 i) (h3 : I o 3 = a 47 i) (mi : Int32) : Con l yX5_markAt wsX5_markAt ({ frames := 0, cells := 0, slots := 0, locals := 0 }) [.ref o, .int mi] T I J R (gP (some (.int (mkN a mi i))) T I J R) := by
  refine Con.mk (cc := cX5_markAt) (maxL := 2) (ret := (some .int)) (by decide) rfl (Nat.le_of_ble_eq_true rfl) ?_
  intro E hE C Z hnm
  subst hE
  change WP E 2 0 0 T I J R 0 [(0, .ref o), (1, .int mi)] []
  refine wp_aload_n C 0 dX5_markAt_0 rfl rfl ?_
  refine wp_getI C dX5_markAt_1 fX5_markAt_9 ho ?_
  refine wp_eqi h4 ?_
  refine wp_if_ne C 19 dX5_markAt_4 (by decide) (fun c4 => ?_) (fun c4 => ?_)
  · have c4 : ¬ (a 48 i).toInt = 0 := by have hcv := n_eq c4; exact hcv
    refine wp_aload_n C 0 dX5_markAt_19 rfl rfl ?_
    refine wp_getI C dX5_markAt_20 fX5_markAt_9 ho ?_
    refine wp_eqi h4 ?_
    exact wp_iret C Z dX5_markAt_23 (by decide) (by decide) (by rw [show mkN a mi i = a 48 i from by unfold mkN; rw [if_neg (by omega)]]; exact gP_rf)
  · have c4 : (a 48 i).toInt = 0 := by have hcv := p_eq c4; exact hcv
    refine wp_iload_n C 1 dX5_markAt_7 rfl rfl ?_
    refine wp_aload_n C 0 dX5_markAt_8 rfl rfl ?_
    refine wp_getI C dX5_markAt_9 fX5_markAt_23 ho ?_
    refine wp_eqi h3 ?_
    refine wp_icmp_le C 19 dX5_markAt_12 (by decide) (fun c12 => ?_) (fun c12 => ?_)
    · have c12 : mi.toInt ≤ (a 47 i).toInt := by have hcv := p_le c12; exact hcv
      refine wp_aload_n C 0 dX5_markAt_19 rfl rfl ?_
      refine wp_getI C dX5_markAt_20 fX5_markAt_9 ho ?_
      refine wp_eqi h4 ?_
      exact wp_iret C Z dX5_markAt_23 (by decide) (by decide) (by rw [show mkN a mi i = a 48 i from by unfold mkN; rw [if_neg (by omega)]]; exact gP_rf)
    · have c12 : ¬ mi.toInt ≤ (a 47 i).toInt := by have hcv := n_le c12; exact hcv
      refine wp_iconst C 3 dX5_markAt_15 (by decide) ?_
      refine wp_goto C 23 dX5_markAt_16 (by decide) ?_
      exact wp_iret C Z dX5_markAt_23 (by decide) (by decide) (by rw [show mkN a mi i = 3 from by unfold mkN; rw [if_pos (by omega)]]; exact gP_rf)
set_option maxRecDepth 100000 in
set_option maxHeartbeats 4000000 in
theorem c_addOffer (l : Launch) {T : gSh} {I : gI} {J : gJ} {R : gR} {ca : Nat → Nat} (hC : CO T R ca) {x : Int32} (hx : I (ca 4) 1 = x) (hb : 0 ≤ x.toInt ∧ x.toInt < 60) {q : Nat} (ho : OB T q 5) : Con l yX6_addOffer wsX6_addOffer ({ frames := 0, cells := 0, slots := 0, locals := 0 }) [.ref (ca 4), .ref q] T I J R (gP (some (.int x)) T (u2 I (ca 4) 1 (x + 1)) J (u2 R (ca 29) x.toInt.toNat (some q))) := by
  refine Con.mk (cc := cX6_addOffer) (maxL := 2) (ret := (some .int)) (by decide) rfl (Nat.le_of_ble_eq_true rfl) ?_
  intro E hE C Z hnm
  subst hE
  change WP E 2 0 0 T I J R 0 [(0, .ref (ca 4)), (1, .ref q)] []
  refine wp_aload_n C 0 dX6_addOffer_0 rfl rfl ?_
  refine wp_getR C dX6_addOffer_1 fX6_addOffer_20 (hC.ob 4 (by decide) rfl) (hC.rf 4 2 29 (by decide)) ?_
  refine wp_aload_n C 0 dX6_addOffer_4 rfl rfl ?_
  refine wp_getI C dX6_addOffer_5 fX6_addOffer_15 (hC.ob 4 (by decide) rfl) ?_
  refine wp_eqi hx ?_
  refine wp_aload_n C 1 dX6_addOffer_8 rfl rfl ?_
  refine wp_aast C (RX5, TX5, 5) dX6_addOffer_9 (hC.ar 29 (by decide) rfl) (by decide) rfl ho (by decide) rfl (j := x.toInt.toNat) (nI_nat (by omega)) (by omega) (by decide) ?_
  refine wp_aload_n C 0 dX6_addOffer_10 rfl rfl ?_
  refine wp_dup C dX6_addOffer_11 rfl ?_
  refine wp_getI C dX6_addOffer_12 fX6_addOffer_15 (hC.ob 4 (by decide) rfl) ?_
  refine wp_eqi hx ?_
  refine wp_iconst C 1 dX6_addOffer_15 (by decide) ?_
  refine wp_iadd C dX6_addOffer_16 ?_
  refine wp_putI C dX6_addOffer_17 pX6_addOffer_15 (fun h => nomatch h) (hC.ob 4 (by decide) rfl) ?_
  refine wp_aload_n C 0 dX6_addOffer_20 rfl rfl ?_
  refine wp_getI C dX6_addOffer_21 fX6_addOffer_15 (hC.ob 4 (by decide) rfl) ?_
  refine wp_eqi (u2_s _ _ _ _) ?_
  refine wp_iconst C 1 dX6_addOffer_24 (by decide) ?_
  refine wp_isub C dX6_addOffer_25 ?_
  exact wp_iret C Z dX6_addOffer_26 (by decide) (by decide) (by rw [Int32.add_sub_cancel]; exact gP_rf)
set_option maxRecDepth 100000 in
set_option maxHeartbeats 4000000 in
theorem c_statusOfAsking (l : Launch) {T : gSh} {I : gI} {J : gJ} {R : gR} {ca : Nat → Nat} {a : gI} {n : gJ} (hK : KA T I J R ca a n) (o mi : Int32) : Con l yX11_statusOfAsking wsX11_statusOfAsking ({ frames := 1, cells := 0, slots := 0, locals := 20 }) [.ref (ca 0), .int o, .int mi] T I J R (gP (some (.int (nI (stAs a o mi)))) T I J R) := by
  refine Con.mk (cc := cX11_statusOfAsking) (maxL := 3) (ret := (some .int)) (by decide) rfl (Nat.le_of_ble_eq_true rfl) ?_
  intro E hE C Z hnm
  subst hE
  change WP E 3 0 0 T I J R 0 [(0, .ref (ca 0)), (1, .int o), (2, .int mi)] []
  have kf := hK.2.2.2.2.2.2.2.2.1.ar
  refine wp_iload_n C 1 dX11_statusOfAsking_0 rfl rfl ?_
  refine wp_if_lt C 15 dX11_statusOfAsking_1 (by decide) (fun c1 => ?_) (fun c1 => ?_)
  · have c1 : o.toInt < 0 := by have hcv := p_lt c1; exact hcv
    refine wp_iconst C 1 dX11_statusOfAsking_15 (by decide) ?_
    exact wp_iret C Z dX11_statusOfAsking_16 (by decide) (by decide) (by rw [show stAs a o mi = 1 from by simp only [stAs]; (repeat' split) <;> omega]; exact gP_rf)
  · have c1 : ¬ o.toInt < 0 := by have hcv := n_lt c1; exact hcv
    refine wp_iload_n C 1 dX11_statusOfAsking_4 rfl rfl ?_
    refine wp_aload_n C 0 dX11_statusOfAsking_5 rfl rfl ?_
    refine wp_getR C dX11_statusOfAsking_6 fX11_statusOfAsking_33 (hK.1.ob 0 (by decide) rfl) (hK.1.rf 0 3 4 (by decide)) ?_
    refine wp_getI C dX11_statusOfAsking_9 fX11_statusOfAsking_320 (hK.1.ob 4 (by decide) rfl) ?_
    refine wp_eqi kf.1 ?_
    refine wp_icmp_lt C 17 dX11_statusOfAsking_12 (by decide) (fun c12 => ?_) (fun c12 => ?_)
    · have c12 : o.toInt < (a 0 24).toInt := by have hcv := p_lt c12; exact hcv
      refine wp_iload_n C 2 dX11_statusOfAsking_17 rfl rfl ?_
      refine wp_cSi C (As := [.int mi]) (rest := []) dX11_statusOfAsking_18 kX11_statusOfAsking_255 (c_isMinute _ mi) rfl (Nat.le_of_ble_eq_true rfl) (by decide) (by decide) ?_
      refine wp_if_ne C 26 dX11_statusOfAsking_21 (by decide) (fun c21 => ?_) (fun c21 => ?_)
      · have c21 : (0 ≤ mi.toInt ∧ mi.toInt ≤ 100000) := Classical.byContradiction (fun z => c21 (bI_f z))
        refine wp_iload_n C 2 dX11_statusOfAsking_26 rfl rfl ?_
        refine wp_aload_n C 0 dX11_statusOfAsking_27 rfl rfl ?_
        refine wp_getR C dX11_statusOfAsking_28 fX11_statusOfAsking_33 (hK.1.ob 0 (by decide) rfl) (hK.1.rf 0 3 4 (by decide)) ?_
        refine wp_getI C dX11_statusOfAsking_31 fX11_statusOfAsking_308 (hK.1.ob 4 (by decide) rfl) ?_
        refine wp_eqi kf.2.2.2 ?_
        refine wp_icmp_ge C 41 dX11_statusOfAsking_34 (by decide) (fun c34 => ?_) (fun c34 => ?_)
        · have c34 : (a 0 25).toInt ≤ mi.toInt := by have hcv := p_le c34; exact hcv
          refine wp_iconst C 0 dX11_statusOfAsking_41 (by decide) ?_
          exact wp_iret C Z dX11_statusOfAsking_42 (by decide) (by decide) (by rw [show stAs a o mi = 0 from by simp only [stAs]; (repeat' split) <;> omega]; exact gP_rf)
        · have c34 : ¬ (a 0 25).toInt ≤ mi.toInt := by have hcv := n_le c34; exact hcv
          refine wp_iconst C 3 dX11_statusOfAsking_37 (by decide) ?_
          refine wp_goto C 42 dX11_statusOfAsking_38 (by decide) ?_
          exact wp_iret C Z dX11_statusOfAsking_42 (by decide) (by decide) (by rw [show stAs a o mi = 3 from by simp only [stAs]; (repeat' split) <;> omega]; exact gP_rf)
      · have c21 : ¬ (0 ≤ mi.toInt ∧ mi.toInt ≤ 100000) := fun z => absurd ((bI_t z).symm.trans c21) (by decide)
        refine wp_iconst C 2 dX11_statusOfAsking_24 (by decide) ?_
        exact wp_iret C Z dX11_statusOfAsking_25 (by decide) (by decide) (by rw [show stAs a o mi = 2 from by simp only [stAs]; (repeat' split) <;> omega]; exact gP_rf)
    · have c12 : ¬ o.toInt < (a 0 24).toInt := by have hcv := n_lt c12; exact hcv
      refine wp_iconst C 1 dX11_statusOfAsking_15 (by decide) ?_
      exact wp_iret C Z dX11_statusOfAsking_16 (by decide) (by decide) (by rw [show stAs a o mi = 1 from by simp only [stAs]; (repeat' split) <;> omega]; exact gP_rf)
set_option maxRecDepth 100000 in
set_option maxHeartbeats 4000000 in
theorem c_statusOfOffer (l : Launch) {T : gSh} {I : gI} {J : gJ} {R : gR} {ca : Nat → Nat} {a : gI} {n : gJ} (hK : KA T I J R ca a n) {s : Nat} {v : Nat → Int32} (hs : RI T I s v) (b e mi en : Int32) : Con l yX11_statusOfOffer wsX11_statusOfOffer ({ frames := 6, cells := 0, slots := 0, locals := 134 }) [.ref (ca 0), .int b, .int e, .ref s, .int mi, .int en] T I J R (gP (some (.int (nI (stOf a b e v mi en)))) T I J R) := by
  refine Con.mk (cc := cX11_statusOfOffer) (maxL := 7) (ret := (some .int)) (by decide) rfl (Nat.le_of_ble_eq_true rfl) ?_
  intro E hE C Z hnm
  subst hE
  change WP E 7 0 0 T I J R 0 [(0, .ref (ca 0)), (1, .int b), (2, .int e), (3, .ref s), (4, .int mi), (5, .int en)] []
  have kn := hK.2.2.2.2.1.ar
  have kb := hK.2.2.2.2.2.1.ar
  have kf := hK.2.2.2.2.2.2.2.2.1.ar
  have hml := mbN_le a b e v mi
  have hsl := stMa_le a b e v mi
  refine wp_aload_n C 0 dX11_statusOfOffer_0 rfl rfl ?_
  refine wp_iload_n C 1 dX11_statusOfOffer_1 rfl rfl ?_
  refine wp_iload_n C 2 dX11_statusOfOffer_2 rfl rfl ?_
  refine wp_aload_n C 3 dX11_statusOfOffer_3 rfl rfl ?_
  refine wp_iload C 4 dX11_statusOfOffer_4 rfl ?_
  refine wp_cVi C (As := [.int b, .int e, .ref s, .int mi]) (rest := []) dX11_statusOfOffer_6 kX11_statusOfOffer_261 (hK.1.ob 0 (by decide) rfl) (c_statusOfMay _ hK hs b e mi) rfl (Nat.le_of_ble_eq_true rfl) (by decide) (by decide) ?_
  refine wp_istore C [(6, .int (nI (stMa a b e v mi))), (0, .ref (ca 0)), (1, .int b), (2, .int e), (3, .ref s), (4, .int mi), (5, .int en)] dX11_statusOfOffer_9 (by decide) rfl ?_
  refine wp_iload C 0 dX11_statusOfOffer_11 rfl ?_
  refine wp_if_eq C 19 dX11_statusOfOffer_13 (by decide) (fun c13 => ?_) (fun c13 => ?_)
  · have c13 : ((stMa a b e v mi : Nat) : Int) = 0 := by have hcv := p_eq c13; rw [nI_toInt (show stMa a b e v mi < 2 ^ 31 by omega)] at hcv; exact hcv
    have hsu := stMa_ok (show stMa a b e v mi = 0 by omega)
    refine wp_iload C 6 dX11_statusOfOffer_19 rfl ?_
    refine wp_cSi C (As := [.int en]) (rest := []) dX11_statusOfOffer_21 kX11_statusOfOffer_255 (c_isMinute _ en) rfl (Nat.le_of_ble_eq_true rfl) (by decide) (by decide) ?_
    refine wp_if_eq C 34 dX11_statusOfOffer_24 (by decide) (fun c24 => ?_) (fun c24 => ?_)
    · have c24 : ¬ (0 ≤ en.toInt ∧ en.toInt ≤ 100000) := fun z => absurd ((bI_t z).symm.trans c24) (by decide)
      refine wp_iconst C 2 dX11_statusOfOffer_34 (by decide) ?_
      exact wp_iret C Z dX11_statusOfOffer_35 (by decide) (by decide) (by rw [show stOf a b e v mi en = 2 from by simp only [stOf]; (repeat' split) <;> omega]; exact gP_rf)
    · have c24 : (0 ≤ en.toInt ∧ en.toInt ≤ 100000) := Classical.byContradiction (fun z => c24 (bI_f z))
      refine wp_iload C 6 dX11_statusOfOffer_27 rfl ?_
      refine wp_iload C 5 dX11_statusOfOffer_29 rfl ?_
      refine wp_icmp_gt C 36 dX11_statusOfOffer_31 (by decide) (fun c31 => ?_) (fun c31 => ?_)
      · have c31 : mi.toInt < en.toInt := by have hcv := p_lt c31; exact hcv
        refine wp_iload C 5 dX11_statusOfOffer_36 rfl ?_
        refine wp_aload_n C 1 dX11_statusOfOffer_38 rfl rfl ?_
        refine wp_getR C dX11_statusOfOffer_39 fX11_statusOfOffer_33 (hK.1.ob 0 (by decide) rfl) (hK.1.rf 0 3 4 (by decide)) ?_
        refine wp_getI C dX11_statusOfOffer_42 fX11_statusOfOffer_308 (hK.1.ob 4 (by decide) rfl) ?_
        refine wp_eqi kf.2.2.2 ?_
        refine wp_icmp_ge C 50 dX11_statusOfOffer_45 (by decide) (fun c45 => ?_) (fun c45 => ?_)
        · have c45 : (a 0 25).toInt ≤ mi.toInt := by have hcv := p_le c45; exact hcv
          refine wp_aload_n C 1 dX11_statusOfOffer_50 rfl rfl ?_
          refine wp_getR C dX11_statusOfOffer_51 fX11_statusOfOffer_33 (hK.1.ob 0 (by decide) rfl) (hK.1.rf 0 3 4 (by decide)) ?_
          refine wp_getI C dX11_statusOfOffer_54 fX11_statusOfOffer_320 (hK.1.ob 4 (by decide) rfl) ?_
          refine wp_eqi kf.1 ?_
          refine wp_bipush C 60 dX11_statusOfOffer_57 (by decide) ?_
          refine wp_icmp_lt C 65 dX11_statusOfOffer_59 (by decide) (fun c59 => ?_) (fun c59 => ?_)
          · have c59 : (a 0 24).toInt < 60 := by have hcv := p_lt c59; exact hcv
            refine wp_aload_n C 1 dX11_statusOfOffer_65 rfl rfl ?_
            refine wp_getR C dX11_statusOfOffer_66 fX11_statusOfOffer_26 (hK.1.ob 0 (by decide) rfl) (hK.1.rf 0 2 3 (by decide)) ?_
            refine wp_iload_n C 2 dX11_statusOfOffer_69 rfl rfl ?_
            refine wp_iload_n C 3 dX11_statusOfOffer_70 rfl rfl ?_
            refine wp_aload_n C 4 dX11_statusOfOffer_71 rfl rfl ?_
            refine wp_iload C 5 dX11_statusOfOffer_72 rfl ?_
            refine wp_cVi C (As := [.int b, .int e, .ref s, .int mi]) (rest := []) dX11_statusOfOffer_74 kX11_statusOfOffer_265 (hK.1.ob 3 (by decide) rfl) (c_mayBeOffered _ hK (by omega) (by omega) hs (can_1 hsu.2.2.1).b mi) rfl (Nat.le_of_ble_eq_true rfl) (by decide) (by decide) ?_
            refine wp_if_eq C 84 dX11_statusOfOffer_77 (by decide) (fun c77 => ?_) (fun c77 => ?_)
            · have c77 : ((mbN a b e v mi : Nat) : Int) = 0 := by have hcv := p_eq c77; rw [nI_toInt (show mbN a b e v mi < 2 ^ 31 by omega)] at hcv; exact hcv
              refine wp_bipush C 12 dX11_statusOfOffer_84 (by decide) ?_
              exact wp_iret C Z dX11_statusOfOffer_86 (by decide) (by decide) (by rw [show stOf a b e v mi en = 12 from by simp only [stOf]; (repeat' split) <;> omega]; exact gP_rf)
            · have c77 : ¬ ((mbN a b e v mi : Nat) : Int) = 0 := by have hcv := n_eq c77; rw [nI_toInt (show mbN a b e v mi < 2 ^ 31 by omega)] at hcv; exact hcv
              refine wp_iconst C 0 dX11_statusOfOffer_80 (by decide) ?_
              refine wp_goto C 86 dX11_statusOfOffer_81 (by decide) ?_
              exact wp_iret C Z dX11_statusOfOffer_86 (by decide) (by decide) (by rw [show stOf a b e v mi en = 0 from by simp only [stOf]; (repeat' split) <;> omega]; exact gP_rf)
          · have c59 : ¬ (a 0 24).toInt < 60 := by have hcv := n_lt c59; exact hcv
            refine wp_bipush C 7 dX11_statusOfOffer_62 (by decide) ?_
            exact wp_iret C Z dX11_statusOfOffer_64 (by decide) (by decide) (by rw [show stOf a b e v mi en = 7 from by simp only [stOf]; (repeat' split) <;> omega]; exact gP_rf)
        · have c45 : ¬ (a 0 25).toInt ≤ mi.toInt := by have hcv := n_le c45; exact hcv
          refine wp_iconst C 3 dX11_statusOfOffer_48 (by decide) ?_
          exact wp_iret C Z dX11_statusOfOffer_49 (by decide) (by decide) (by rw [show stOf a b e v mi en = 3 from by simp only [stOf]; (repeat' split) <;> omega]; exact gP_rf)
      · have c31 : ¬ mi.toInt < en.toInt := by have hcv := n_lt c31; exact hcv
        refine wp_iconst C 2 dX11_statusOfOffer_34 (by decide) ?_
        exact wp_iret C Z dX11_statusOfOffer_35 (by decide) (by decide) (by rw [show stOf a b e v mi en = 2 from by simp only [stOf]; (repeat' split) <;> omega]; exact gP_rf)
  · have c13 : ¬ ((stMa a b e v mi : Nat) : Int) = 0 := by have hcv := n_eq c13; rw [nI_toInt (show stMa a b e v mi < 2 ^ 31 by omega)] at hcv; exact hcv
    refine wp_iload C 0 dX11_statusOfOffer_16 rfl ?_
    exact wp_iret C Z dX11_statusOfOffer_18 (by decide) (by decide) (by rw [show stOf a b e v mi en = stMa a b e v mi from by simp only [stOf]; rw [if_neg (by omega)]]; exact gP_rf)
set_option maxRecDepth 100000 in
set_option maxHeartbeats 4000000 in
theorem c_offer (l : Launch) {T : gSh} {I : gI} {J : gJ} {R : gR} {ca : Nat → Nat} {a : gI} {n : gJ} (hK : KA T I J R ca a n) (b e p t f d u mi en : Int32) : Con l yX11_offer wsX11_offer ({ frames := 7, cells := 2, slots := 10, locals := 160 }) [.ref (ca 0), .int b, .int e, .int p, .int t, .int f, .int d, .int u, .int mi, .int en] T I J R (PQ T I J R ca (.int (if stOf a b e (rv p t f d u) mi en = 0 then a 0 24 else -1)) (aOf a b e (rv p t f d u) mi en) n) := by
  refine Con.mk (cc := cX11_offer) (maxL := 11) (ret := (some .int)) (by decide) rfl (Nat.le_of_ble_eq_true rfl) ?_
  intro E hE C Z hnm
  subst hE
  change WP E 11 0 0 T I J R 0 [(0, .ref (ca 0)), (1, .int b), (2, .int e), (3, .int p), (4, .int t), (5, .int f), (6, .int d), (7, .int u), (8, .int mi), (9, .int en)] []
  refine wp_new C dX11_offer_0 nX11_offer_180 (by decide) (by decide) ?_
  intro q hq
  refine wp_dup C dX11_offer_3 rfl ?_
  refine wp_iload_n C 3 dX11_offer_4 rfl rfl ?_
  refine wp_iload C 4 dX11_offer_5 rfl ?_
  refine wp_iload C 5 dX11_offer_7 rfl ?_
  refine wp_iload C 6 dX11_offer_9 rfl ?_
  refine wp_iload C 7 dX11_offer_11 rfl ?_
  refine wp_cIv C (As := [.int p, .int t, .int f, .int d, .int u]) (rest := [.ref q]) dX11_offer_13 kX11_offer_182 (c_Rights _ OB.new p t f d u) rfl (Nat.le_of_ble_eq_true rfl) (by decide) (by decide) ?_
  refine wp_gen (fun T1 I1 J1 R1 => KA T1 I1 J1 R1 ca a n ∧ RI T1 I1 q (rv p t f d u) ∧ ExL T T1 I I1 J J1 R R1 ca []) (newR hK hq p t f d u) ?_
  intro T1 I1 J1 R1 hp
  refine wp_astore C [(10, .ref q), (0, .ref (ca 0)), (1, .int b), (2, .int e), (3, .int p), (4, .int t), (5, .int f), (6, .int d), (7, .int u), (8, .int mi), (9, .int en)] dX11_offer_16 (by decide) rfl ?_
  refine wp_aload_n C 1 dX11_offer_18 rfl rfl ?_
  refine wp_aload_n C 1 dX11_offer_19 rfl rfl ?_
  refine wp_iload_n C 2 dX11_offer_20 rfl rfl ?_
  refine wp_iload_n C 3 dX11_offer_21 rfl rfl ?_
  refine wp_aload C 0 dX11_offer_22 rfl ?_
  refine wp_iload C 9 dX11_offer_24 rfl ?_
  refine wp_iload C 10 dX11_offer_26 rfl ?_
  refine wp_cVi C (As := [.int b, .int e, .ref q, .int mi, .int en]) (rest := [.ref (ca 0)]) dX11_offer_28 kX11_offer_304 (hp.1.1.ob 0 (by decide) rfl) (c_statusOfOffer _ hp.1 hp.2.1 b e mi en) rfl (Nat.le_of_ble_eq_true rfl) (by decide) (by decide) ?_
  refine wp_putI C dX11_offer_31 pX11_offer_41 (fun h => nomatch h) (hp.1.1.ob 0 (by decide) rfl) ?_
  refine wp_aload_n C 1 dX11_offer_34 rfl rfl ?_
  refine wp_getI C dX11_offer_35 fX11_offer_41 (hp.1.1.ob 0 (by decide) rfl) ?_
  refine wp_eqi (u2_s _ _ _ _) ?_
  refine wp_if_eq C 43 dX11_offer_38 (by decide) (fun c38 => ?_) (fun c38 => ?_)
  · have c38 : stOf a b e (rv p t f d u) mi en = 0 := by have hcv := p_eq c38; rw [nI_toInt (show stOf a b e (rv p t f d u) mi en < 2 ^ 31 by have := stOf_le a b e (rv p t f d u) mi en; omega)] at hcv; have hz0 : ((0 : Int32)).toInt = 0 := rfl; omega
    have hsu := stOf_ok c38
    have hsm := stMa_ok hsu.1
    have kf1 := hp.1.2.2.2.2.2.2.2.2.1.ar
    have kb1 := hp.1.2.2.2.2.2.1.ar
    have kn1 := hp.1.2.2.2.2.1.ar
    refine wp_eI (show _ = u2 I1 (ca 0) 5 0 by rw [c38]; rfl) ?_
    refine wp_aload_n C 1 dX11_offer_43 rfl rfl ?_
    refine wp_getR C dX11_offer_44 fX11_offer_33 (hp.1.1.ob 0 (by decide) rfl) (hp.1.1.rf 0 3 4 (by decide)) ?_
    refine wp_iload C 9 dX11_offer_47 rfl ?_
    refine wp_putI C dX11_offer_49 pX11_offer_308 (fun h => nomatch h) (hp.1.1.ob 4 (by decide) rfl) ?_
    refine wp_aload_n C 1 dX11_offer_52 rfl rfl ?_
    refine wp_getR C dX11_offer_53 fX11_offer_33 (hp.1.1.ob 0 (by decide) rfl) (hp.1.1.rf 0 3 4 (by decide)) ?_
    refine wp_new C dX11_offer_56 nX11_offer_311 (by decide) (by decide) ?_
    intro o ho
    have nq : ∀ i, i < 30 → ca i ≠ o := fun i hi z => ho (z ▸ (hp.1.1.1 i hi).1)
    refine wp_gen (fun T2 I2 J2 R2 => (OB T2 o 5 ∧ ExL T1 T2 (u2 I1 (ca 0) 5 0) I2 J1 J2 R1 R2 ca [4, 29] ∧ CO T2 R2 ca) ∧ (I2 (ca 4) 0 = mi ∧ I2 (ca 4) 1 = a 0 24) ∧ R2 (ca 4) = R1 (ca 4) ∧ ∀ i, R2 (ca 29) i = R1 (ca 29) i) ⟨⟨OB.new, ((ExL.rf (by decide)).pI (i := 4) (by decide) 0 mi).push ho, hp.1.1.push ho⟩, ⟨by rw [vu_n _ _ (nq 4 (by decide)), u2_s], by rw [vu_n _ _ (nq 4 (by decide)), u2_k _ _ _ _ (by decide), u2_a _ _ _ _ (hp.1.1.ne 4 0 (by decide) (by decide) (by decide))]; exact kf1.1⟩, vu_n _ _ (nq 4 (by decide)), fun i => by rw [vu_n _ _ (nq 29 (by decide))]⟩ ?_
    intro T2 I2 J2 R2 hp2
    have n4o : ca 4 ≠ o := Ne.symm (hp2.1.2.2.nd hp2.1.1 (by unfold dyn; omega) (by omega))
    have n29o : ca 29 ≠ o := Ne.symm (hp2.1.2.2.nd hp2.1.1 (by unfold dyn; omega) (by omega))
    have n429 := hp.1.1.ne 4 29 (by decide) (by decide) (by decide)
    refine wp_dup C dX11_offer_59 rfl ?_
    refine wp_iload_n C 2 dX11_offer_60 rfl rfl ?_
    refine wp_iload_n C 3 dX11_offer_61 rfl rfl ?_
    refine wp_aload C 0 dX11_offer_62 rfl ?_
    refine wp_iload C 10 dX11_offer_64 rfl ?_
    refine wp_cIv C (As := [.int b, .int e, .ref q, .int en]) (rest := [.ref o, .ref (ca 4)]) dX11_offer_66 kX11_offer_313 (c_Offer _ hp2.1.1 (hp.2.1.1.gr hp2.1.2.1.1) b e en) rfl (Nat.le_of_ble_eq_true rfl) (by decide) (by decide) ?_
    have hC3 : CO T2 (u2 R2 o 2 (some q)) ca := hp2.1.2.2.putd hp2.1.1 (by unfold dyn; omega)
    refine wp_cVi C (As := [.ref o]) (rest := []) dX11_offer_69 kX11_offer_316 (hp2.1.2.2.ob 4 (by decide) rfl) (c_addOffer _ hC3 (x := a 0 24) (by rw [u2_rown _ _ _ _ n4o, u2_rown _ _ _ _ n4o, u2_rown _ _ _ _ n4o, u2_rown _ _ _ _ n4o]; exact hp2.2.1.2) (by omega) hp2.1.1) rfl (Nat.le_of_ble_eq_true rfl) (by decide) (by decide) ?_
    have o3 := hp2.1.2.1
    have on4 : o ≠ ca 4 := Ne.symm n4o
    have on29 : o ≠ ca 29 := Ne.symm n29o
    have hx2 : ExL T1 T2 (u2 I1 (ca 0) 5 0) (u2 (u2 (u2 (u2 (u2 I2 o 4 0) o 0 b) o 1 e) o 3 en) (ca 4) 1 (a 0 24 + 1)) J1 J2 R1 (u2 (u2 R2 o 2 (some q)) (ca 29) ((a 0 24).toInt.toNat) (some o)) ca [4, 29] := ((((((o3.nI ho 4 0).nI ho 0 b).nI ho 1 e).nI ho 3 en).pI (i := 4) (by decide) 1 _).nR ho 2 _).pR (i := 29) (by decide) _ _
    have hk := (hp.1.st 0).addF (x := b.toInt.toNat) (y := e.toInt.toNat) (mi := mi) (en := en) (q := o) (hp.2.1.st hp.1.1 0) (can_1 hsm.2.2.1) (by omega) (by omega) (by rw [u2_k _ _ _ _ (by decide)]; exact hsu.2) hx2 ho hp2.1.1 (by rw [u2_rown _ _ _ _ on4, u2_k _ _ _ _ (by decide), u2_k _ _ _ _ (by decide), u2_s]; exact nI_nat (by omega)) (by rw [u2_rown _ _ _ _ on4, u2_k _ _ _ _ (by decide), u2_s]; exact nI_nat (by omega)) (by rw [u2_rown _ _ _ _ on4, u2_s]) (by rw [u2_rown _ _ _ _ on4, u2_k _ _ _ _ (by decide), u2_k _ _ _ _ (by decide), u2_k _ _ _ _ (by decide), u2_s]) (by rw [u2_rown _ _ _ _ on29, u2_s]) (by rw [u2_k _ _ _ _ (by decide), u2_rown _ _ _ _ n4o, u2_rown _ _ _ _ n4o, u2_rown _ _ _ _ n4o, u2_rown _ _ _ _ n4o]; exact hp2.2.1.1) (u2_s _ _ _ _) (by rw [u2_rown _ _ _ _ n429, u2_rown _ _ _ _ n4o]; exact hp2.2.2.1) (u2_s _ _ _ _) (fun i hi => by rw [u2_k _ _ _ _ (show i ≠ (a 0 24).toInt.toNat from hi), u2_rown _ _ _ _ n29o]; exact hp2.2.2.2 i)
    rw [← nI_nat hsm.1.1, ← nI_nat hsm.2.1.1] at hk
    exact wp_iret C Z dX11_offer_72 (by decide) (by decide) ⟨by rw [if_pos c38], (hp.2.2.frc.pI (i := 0) (by decide) 5 0).tr hx2.frc, by unfold aOf; rw [if_pos c38]; exact hk⟩
  · have c38 : ¬ stOf a b e (rv p t f d u) mi en = 0 := fun z => c38 (by rw [z]; rfl)
    refine wp_iconst C (-1) dX11_offer_41 (by decide) ?_
    exact wp_iret C Z dX11_offer_42 (by decide) (by decide) ⟨by rw [if_neg c38], hp.2.2.frc.pI (by decide) 5 _, by unfold aOf; rw [if_neg c38]; exact hp.1.st _⟩
set_option maxRecDepth 100000 in
set_option maxHeartbeats 4000000 in
theorem c_state (l : Launch) {T : gSh} {I : gI} {J : gJ} {R : gR} {ca : Nat → Nat} {a : gI} {n : gJ} (hK : KA T I J R ca a n) (o mi : Int32) : Con l yX11_state wsX11_state ({ frames := 2, cells := 0, slots := 0, locals := 42 }) [.ref (ca 0), .int o, .int mi] T I J R (PQ T I J R ca (.int (vSt a o mi)) (u2 a 0 0 (nI (stAs a o mi))) n) := by
  refine Con.mk (cc := cX11_state) (maxL := 3) (ret := (some .int)) (by decide) rfl (Nat.le_of_ble_eq_true rfl) ?_
  intro E hE C Z hnm
  subst hE
  change WP E 3 0 0 T I J R 0 [(0, .ref (ca 0)), (1, .int o), (2, .int mi)] []
  obtain ⟨c, c60, e41, e24, e40, fa, rb, k5, k6⟩ := hK.2.2.2.2.2.2.2.2.1
  have q24 : (a 0 24).toInt = c := by rw [e24, nI_toInt (by omega)]
  refine wp_aload_n C 0 dX11_state_0 rfl rfl ?_
  refine wp_aload_n C 0 dX11_state_1 rfl rfl ?_
  refine wp_iload_n C 1 dX11_state_2 rfl rfl ?_
  refine wp_iload_n C 2 dX11_state_3 rfl rfl ?_
  refine wp_cVi C (As := [.int o, .int mi]) (rest := [.ref (ca 0)]) dX11_state_4 kX11_state_345 (hK.1.ob 0 (by decide) rfl) (c_statusOfAsking _ hK o mi) rfl (Nat.le_of_ble_eq_true rfl) (by decide) (by decide) ?_
  refine wp_putI C dX11_state_7 pX11_state_41 (fun h => nomatch h) (hK.1.ob 0 (by decide) rfl) ?_
  refine wp_aload_n C 0 dX11_state_10 rfl rfl ?_
  refine wp_getI C dX11_state_11 fX11_state_41 (hK.1.ob 0 (by decide) rfl) ?_
  refine wp_eqi (u2_s _ _ _ _) ?_
  refine wp_if_ne C 33 dX11_state_14 (by decide) (fun c14 => ?_) (fun c14 => ?_)
  · have c14 : ¬ stAs a o mi = 0 := fun z => c14 (by rw [z]; rfl)
    refine wp_iconst C (-1) dX11_state_33 (by decide) ?_
    exact wp_iret C Z dX11_state_34 (by decide) (by decide) ⟨by unfold vSt; rw [if_neg c14], (FrC.rf T I J R ca).pI (by decide) 5 _, hK.st _⟩
  · have c14 : stAs a o mi = 0 := by have hcv := p_eq c14; rw [nI_toInt (show stAs a o mi < 2 ^ 31 by have := stAs_le a o mi; omega)] at hcv; have hz0 : ((0 : Int32)).toInt = 0 := rfl; omega
    have hsu := stAs_ok c14
    refine wp_aload_n C 0 dX11_state_17 rfl rfl ?_
    refine wp_getR C dX11_state_18 fX11_state_33 (hK.1.ob 0 (by decide) rfl) (hK.1.rf 0 3 4 (by decide)) ?_
    refine wp_getR C dX11_state_21 fX11_state_324 (hK.1.ob 4 (by decide) rfl) (hK.1.rf 4 2 29 (by decide)) ?_
    refine wp_iload_n C 1 dX11_state_24 rfl rfl ?_
    refine wp_aald C RX5 dX11_state_25 (hK.1.ar 29 (by decide) rfl) (by decide) rfl (j := o.toInt.toNat) (nI_nat (by omega)) (by omega) (by decide) (k5 o.toInt.toNat (by omega)).1 ?_
    refine wp_iload_n C 2 dX11_state_26 rfl rfl ?_
    refine wp_cVi C (As := [.int mi]) (rest := []) dX11_state_27 kX11_state_348 (k5 o.toInt.toNat (by omega)).2.1 (c_markAt _ (k5 o.toInt.toNat (by omega)).2.1 (a := a) (i := o.toInt.toNat) (by rw [u2_rown _ _ _ _ (hK.1.nd (k5 o.toInt.toNat (by omega)).2.1 (by unfold dyn; omega) (by omega))]; exact (k5 o.toInt.toNat (by omega)).2.2.2.2.2.2.2.2.2.2) (by rw [u2_rown _ _ _ _ (hK.1.nd (k5 o.toInt.toNat (by omega)).2.1 (by unfold dyn; omega) (by omega))]; exact (k5 o.toInt.toNat (by omega)).2.2.2.2.2.2.2.2.2.1) mi) rfl (Nat.le_of_ble_eq_true rfl) (by decide) (by decide) ?_
    refine wp_goto C 34 dX11_state_30 (by decide) ?_
    exact wp_iret C Z dX11_state_34 (by decide) (by decide) ⟨by unfold vSt; rw [if_pos c14], (FrC.rf T I J R ca).pI (by decide) 5 _, hK.st _⟩
set_option maxRecDepth 100000 in
set_option maxHeartbeats 4000000 in
theorem c_statusOfTake (l : Launch) {T : gSh} {I : gI} {J : gJ} {R : gR} {ca : Nat → Nat} {a : gI} {n : gJ} (hK : KA T I J R ca a n) (o mi : Int32) : Con l yX11_statusOfTake wsX11_statusOfTake ({ frames := 6, cells := 0, slots := 0, locals := 134 }) [.ref (ca 0), .int o, .int mi] T I J R (gP (some (.int (nI (stTa a o mi)))) T I J R) := by
  refine Con.mk (cc := cX11_statusOfTake) (maxL := 5) (ret := (some .int)) (by decide) rfl (Nat.le_of_ble_eq_true rfl) ?_
  intro E hE C Z hnm
  subst hE
  change WP E 5 0 0 T I J R 0 [(0, .ref (ca 0)), (1, .int o), (2, .int mi)] []
  obtain ⟨c, c60, e41, e24, e40, fa, rb, k5, k6⟩ := hK.2.2.2.2.2.2.2.2.1
  have q24 : (a 0 24).toInt = c := by rw [e24, nI_toInt (by omega)]
  have kg := hK.2.2.2.2.2.2.1.ar
  have hsl := stAs_le a o mi
  have hml := mbN_le a (a 40 o.toInt.toNat) (a 41 o.toInt.toNat) (ov a o.toInt.toNat) mi
  refine wp_aload_n C 0 dX11_statusOfTake_0 rfl rfl ?_
  refine wp_iload_n C 1 dX11_statusOfTake_1 rfl rfl ?_
  refine wp_iload_n C 2 dX11_statusOfTake_2 rfl rfl ?_
  refine wp_cVi C (As := [.int o, .int mi]) (rest := []) dX11_statusOfTake_3 kX11_statusOfTake_345 (hK.1.ob 0 (by decide) rfl) (c_statusOfAsking _ hK o mi) rfl (Nat.le_of_ble_eq_true rfl) (by decide) (by decide) ?_
  refine wp_istore_n C [(3, .int (nI (stAs a o mi))), (0, .ref (ca 0)), (1, .int o), (2, .int mi)] dX11_statusOfTake_6 rfl (by decide) rfl ?_
  refine wp_iload_n C 0 dX11_statusOfTake_7 rfl rfl ?_
  refine wp_if_eq C 13 dX11_statusOfTake_8 (by decide) (fun c8 => ?_) (fun c8 => ?_)
  · have c8 : ((stAs a o mi : Nat) : Int) = 0 := by have hcv := p_eq c8; rw [nI_toInt (show stAs a o mi < 2 ^ 31 by omega)] at hcv; exact hcv
    have hsu := stAs_ok (show stAs a o mi = 0 by omega)
    refine wp_aload_n C 1 dX11_statusOfTake_13 rfl rfl ?_
    refine wp_getR C dX11_statusOfTake_14 fX11_statusOfTake_33 (hK.1.ob 0 (by decide) rfl) (hK.1.rf 0 3 4 (by decide)) ?_
    refine wp_getR C dX11_statusOfTake_17 fX11_statusOfTake_324 (hK.1.ob 4 (by decide) rfl) (hK.1.rf 4 2 29 (by decide)) ?_
    refine wp_iload_n C 2 dX11_statusOfTake_20 rfl rfl ?_
    refine wp_aald C RX5 dX11_statusOfTake_21 (hK.1.ar 29 (by decide) rfl) (by decide) rfl (j := o.toInt.toNat) (nI_nat (by omega)) (by omega) (by decide) (k5 o.toInt.toNat (by omega)).1 ?_
    refine wp_astore C [(4, .ref (fa o.toInt.toNat)), (3, .int (nI (stAs a o mi))), (0, .ref (ca 0)), (1, .int o), (2, .int mi)] dX11_statusOfTake_22 (by decide) rfl ?_
    refine wp_aload C 0 dX11_statusOfTake_24 rfl ?_
    refine wp_iload_n C 4 dX11_statusOfTake_26 rfl rfl ?_
    refine wp_cVi C (As := [.int mi]) (rest := []) dX11_statusOfTake_27 kX11_statusOfTake_348 (k5 o.toInt.toNat (by omega)).2.1 (c_markAt _ (k5 o.toInt.toNat (by omega)).2.1 (a := a) (i := o.toInt.toNat) (k5 o.toInt.toNat (by omega)).2.2.2.2.2.2.2.2.2.2 (k5 o.toInt.toNat (by omega)).2.2.2.2.2.2.2.2.2.1 mi) rfl (Nat.le_of_ble_eq_true rfl) (by decide) (by decide) ?_
    refine wp_if_eq C 36 dX11_statusOfTake_30 (by decide) (fun c30 => ?_) (fun c30 => ?_)
    · have c30 : (mkN a mi o.toInt.toNat).toInt = 0 := by have hcv := p_eq c30; exact hcv
      refine wp_aload_n C 2 dX11_statusOfTake_36 rfl rfl ?_
      refine wp_getR C dX11_statusOfTake_37 fX11_statusOfTake_26 (hK.1.ob 0 (by decide) rfl) (hK.1.rf 0 2 3 (by decide)) ?_
      refine wp_getI C dX11_statusOfTake_40 fX11_statusOfTake_196 (hK.1.ob 3 (by decide) rfl) ?_
      refine wp_eqi kg.1 ?_
      refine wp_bipush C 60 dX11_statusOfTake_43 (by decide) ?_
      refine wp_icmp_lt C 51 dX11_statusOfTake_45 (by decide) (fun c45 => ?_) (fun c45 => ?_)
      · have c45 : (a 0 22).toInt < 60 := by have hcv := p_lt c45; exact hcv
        refine wp_aload_n C 2 dX11_statusOfTake_51 rfl rfl ?_
        refine wp_getR C dX11_statusOfTake_52 fX11_statusOfTake_26 (hK.1.ob 0 (by decide) rfl) (hK.1.rf 0 2 3 (by decide)) ?_
        refine wp_aload C 0 dX11_statusOfTake_55 rfl ?_
        refine wp_getI C dX11_statusOfTake_57 fX11_statusOfTake_328 (k5 o.toInt.toNat (by omega)).2.1 ?_
        refine wp_eqi (k5 o.toInt.toNat (by omega)).2.2.2.2.2.1 ?_
        refine wp_aload C 0 dX11_statusOfTake_60 rfl ?_
        refine wp_getI C dX11_statusOfTake_62 fX11_statusOfTake_331 (k5 o.toInt.toNat (by omega)).2.1 ?_
        refine wp_eqi (k5 o.toInt.toNat (by omega)).2.2.2.2.2.2.1 ?_
        refine wp_aload C 0 dX11_statusOfTake_65 rfl ?_
        refine wp_getR C dX11_statusOfTake_67 fX11_statusOfTake_334 (k5 o.toInt.toNat (by omega)).2.1 (k5 o.toInt.toNat (by omega)).2.2.1 ?_
        refine wp_iload_n C 4 dX11_statusOfTake_70 rfl rfl ?_
        obtain ⟨x, x12, ex⟩ := (k5 o.toInt.toNat (by omega)).2.2.2.2.2.2.2.1
        obtain ⟨y, y10, ey⟩ := (k5 o.toInt.toNat (by omega)).2.2.2.2.2.2.2.2.1
        refine wp_cVi C (As := [.int (a 40 o.toInt.toNat), .int (a 41 o.toInt.toNat), .ref (rb o.toInt.toNat), .int mi]) (rest := []) dX11_statusOfTake_71 kX11_statusOfTake_265 (hK.1.ob 3 (by decide) rfl) (c_mayBeOffered _ hK (b := a 40 o.toInt.toNat) (e := a 41 o.toInt.toNat) (by rw [ex, nI_toInt (by omega)]; omega) (by rw [ey, nI_toInt (by omega)]; omega) (k5 o.toInt.toNat (by omega)).2.2.2.1 (k5 o.toInt.toNat (by omega)).2.2.2.2.1.b mi) rfl (Nat.le_of_ble_eq_true rfl) (by decide) (by decide) ?_
        refine wp_if_eq C 81 dX11_statusOfTake_74 (by decide) (fun c74 => ?_) (fun c74 => ?_)
        · have c74 : ((mbN a (a 40 o.toInt.toNat) (a 41 o.toInt.toNat) (ov a o.toInt.toNat) mi : Nat) : Int) = 0 := by have hcv := p_eq c74; rw [nI_toInt (show mbN a (a 40 o.toInt.toNat) (a 41 o.toInt.toNat) (ov a o.toInt.toNat) mi < 2 ^ 31 by omega)] at hcv; exact hcv
          refine wp_bipush C 12 dX11_statusOfTake_81 (by decide) ?_
          exact wp_iret C Z dX11_statusOfTake_83 (by decide) (by decide) (by rw [show stTa a o mi = 12 from by simp only [stTa]; (repeat' split) <;> omega]; exact gP_rf)
        · have c74 : ¬ ((mbN a (a 40 o.toInt.toNat) (a 41 o.toInt.toNat) (ov a o.toInt.toNat) mi : Nat) : Int) = 0 := by have hcv := n_eq c74; rw [nI_toInt (show mbN a (a 40 o.toInt.toNat) (a 41 o.toInt.toNat) (ov a o.toInt.toNat) mi < 2 ^ 31 by omega)] at hcv; exact hcv
          refine wp_iconst C 0 dX11_statusOfTake_77 (by decide) ?_
          refine wp_goto C 83 dX11_statusOfTake_78 (by decide) ?_
          exact wp_iret C Z dX11_statusOfTake_83 (by decide) (by decide) (by rw [show stTa a o mi = 0 from by simp only [stTa]; (repeat' split) <;> omega]; exact gP_rf)
      · have c45 : ¬ (a 0 22).toInt < 60 := by have hcv := n_lt c45; exact hcv
        refine wp_bipush C 7 dX11_statusOfTake_48 (by decide) ?_
        exact wp_iret C Z dX11_statusOfTake_50 (by decide) (by decide) (by rw [show stTa a o mi = 7 from by simp only [stTa]; (repeat' split) <;> omega]; exact gP_rf)
    · have c30 : ¬ (mkN a mi o.toInt.toNat).toInt = 0 := by have hcv := n_eq c30; exact hcv
      refine wp_bipush C 13 dX11_statusOfTake_33 (by decide) ?_
      exact wp_iret C Z dX11_statusOfTake_35 (by decide) (by decide) (by rw [show stTa a o mi = 13 from by simp only [stTa]; (repeat' split) <;> omega]; exact gP_rf)
  · have c8 : ¬ ((stAs a o mi : Nat) : Int) = 0 := by have hcv := n_eq c8; rw [nI_toInt (show stAs a o mi < 2 ^ 31 by omega)] at hcv; exact hcv
    refine wp_iload_n C 0 dX11_statusOfTake_11 rfl rfl ?_
    exact wp_iret C Z dX11_statusOfTake_12 (by decide) (by decide) (by rw [show stTa a o mi = stAs a o mi from by simp only [stTa]; rw [if_neg (by omega)]]; exact gP_rf)
