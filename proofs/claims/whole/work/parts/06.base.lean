/-! ===== ends of contracts, calls by them, the fixed cells of the two systems ===== -/
/-- a method whose end is told outright -/
def gP (r : Option Value) (T : gSh) (I : gI) (J : gJ) (R : gR) : gPost := fun r' T' I' J' R' => r' = r ∧ T' = T ∧ I' = I ∧ J' = J ∧ R' = R
theorem gP_rf {r : Option Value} {T : gSh} {I : gI} {J : gJ} {R : gR} : gP r T I J R r T I J R := ⟨rfl, rfl, rfl, rfl, rfl⟩
theorem Con.weaken {l : Launch} {y : MethodName} {ws : List Cond} {rm : Room} {av : List Value} {T : gSh} {I : gI} {J : gJ} {R : gR} {P P' : gPost} (h : Con l y ws rm av T I J R P) (hi : ∀ v T' I' J' R', P v T' I' J' R' → P' v T' I' J' R') : Con l y ws rm av T I J R P' := by
  intro D cy sz p e ha hc hk s m args below hf hap hpre htr
  obtain ⟨n, o, h1, h2, h3, ⟨⟨v, T', I', J', R', ho, hp, hP, hD⟩, hF⟩, hL⟩ := h D cy sz p e ha hc hk s m args below hf hap hpre htr
  exact ⟨n, o, h1, h2, h3, ⟨⟨v, T', I', J', R', ho, hi _ _ _ _ _ hp, hP, hD⟩, hF⟩, hL⟩
section WPD
variable {E : gEnv} {cc : ByteArray} {own : String} {Ts : List Cond} {nL : Nat} {rm : Room} {cells slots : Nat} {T T2 : gSh} {I I2 : gI} {J J2 : gJ} {R R2 : gR} {pc : Nat} {lv : List (Nat × Value)} {st : List Value} {idx ci b maxL : Nat} {y : MethodName} {ws : List Cond} {rmc : Room} {As rest : List Value} {ret : Option FieldType} {host : String}
theorem wp_cVi (C : Cx E cc own Ts nL rm) {v : Int32} (hd : decode cc pc = .ok (.invokevirtual idx, 3)) (f : CV Ts own idx ci y ws maxL As.length) (ho : OB T b ci) (hc : Con E.1.2.1 y ws rmc (.ref b :: As) T I J R (gP (some (.int v)) T2 I2 J2 R2)) (hst : st = As.reverse ++ .ref b :: rest) (hrs : (rest.map fun v => v.category).sum ≤ 8) (hR : rmc.frames + 1 ≤ rm.frames ∧ 8 + (maxL + 11) + rmc.locals ≤ rm.locals) (hf : cells + rmc.cells ≤ rm.cells ∧ slots + rmc.slots ≤ rm.slots) (kk : WP E nL (cells + rmc.cells) (slots + rmc.slots) T2 I2 J2 R2 (pc + 3) lv (.int v :: rest)) : WP E nL cells slots T I J R pc lv st := by
  refine wp_callV C hd f ho hc hst hrs hR hf ?_
  rintro _ _ _ _ _ ⟨rfl, rfl, rfl, rfl, rfl⟩
  exact kk
theorem wp_cVl (C : Cx E cc own Ts nL rm) {v : Int64} (hd : decode cc pc = .ok (.invokevirtual idx, 3)) (f : CV Ts own idx ci y ws maxL As.length) (ho : OB T b ci) (hc : Con E.1.2.1 y ws rmc (.ref b :: As) T I J R (gP (some (.long v)) T2 I2 J2 R2)) (hst : st = As.reverse ++ .ref b :: rest) (hrs : (rest.map fun v => v.category).sum ≤ 8) (hR : rmc.frames + 1 ≤ rm.frames ∧ 8 + (maxL + 11) + rmc.locals ≤ rm.locals) (hf : cells + rmc.cells ≤ rm.cells ∧ slots + rmc.slots ≤ rm.slots) (kk : WP E nL (cells + rmc.cells) (slots + rmc.slots) T2 I2 J2 R2 (pc + 3) lv (.long v :: rest)) : WP E nL cells slots T I J R pc lv st := by
  refine wp_callV C hd f ho hc hst hrs hR hf ?_
  rintro _ _ _ _ _ ⟨rfl, rfl, rfl, rfl, rfl⟩
  exact kk
theorem wp_cVv (C : Cx E cc own Ts nL rm) (hd : decode cc pc = .ok (.invokevirtual idx, 3)) (f : CV Ts own idx ci y ws maxL As.length) (ho : OB T b ci) (hc : Con E.1.2.1 y ws rmc (.ref b :: As) T I J R (gP none T2 I2 J2 R2)) (hst : st = As.reverse ++ .ref b :: rest) (hrs : (rest.map fun v => v.category).sum ≤ 8) (hR : rmc.frames + 1 ≤ rm.frames ∧ 8 + (maxL + 11) + rmc.locals ≤ rm.locals) (hf : cells + rmc.cells ≤ rm.cells ∧ slots + rmc.slots ≤ rm.slots) (kk : WP E nL (cells + rmc.cells) (slots + rmc.slots) T2 I2 J2 R2 (pc + 3) lv rest) : WP E nL cells slots T I J R pc lv st := by
  refine wp_callV C hd f ho hc hst hrs hR hf ?_
  rintro _ _ _ _ _ ⟨rfl, rfl, rfl, rfl, rfl⟩
  exact kk
theorem wp_cSi (C : Cx E cc own Ts nL rm) {v : Int32} (hd : decode cc pc = .ok (.invokestatic idx, 3)) (f : CS Ts own idx y ws maxL As.length) (hc : Con E.1.2.1 y ws rmc As T I J R (gP (some (.int v)) T2 I2 J2 R2)) (hst : st = As.reverse ++ rest) (hrs : (rest.map fun v => v.category).sum ≤ 8) (hR : rmc.frames + 1 ≤ rm.frames ∧ 8 + (maxL + 11) + rmc.locals ≤ rm.locals) (hf : cells + rmc.cells ≤ rm.cells ∧ slots + rmc.slots ≤ rm.slots) (kk : WP E nL (cells + rmc.cells) (slots + rmc.slots) T2 I2 J2 R2 (pc + 3) lv (.int v :: rest)) : WP E nL cells slots T I J R pc lv st := by
  refine wp_callS C hd f hc hst hrs hR hf ?_
  rintro _ _ _ _ _ ⟨rfl, rfl, rfl, rfl, rfl⟩
  exact kk
theorem wp_cSl (C : Cx E cc own Ts nL rm) {v : Int64} (hd : decode cc pc = .ok (.invokestatic idx, 3)) (f : CS Ts own idx y ws maxL As.length) (hc : Con E.1.2.1 y ws rmc As T I J R (gP (some (.long v)) T2 I2 J2 R2)) (hst : st = As.reverse ++ rest) (hrs : (rest.map fun v => v.category).sum ≤ 8) (hR : rmc.frames + 1 ≤ rm.frames ∧ 8 + (maxL + 11) + rmc.locals ≤ rm.locals) (hf : cells + rmc.cells ≤ rm.cells ∧ slots + rmc.slots ≤ rm.slots) (kk : WP E nL (cells + rmc.cells) (slots + rmc.slots) T2 I2 J2 R2 (pc + 3) lv (.long v :: rest)) : WP E nL cells slots T I J R pc lv st := by
  refine wp_callS C hd f hc hst hrs hR hf ?_
  rintro _ _ _ _ _ ⟨rfl, rfl, rfl, rfl, rfl⟩
  exact kk
theorem wp_cSv (C : Cx E cc own Ts nL rm) (hd : decode cc pc = .ok (.invokestatic idx, 3)) (f : CS Ts own idx y ws maxL As.length) (hc : Con E.1.2.1 y ws rmc As T I J R (gP none T2 I2 J2 R2)) (hst : st = As.reverse ++ rest) (hrs : (rest.map fun v => v.category).sum ≤ 8) (hR : rmc.frames + 1 ≤ rm.frames ∧ 8 + (maxL + 11) + rmc.locals ≤ rm.locals) (hf : cells + rmc.cells ≤ rm.cells ∧ slots + rmc.slots ≤ rm.slots) (kk : WP E nL (cells + rmc.cells) (slots + rmc.slots) T2 I2 J2 R2 (pc + 3) lv rest) : WP E nL cells slots T I J R pc lv st := by
  refine wp_callS C hd f hc hst hrs hR hf ?_
  rintro _ _ _ _ _ ⟨rfl, rfl, rfl, rfl, rfl⟩
  exact kk
theorem wp_cSNi (C : Cx E cc own Ts nL rm) {v : Int32} (hd : decode cc pc = .ok (.invokestatic idx, 3)) (f : CN Ts y ws ret maxL As.length) (hnw : va_Nw (.methodLinkNest own idx y host) E.1.2.2.2.2) (hsm : Cond.static y ∈ Ts) (hc : Con E.1.2.1 y ws rmc As T I J R (gP (some (.int v)) T2 I2 J2 R2)) (hst : st = As.reverse ++ rest) (hrs : (rest.map fun v => v.category).sum ≤ 8) (hR : rmc.frames + 1 ≤ rm.frames ∧ 8 + (maxL + 11) + rmc.locals ≤ rm.locals) (hf : cells + rmc.cells ≤ rm.cells ∧ slots + rmc.slots ≤ rm.slots) (kk : WP E nL (cells + rmc.cells) (slots + rmc.slots) T2 I2 J2 R2 (pc + 3) lv (.int v :: rest)) : WP E nL cells slots T I J R pc lv st := by
  refine wp_callSN C hd f hnw hsm hc hst hrs hR hf ?_
  rintro _ _ _ _ _ ⟨rfl, rfl, rfl, rfl, rfl⟩
  exact kk
theorem wp_cIv (C : Cx E cc own Ts nL rm) (hd : decode cc pc = .ok (.invokespecial idx, 3)) (f : CI Ts own idx y ws maxL As.length) (hc : Con E.1.2.1 y ws rmc (.ref b :: As) T I J R (gP none T2 I2 J2 R2)) (hst : st = As.reverse ++ .ref b :: rest) (hrs : (rest.map fun v => v.category).sum ≤ 8) (hR : rmc.frames + 1 ≤ rm.frames ∧ 8 + (maxL + 11) + rmc.locals ≤ rm.locals) (hf : cells + rmc.cells ≤ rm.cells ∧ slots + rmc.slots ≤ rm.slots) (kk : WP E nL (cells + rmc.cells) (slots + rmc.slots) T2 I2 J2 R2 (pc + 3) lv rest) : WP E nL cells slots T I J R pc lv st := by
  refine wp_callI C hd f hc hst hrs hR hf ?_
  rintro _ _ _ _ _ ⟨rfl, rfl, rfl, rfl, rfl⟩
  exact kk
end WPD
theorem OB.ne {T : gSh} {a b ci cj : Nat} (ha : OB T a ci) (hb : OB T b cj) (h : ci ≠ cj) : a ≠ b := by
  rintro rfl; exact h (ha.2.symm.trans hb.2)
theorem OB.neA {T : gSh} {a b ci kd n : Nat} (ha : OB T a ci) (hb : AR T b kd n) (h : ci ≠ kd) : a ≠ b := by
  rintro rfl; exact h (ha.2.symm.trans hb.2.1)
theorem AR.neO {T : gSh} {a b ci kd n : Nat} (hb : AR T b kd n) (ha : OB T a ci) (h : ci ≠ kd) : b ≠ a := by
  rintro rfl; exact h (ha.2.symm.trans hb.2.1)
theorem OB.push {T : gSh} {a ci q kd n : Nat} (h : OB T a ci) (hq : q ∉ T.1) : OB (T.1 ++ [q], va_up T.2.1 q kd, va_up T.2.2 q n) a ci := by
  have hne : a ≠ q := fun e => hq (e ▸ h.1)
  exact ⟨List.mem_append_left _ h.1, by show va_up T.2.1 q kd a = ci; rw [va_up_ne _ _ hne]; exact h.2⟩
theorem AR.push {T : gSh} {a k m q kd n : Nat} (h : AR T a k m) (hq : q ∉ T.1) : AR (T.1 ++ [q], va_up T.2.1 q kd, va_up T.2.2 q n) a k m := by
  have hne : a ≠ q := fun e => hq (e ▸ h.1)
  exact ⟨List.mem_append_left _ h.1, by show va_up T.2.1 q kd a = k; rw [va_up_ne _ _ hne]; exact h.2.1, by show va_up T.2.2 q n a = m; rw [va_up_ne _ _ hne]; exact h.2.2⟩
theorem OB.new {T : gSh} {q kd n : Nat} : OB (T.1 ++ [q], va_up T.2.1 q kd, va_up T.2.2 q n) q kd := ⟨List.mem_append_right _ (by simp), by show va_up T.2.1 q kd q = kd; rw [va_up_self]⟩
theorem AR.new {T : gSh} {q kd n : Nat} : AR (T.1 ++ [q], va_up T.2.1 q kd, va_up T.2.2 q n) q kd n := ⟨List.mem_append_right _ (by simp), by show va_up T.2.1 q kd q = kd; rw [va_up_self], by show va_up T.2.2 q n q = n; rw [va_up_self]⟩
/-- the fixed cells of the system under test: 0 itself, 1 trays, 2 meetings, 3 books, 4 offers, 5 to 8 the trays, 9 to 12 their numbers, 13 worths, 14 the best set, 15 the timetable, 16 chosen, 17 worths told, 18 meetingsOf, 19 highGains, 20 lowGains, 21 before, 22 bettered, 23 editorsOfAgents, 24 agentsOfEditors, 25 secrets, 26 lists, 27 grants, 28 options, 29 rows; their kinds and lengths -/
def cK : List (Nat × Nat) := [(11, 0), (19, 4), (4, 0), (2, 0), (6, 0), (10, 0), (10, 0), (10, 0), (10, 0), (14, 40), (14, 40), (14, 40), (14, 40), (13, 80), (1, 0), (9, 0), (15, 80), (13, 80), (13, 18), (14, 19), (14, 19), (13, 19), (15, 19), (13, 64), (13, 80), (15, 12), (15, 120), (16, 60), (18, 30), (17, 60)]
def cRf : List (Nat × Nat × Nat) := [(0, 0, 1), (0, 1, 2), (0, 2, 3), (0, 3, 4), (1, 0, 5), (1, 1, 6), (1, 2, 7), (1, 3, 8), (5, 3, 9), (6, 3, 10), (7, 3, 11), (8, 3, 12), (2, 3, 13), (2, 4, 14), (2, 5, 15), (14, 1, 16), (14, 2, 17), (14, 3, 18), (14, 4, 19), (14, 5, 20), (14, 6, 21), (14, 7, 22), (15, 1, 23), (15, 2, 24), (3, 1, 25), (3, 2, 26), (3, 4, 27), (3, 6, 28), (4, 2, 29)]
def CO (T : gSh) (R : gR) (ca : Nat → Nat) : Prop := (∀ i, i < 30 → ca i ∈ T.1 ∧ T.2.1 (ca i) = (cK.getD i (0, 0)).1 ∧ T.2.2 (ca i) = (cK.getD i (0, 0)).2) ∧ (∀ x ∈ cRf, R (ca x.1) x.2.1 = some (ca x.2.2)) ∧ (∀ i j, i < 30 → j < 30 → ca i = ca j → i = j)
section COs
variable {T : gSh} {R : gR} {ca : Nat → Nat}
theorem CO.ob (h : CO T R ca) (i : Nat) {ci : Nat} (hi : i < 30) (hk : (cK.getD i (0, 0)).1 = ci) : OB T (ca i) ci := ⟨(h.1 i hi).1, (h.1 i hi).2.1.trans hk⟩
theorem CO.ar (h : CO T R ca) (i : Nat) {kd n : Nat} (hi : i < 30) (hk : cK.getD i (0, 0) = (kd, n)) : AR T (ca i) kd n := ⟨(h.1 i hi).1, (h.1 i hi).2.1.trans (by rw [hk]), (h.1 i hi).2.2.trans (by rw [hk])⟩
theorem CO.rf (h : CO T R ca) (i k j : Nat) (hm : (i, k, j) ∈ cRf) : R (ca i) k = some (ca j) := h.2.1 (i, k, j) hm
theorem CO.ne (h : CO T R ca) (i j : Nat) (hi : i < 30) (hj : j < 30) (hn : i ≠ j) : ca i ≠ ca j := fun e => hn (h.2.2 i j hi hj e)
theorem CO.tray (h : CO T R ca) {t : Nat} (ht : t < 4) : R (ca 1) t = some (ca (5 + t)) := by
  have : t = 0 ∨ t = 1 ∨ t = 2 ∨ t = 3 := by omega
  rcases this with rfl | rfl | rfl | rfl
  · exact h.rf 1 0 5 (by decide)
  · exact h.rf 1 1 6 (by decide)
  · exact h.rf 1 2 7 (by decide)
  · exact h.rf 1 3 8 (by decide)
theorem CO.tob (h : CO T R ca) {t : Nat} (ht : t < 4) : OB T (ca (5 + t)) 10 := by
  have : t = 0 ∨ t = 1 ∨ t = 2 ∨ t = 3 := by omega
  rcases this with rfl | rfl | rfl | rfl <;> exact h.ob _ (by decide) rfl
theorem CO.tnum (h : CO T R ca) {t : Nat} (ht : t < 4) : R (ca (5 + t)) 3 = some (ca (9 + t)) := by
  have : t = 0 ∨ t = 1 ∨ t = 2 ∨ t = 3 := by omega
  rcases this with rfl | rfl | rfl | rfl
  · exact h.rf 5 3 9 (by decide)
  · exact h.rf 6 3 10 (by decide)
  · exact h.rf 7 3 11 (by decide)
  · exact h.rf 8 3 12 (by decide)
theorem CO.tar (h : CO T R ca) {t : Nat} (ht : t < 4) : AR T (ca (9 + t)) 14 40 := by
  have : t = 0 ∨ t = 1 ∨ t = 2 ∨ t = 3 := by omega
  rcases this with rfl | rfl | rfl | rfl <;> exact h.ar _ (by decide) rfl
theorem CO.push (h : CO T R ca) {q kd n : Nat} {f : Nat → Option Nat} (hq : q ∉ T.1) : CO (T.1 ++ [q], va_up T.2.1 q kd, va_up T.2.2 q n) (va_up R q f) ca := by
  have hne : ∀ i, i < 30 → ca i ≠ q := fun i hi e => hq (e ▸ (h.1 i hi).1)
  refine ⟨fun i hi => ⟨List.mem_append_left _ (h.1 i hi).1, ?_, ?_⟩, fun x hx => ?_, h.2.2⟩
  · show va_up T.2.1 q kd (ca i) = _; rw [va_up_ne _ _ (hne i hi)]; exact (h.1 i hi).2.1
  · show va_up T.2.2 q n (ca i) = _; rw [va_up_ne _ _ (hne i hi)]; exact (h.1 i hi).2.2
  · have h30 : x.1 < 30 := by
      have : ∀ x ∈ cRf, x.1 < 30 := by decide
      exact this x hx
    rw [va_up_ne _ _ (hne x.1 h30)]; exact h.2.1 x hx
/-- a reference put elsewhere -/
theorem CO.put (h : CO T R ca) {a k : Nat} {v : Option Nat} (hn : ∀ x ∈ cRf, ca x.1 = a → x.2.1 ≠ k) : CO T (u2 R a k v) ca := by
  refine ⟨h.1, fun x hx => ?_, h.2.2⟩
  by_cases e : ca x.1 = a
  · rw [u2_k _ _ _ _ (hn x hx e)]; exact h.2.1 x hx
  · rw [u2_a _ _ _ _ e]; exact h.2.1 x hx
end COs
/-- the reference: the kinds and lengths of its arrays, by field -/
def mK : List (Nat × Nat) := [(0, 0), (0, 0), (0, 0), (0, 0), (13, 4), (13, 4), (14, 160), (0, 0), (0, 0), (0, 0), (13, 80), (13, 80), (15, 80), (13, 8), (13, 10), (13, 18), (13, 18), (13, 64), (13, 80), (13, 80), (13, 80), (0, 0), (0, 0), (0, 0), (0, 0), (0, 0), (15, 12), (15, 120), (13, 60), (13, 60), (13, 60), (13, 60), (13, 60), (13, 60), (13, 60), (13, 60), (13, 30), (13, 30), (13, 30), (13, 30), (13, 60), (13, 60), (13, 60), (13, 60), (13, 60), (13, 60), (13, 60), (13, 60), (13, 60), (0, 0), (0, 0), (0, 0), (0, 0), (15, 10)]
def mA (k : Nat) : Bool := decide (k < 54) && decide (0 < (mK.getD k (0, 0)).1)
def MO (T : gSh) (R : gR) (m : Nat) (ad : Nat → Nat) : Prop := OB T m 12 ∧ (∀ k, mA k = true → R m k = some (ad k) ∧ AR T (ad k) (mK.getD k (0, 0)).1 (mK.getD k (0, 0)).2) ∧ (∀ j k, mA j = true → mA k = true → ad j = ad k → j = k)
section MOs
variable {T : gSh} {R : gR} {m : Nat} {ad : Nat → Nat}
theorem MO.ob (h : MO T R m ad) : OB T m 12 := h.1
theorem MO.rf (h : MO T R m ad) (k : Nat) (hk : mA k = true) : R m k = some (ad k) := (h.2.1 k hk).1
theorem MO.ar (h : MO T R m ad) (k : Nat) {kd n : Nat} (hk : mA k = true) (hm : mK.getD k (0, 0) = (kd, n)) : AR T (ad k) kd n := by
  have := (h.2.1 k hk).2
  rw [hm] at this; exact this
theorem MO.ne (h : MO T R m ad) (j k : Nat) (hj : mA j = true) (hk : mA k = true) (hn : j ≠ k) : ad j ≠ ad k := fun e => hn (h.2.2 j k hj hk e)
theorem MO.nm (h : MO T R m ad) (k : Nat) (hk : mA k = true) : ad k ≠ m := by
  have h1 := (h.2.1 k hk).2
  have h2 := h.1
  intro e
  have h3 : T.2.1 (ad k) = 12 := by rw [e]; exact h2.2
  rw [h1.2.1] at h3
  have : ∀ k, k < 54 → 0 < (mK.getD k (0, 0)).1 → (mK.getD k (0, 0)).1 ≠ 12 := by decide
  simp only [mA, Bool.and_eq_true, decide_eq_true_eq] at hk
  exact this k hk.1 hk.2 h3
end MOs
