/-! ===== rights and grants: the objects ===== -/
def pc8 (x : Nat) : Nat := x % 2 + x / 2 % 2 + x / 4 % 2 + x / 8 % 2 + x / 16 % 2 + x / 32 % 2 + x / 64 % 2 + x / 128 % 2
/-- how many bits -/
def pcI (x : Int32) : Nat := pc8 x.toInt.toNat
def bcs1 (z : Int32) : Int32 := z - (((z.toUInt32 >>> ((1 : Int32).toUInt32 &&& Int32.toUInt32 31)).toInt32) &&& 1431655765)
def bc1 (x : Int32) : Int32 := bcs1 x
def bcs2 (z : Int32) : Int32 := (z &&& 858993459) + (((z.toUInt32 >>> ((2 : Int32).toUInt32 &&& Int32.toUInt32 31)).toInt32) &&& 858993459)
def bc2 (x : Int32) : Int32 := bcs2 (bc1 x)
def bcs3 (z : Int32) : Int32 := (z + ((z.toUInt32 >>> ((4 : Int32).toUInt32 &&& Int32.toUInt32 31)).toInt32)) &&& 252645135
def bc3 (x : Int32) : Int32 := bcs3 (bc2 x)
def bcs4 (z : Int32) : Int32 := z + ((z.toUInt32 >>> ((8 : Int32).toUInt32 &&& Int32.toUInt32 31)).toInt32)
def bc4 (x : Int32) : Int32 := bcs4 (bc3 x)
def bcs5 (z : Int32) : Int32 := z + ((z.toUInt32 >>> ((16 : Int32).toUInt32 &&& Int32.toUInt32 31)).toInt32)
def bc5 (x : Int32) : Int32 := bcs5 (bc4 x)
theorem bc_all : ∀ k, k < 256 → (bc5 (nI k)) &&& 63 = nI (pc8 k) := by decide +kernel
theorem bc_pc {x : Int32} (hx : 0 ≤ x.toInt ∧ x.toInt ≤ 255) : (bc5 x) &&& 63 = nI (pcI x) := by
  have h := bc_all x.toInt.toNat (by omega)
  rw [← nI_nat hx.1] at h
  exact h
theorem pc8_all : ∀ k, k < 256 → (pc8 k = 0 ↔ k = 0) ∧ pc8 k ≤ 8 ∧ (k < 16 → pc8 k ≤ 4) := by decide +kernel
theorem nI_and (x y : Nat) : nI x &&& nI y = nI (x &&& y) := by
  apply Int32.toBitVec_inj.mp
  show BitVec.ofNat 32 x &&& BitVec.ofNat 32 y = BitVec.ofNat 32 (x &&& y)
  exact BitVec.ofNat_and.symm
theorem and_bd {x y : Int32} (hx : 0 ≤ x.toInt) (hy : 0 ≤ y.toInt) : 0 ≤ (x &&& y).toInt ∧ (x &&& y).toInt ≤ x.toInt ∧ (x &&& y).toInt ≤ y.toInt ∧ (x &&& y).toInt.toNat = x.toInt.toNat &&& y.toInt.toNat := by
  obtain ⟨u, hu, rfl⟩ := natOf hx
  obtain ⟨v, hv, rfl⟩ := natOf hy
  have b1 := i_bd (nI u)
  have h1 : u &&& v ≤ u := Nat.and_le_left
  have h2 : u &&& v ≤ v := Nat.and_le_right
  rw [nI_and, nI_toInt (show u &&& v < 2 ^ 31 by omega), ← hu, ← hv]
  refine ⟨by omega, by omega, by omega, rfl⟩
theorem pcI_0 {x : Int32} (hx : 0 ≤ x.toInt ∧ x.toInt ≤ 255) : (pcI x = 0 ↔ x = 0) ∧ pcI x ≤ 8 ∧ (x.toInt ≤ 15 → pcI x ≤ 4) := by
  have h := pc8_all x.toInt.toNat (by omega)
  refine ⟨?_, h.2.1, fun z => h.2.2 (by omega)⟩
  unfold pcI
  rw [h.1]
  exact ⟨fun z => (i_eq _ _).mpr (by show x.toInt = 0; omega), fun z => by rw [z]; rfl⟩
/-- the numbers of some rights, in their order -/
def rv (l t f d u : Int32) : Nat → Int32 := fun k => if k = 0 then l else if k = 1 then t else if k = 2 then f else if k = 3 then d else u
/-- 1 if they can be -/
def can (v : Nat → Int32) : Nat := if (1 ≤ (v 0).toInt ∧ (v 0).toInt ≤ 255) ∧ (1 ≤ (v 1).toInt ∧ (v 1).toInt ≤ 15) ∧ (1 ≤ (v 2).toInt ∧ (v 2).toInt ≤ 15) ∧ (0 ≤ (v 3).toInt ∧ (v 3).toInt ≤ 9999) ∧ (0 ≤ (v 4).toInt ∧ (v 4).toInt ≤ 9999) ∧ (v 3).toInt ≤ (v 4).toInt then 1 else 0
theorem can_le (v : Nat → Int32) : can v ≤ 1 := by simp only [can]; split <;> omega
theorem can_1 {v : Nat → Int32} (h : can v = 1) : vR v := by
  unfold can at h
  split at h
  · next z => exact z
  · omega
/-- bits that can be -/
def vB (v : Nat → Int32) : Prop := (0 ≤ (v 0).toInt ∧ (v 0).toInt ≤ 255) ∧ (0 ≤ (v 1).toInt ∧ (v 1).toInt ≤ 15) ∧ (0 ≤ (v 2).toInt ∧ (v 2).toInt ≤ 15)
theorem vR.b {v : Nat → Int32} (h : vR v) : vB v := by unfold vR at h; unfold vB; omega
/-- cells in both -/
def cw3 (v u : Nat → Int32) : Nat := pcI (v 0 &&& u 0) * pcI (v 1 &&& u 1) * pcI (v 2 &&& u 2)
theorem cw3_s {v u : Nat → Int32} (hv : vB v) (hu : vB u) : (0 < cw3 v u ↔ (v 0 &&& u 0 ≠ 0) ∧ (v 1 &&& u 1 ≠ 0) ∧ (v 2 &&& u 2 ≠ 0)) ∧ cw3 v u ≤ 128 := by
  obtain ⟨a1, a2, a3⟩ := hv
  obtain ⟨b1, b2, b3⟩ := hu
  have c1 := and_bd a1.1 b1.1
  have c2 := and_bd a2.1 b2.1
  have c3 := and_bd a3.1 b3.1
  have d1 := pcI_0 (x := v 0 &&& u 0) (by omega)
  have d2 := pcI_0 (x := v 1 &&& u 1) (by omega)
  have d3 := pcI_0 (x := v 2 &&& u 2) (by omega)
  have e2 := d2.2.2 (by omega)
  have e3 := d3.2.2 (by omega)
  unfold cw3
  refine ⟨?_, ?_⟩
  · rw [Ne, ← d1.1, Ne, ← d2.1, Ne, ← d3.1]
    constructor
    · intro h
      refine ⟨fun z => ?_, fun z => ?_, fun z => ?_⟩
      · rw [z, Nat.zero_mul, Nat.zero_mul] at h; omega
      · rw [z, Nat.mul_zero, Nat.zero_mul] at h; omega
      · rw [z, Nat.mul_zero] at h; omega
    · rintro ⟨h1, h2, h3⟩
      exact Nat.mul_pos (Nat.mul_pos (Nat.pos_of_ne_zero h1) (Nat.pos_of_ne_zero h2)) (Nat.pos_of_ne_zero h3)
  · exact Nat.le_trans (Nat.mul_le_mul (Nat.mul_le_mul d1.2.1 e2) e3) (by decide)
theorem mx_s {x y z : Int32} (h : z = if x < y then y else x) : x.toInt ≤ z.toInt ∧ y.toInt ≤ z.toInt ∧ (z.toInt = x.toInt ∨ z.toInt = y.toInt) := by
  by_cases q : x < y
  · rw [if_pos q] at h; have := p_lt q; rw [h]; omega
  · rw [if_neg q] at h; have := n_lt q; rw [h]; omega
theorem mn_s {x y z : Int32} (h : z = if y < x then y else x) : z.toInt ≤ x.toInt ∧ z.toInt ≤ y.toInt ∧ (z.toInt = x.toInt ∨ z.toInt = y.toInt) := by
  by_cases q : y < x
  · rw [if_pos q] at h; have := p_lt q; rw [h]; omega
  · rw [if_neg q] at h; have := n_lt q; rw [h]; omega
theorem wp_gen {E : gEnv} {nL cells slots : Nat} {T : gSh} {I : gI} {J : gJ} {R : gR} {pc : Nat} {lv : List (Nat × Value)} {st : List Value} (P : gSh → gI → gJ → gR → Prop) (h : P T I J R) (k : ∀ T I J R, P T I J R → WP E nL cells slots T I J R pc lv st) : WP E nL cells slots T I J R pc lv st := k _ _ _ _ h
set_option maxRecDepth 100000 in
set_option maxHeartbeats 4000000 in
theorem c_bitCount (l : Launch) {T : gSh} {I : gI} {J : gJ} {R : gR} {x : Int32} (hx : 0 ≤ x.toInt ∧ x.toInt ≤ 255) : Con l yJ6_bitCount_0f7a4 wsJ6_bitCount_0f7a4 ({ frames := 0, cells := 0, slots := 0, locals := 0 }) [.int x] T I J R (gP (some (.int (nI (pcI x)))) T I J R) := by
  refine Con.mk (cc := cJ6_bitCount_0f7a4) (maxL := 1) (ret := (some .int)) (by decide) rfl (Nat.le_of_ble_eq_true rfl) ?_
  intro E hE C Z hnm
  subst hE
  change WP E 1 0 0 T I J R 0 [(0, .int x)] []
  refine wp_iload_n C 0 dJ6_bitCount_0f7a4_0 rfl rfl ?_
  refine wp_iload_n C 0 dJ6_bitCount_0f7a4_1 rfl rfl ?_
  refine wp_iconst C 1 dJ6_bitCount_0f7a4_2 (by decide) ?_
  refine wp_iushr C dJ6_bitCount_0f7a4_3 ?_
  refine wp_ldcw C 1431655765 dJ6_bitCount_0f7a4_4 (by decide +kernel) ?_
  refine wp_iand C dJ6_bitCount_0f7a4_7 ?_
  refine wp_isub C dJ6_bitCount_0f7a4_8 ?_
  refine wp_eqi (show _ = bc1 x from rfl) ?_
  refine wp_istore_n C [(0, .int (bc1 x))] dJ6_bitCount_0f7a4_9 rfl (by decide) rfl ?_
  refine wp_iload_n C 0 dJ6_bitCount_0f7a4_10 rfl rfl ?_
  refine wp_ldcw C 858993459 dJ6_bitCount_0f7a4_11 (by decide +kernel) ?_
  refine wp_iand C dJ6_bitCount_0f7a4_14 ?_
  refine wp_iload_n C 0 dJ6_bitCount_0f7a4_15 rfl rfl ?_
  refine wp_iconst C 2 dJ6_bitCount_0f7a4_16 (by decide) ?_
  refine wp_iushr C dJ6_bitCount_0f7a4_17 ?_
  refine wp_ldcw C 858993459 dJ6_bitCount_0f7a4_18 (by decide +kernel) ?_
  refine wp_iand C dJ6_bitCount_0f7a4_21 ?_
  refine wp_iadd C dJ6_bitCount_0f7a4_22 ?_
  refine wp_eqi (show _ = bc2 x from rfl) ?_
  refine wp_istore_n C [(0, .int (bc2 x))] dJ6_bitCount_0f7a4_23 rfl (by decide) rfl ?_
  refine wp_iload_n C 0 dJ6_bitCount_0f7a4_24 rfl rfl ?_
  refine wp_iload_n C 0 dJ6_bitCount_0f7a4_25 rfl rfl ?_
  refine wp_iconst C 4 dJ6_bitCount_0f7a4_26 (by decide) ?_
  refine wp_iushr C dJ6_bitCount_0f7a4_27 ?_
  refine wp_iadd C dJ6_bitCount_0f7a4_28 ?_
  refine wp_ldcw C 252645135 dJ6_bitCount_0f7a4_29 (by decide +kernel) ?_
  refine wp_iand C dJ6_bitCount_0f7a4_32 ?_
  refine wp_eqi (show _ = bc3 x from rfl) ?_
  refine wp_istore_n C [(0, .int (bc3 x))] dJ6_bitCount_0f7a4_33 rfl (by decide) rfl ?_
  refine wp_iload_n C 0 dJ6_bitCount_0f7a4_34 rfl rfl ?_
  refine wp_iload_n C 0 dJ6_bitCount_0f7a4_35 rfl rfl ?_
  refine wp_bipush C 8 dJ6_bitCount_0f7a4_36 (by decide) ?_
  refine wp_iushr C dJ6_bitCount_0f7a4_38 ?_
  refine wp_iadd C dJ6_bitCount_0f7a4_39 ?_
  refine wp_eqi (show _ = bc4 x from rfl) ?_
  refine wp_istore_n C [(0, .int (bc4 x))] dJ6_bitCount_0f7a4_40 rfl (by decide) rfl ?_
  refine wp_iload_n C 0 dJ6_bitCount_0f7a4_41 rfl rfl ?_
  refine wp_iload_n C 0 dJ6_bitCount_0f7a4_42 rfl rfl ?_
  refine wp_bipush C 16 dJ6_bitCount_0f7a4_43 (by decide) ?_
  refine wp_iushr C dJ6_bitCount_0f7a4_45 ?_
  refine wp_iadd C dJ6_bitCount_0f7a4_46 ?_
  refine wp_eqi (show _ = bc5 x from rfl) ?_
  refine wp_istore_n C [(0, .int (bc5 x))] dJ6_bitCount_0f7a4_47 rfl (by decide) rfl ?_
  refine wp_iload_n C 0 dJ6_bitCount_0f7a4_48 rfl rfl ?_
  refine wp_bipush C 63 dJ6_bitCount_0f7a4_49 (by decide) ?_
  refine wp_iand C dJ6_bitCount_0f7a4_51 ?_
  exact wp_iret C Z dJ6_bitCount_0f7a4_52 (by decide) (by decide) (by rw [← bc_pc hx]; exact gP_rf)
set_option maxRecDepth 100000 in
set_option maxHeartbeats 4000000 in
theorem c_Rights (l : Launch) {T : gSh} {I : gI} {J : gJ} {R : gR} {r : Nat} (hr : OB T r 8) (x0 x1 x2 x3 x4 : Int32) : Con l yX8_init wsX8_init ({ frames := 1, cells := 0, slots := 0, locals := 20 }) [.ref r, .int x0, .int x1, .int x2, .int x3, .int x4] T I J R (gP none T (u2 (u2 (u2 (u2 (u2 I r 0 x0) r 1 x1) r 2 x2) r 3 x3) r 4 x4) J R) := by
  refine Con.mk (cc := cX8_init) (maxL := 6) (ret := none) (by decide) rfl (Nat.le_of_ble_eq_true rfl) ?_
  intro E hE C Z hnm
  subst hE
  change WP E 6 0 0 T I J R 0 [(0, .ref r), (1, .int x0), (2, .int x1), (3, .int x2), (4, .int x3), (5, .int x4)] []
  refine wp_aload_n C 0 dX8_init_0 rfl rfl ?_
  refine wp_objInit C dX8_init_1 (by decide +kernel) (by decide +kernel) (by decide +kernel) (Nat.le_of_ble_eq_true rfl) (by decide) ?_
  refine wp_aload_n C 0 dX8_init_4 rfl rfl ?_
  refine wp_iload_n C 1 dX8_init_5 rfl rfl ?_
  refine wp_putI C dX8_init_6 pX8_init_9 (fun _ => hnm) hr ?_
  refine wp_aload_n C 0 dX8_init_9 rfl rfl ?_
  refine wp_iload_n C 2 dX8_init_10 rfl rfl ?_
  refine wp_putI C dX8_init_11 pX8_init_15 (fun _ => hnm) hr ?_
  refine wp_aload_n C 0 dX8_init_14 rfl rfl ?_
  refine wp_iload_n C 3 dX8_init_15 rfl rfl ?_
  refine wp_putI C dX8_init_16 pX8_init_18 (fun _ => hnm) hr ?_
  refine wp_aload_n C 0 dX8_init_19 rfl rfl ?_
  refine wp_iload C 4 dX8_init_20 rfl ?_
  refine wp_putI C dX8_init_22 pX8_init_21 (fun _ => hnm) hr ?_
  refine wp_aload_n C 0 dX8_init_25 rfl rfl ?_
  refine wp_iload C 5 dX8_init_26 rfl ?_
  refine wp_putI C dX8_init_28 pX8_init_24 (fun _ => hnm) hr ?_
  exact wp_vret C Z dX8_init_31 (by decide) (by decide) gP_rf
set_option maxRecDepth 100000 in
set_option maxHeartbeats 4000000 in
theorem c_canBe (l : Launch) {T : gSh} {I : gI} {J : gJ} {R : gR} {r : Nat} {v : Nat → Int32} (hr : RI T I r v) : Con l yX8_canBe wsX8_canBe ({ frames := 1, cells := 0, slots := 0, locals := 20 }) [.ref r] T I J R (gP (some (.int (nI (can v)))) T I J R) := by
  refine Con.mk (cc := cX8_canBe) (maxL := 1) (ret := (some .boolean)) (by decide) rfl (Nat.le_of_ble_eq_true rfl) ?_
  intro E hE C Z hnm
  subst hE
  change WP E 1 0 0 T I J R 0 [(0, .ref r)] []
  refine wp_aload_n C 0 dX8_canBe_0 rfl rfl ?_
  refine wp_getI C dX8_canBe_1 fX8_canBe_9 hr.1 ?_
  refine wp_eqi (hr.2 0 (by decide)) ?_
  refine wp_iconst C 1 dX8_canBe_4 (by decide) ?_
  refine wp_icmp_lt C 87 dX8_canBe_5 (by decide) (fun c5 => ?_) (fun c5 => ?_)
  · have c5 : (v 0).toInt < 1 := by have hcv := p_lt c5; exact hcv
    refine wp_iconst C 0 dX8_canBe_87 (by decide) ?_
    exact wp_zret C Z dX8_canBe_88 (by decide) (by decide) (by decide) (by rw [show can v = 0 from by simp only [can]; (repeat' split) <;> omega]; exact gP_rf)
  · have c5 : ¬ (v 0).toInt < 1 := by have hcv := n_lt c5; exact hcv
    refine wp_aload_n C 0 dX8_canBe_8 rfl rfl ?_
    refine wp_getI C dX8_canBe_9 fX8_canBe_9 hr.1 ?_
    refine wp_eqi (hr.2 0 (by decide)) ?_
    refine wp_sipush C 255 dX8_canBe_12 (by decide) ?_
    refine wp_icmp_gt C 87 dX8_canBe_15 (by decide) (fun c15 => ?_) (fun c15 => ?_)
    · have c15 : 255 < (v 0).toInt := by have hcv := p_lt c15; exact hcv
      refine wp_iconst C 0 dX8_canBe_87 (by decide) ?_
      exact wp_zret C Z dX8_canBe_88 (by decide) (by decide) (by decide) (by rw [show can v = 0 from by simp only [can]; (repeat' split) <;> omega]; exact gP_rf)
    · have c15 : ¬ 255 < (v 0).toInt := by have hcv := n_lt c15; exact hcv
      refine wp_aload_n C 0 dX8_canBe_18 rfl rfl ?_
      refine wp_getI C dX8_canBe_19 fX8_canBe_15 hr.1 ?_
      refine wp_eqi (hr.2 1 (by decide)) ?_
      refine wp_iconst C 1 dX8_canBe_22 (by decide) ?_
      refine wp_icmp_lt C 87 dX8_canBe_23 (by decide) (fun c23 => ?_) (fun c23 => ?_)
      · have c23 : (v 1).toInt < 1 := by have hcv := p_lt c23; exact hcv
        refine wp_iconst C 0 dX8_canBe_87 (by decide) ?_
        exact wp_zret C Z dX8_canBe_88 (by decide) (by decide) (by decide) (by rw [show can v = 0 from by simp only [can]; (repeat' split) <;> omega]; exact gP_rf)
      · have c23 : ¬ (v 1).toInt < 1 := by have hcv := n_lt c23; exact hcv
        refine wp_aload_n C 0 dX8_canBe_26 rfl rfl ?_
        refine wp_getI C dX8_canBe_27 fX8_canBe_15 hr.1 ?_
        refine wp_eqi (hr.2 1 (by decide)) ?_
        refine wp_bipush C 15 dX8_canBe_30 (by decide) ?_
        refine wp_icmp_gt C 87 dX8_canBe_32 (by decide) (fun c32 => ?_) (fun c32 => ?_)
        · have c32 : 15 < (v 1).toInt := by have hcv := p_lt c32; exact hcv
          refine wp_iconst C 0 dX8_canBe_87 (by decide) ?_
          exact wp_zret C Z dX8_canBe_88 (by decide) (by decide) (by decide) (by rw [show can v = 0 from by simp only [can]; (repeat' split) <;> omega]; exact gP_rf)
        · have c32 : ¬ 15 < (v 1).toInt := by have hcv := n_lt c32; exact hcv
          refine wp_aload_n C 0 dX8_canBe_35 rfl rfl ?_
          refine wp_getI C dX8_canBe_36 fX8_canBe_18 hr.1 ?_
          refine wp_eqi (hr.2 2 (by decide)) ?_
          refine wp_iconst C 1 dX8_canBe_39 (by decide) ?_
          refine wp_icmp_lt C 87 dX8_canBe_40 (by decide) (fun c40 => ?_) (fun c40 => ?_)
          · have c40 : (v 2).toInt < 1 := by have hcv := p_lt c40; exact hcv
            refine wp_iconst C 0 dX8_canBe_87 (by decide) ?_
            exact wp_zret C Z dX8_canBe_88 (by decide) (by decide) (by decide) (by rw [show can v = 0 from by simp only [can]; (repeat' split) <;> omega]; exact gP_rf)
          · have c40 : ¬ (v 2).toInt < 1 := by have hcv := n_lt c40; exact hcv
            refine wp_aload_n C 0 dX8_canBe_43 rfl rfl ?_
            refine wp_getI C dX8_canBe_44 fX8_canBe_18 hr.1 ?_
            refine wp_eqi (hr.2 2 (by decide)) ?_
            refine wp_bipush C 15 dX8_canBe_47 (by decide) ?_
            refine wp_icmp_gt C 87 dX8_canBe_49 (by decide) (fun c49 => ?_) (fun c49 => ?_)
            · have c49 : 15 < (v 2).toInt := by have hcv := p_lt c49; exact hcv
              refine wp_iconst C 0 dX8_canBe_87 (by decide) ?_
              exact wp_zret C Z dX8_canBe_88 (by decide) (by decide) (by decide) (by rw [show can v = 0 from by simp only [can]; (repeat' split) <;> omega]; exact gP_rf)
            · have c49 : ¬ 15 < (v 2).toInt := by have hcv := n_lt c49; exact hcv
              refine wp_aload_n C 0 dX8_canBe_52 rfl rfl ?_
              refine wp_getI C dX8_canBe_53 fX8_canBe_21 hr.1 ?_
              refine wp_eqi (hr.2 3 (by decide)) ?_
              refine wp_cSNi C (As := [.int (v 3)]) (rest := []) dX8_canBe_56 kX8_canBe_27 C.2.2.2.2.2.2.1.1 (by decide +kernel) (c_isDay _ (v 3)) rfl (Nat.le_of_ble_eq_true rfl) (by decide) (by decide) ?_
              refine wp_if_eq C 87 dX8_canBe_59 (by decide) (fun c59 => ?_) (fun c59 => ?_)
              · have c59 : ¬ (0 ≤ (v 3).toInt ∧ (v 3).toInt ≤ 9999) := fun z => absurd ((bI_t z).symm.trans c59) (by decide)
                refine wp_iconst C 0 dX8_canBe_87 (by decide) ?_
                exact wp_zret C Z dX8_canBe_88 (by decide) (by decide) (by decide) (by rw [show can v = 0 from by simp only [can]; (repeat' split) <;> omega]; exact gP_rf)
              · have c59 : (0 ≤ (v 3).toInt ∧ (v 3).toInt ≤ 9999) := Classical.byContradiction (fun z => c59 (bI_f z))
                refine wp_aload_n C 0 dX8_canBe_62 rfl rfl ?_
                refine wp_getI C dX8_canBe_63 fX8_canBe_24 hr.1 ?_
                refine wp_eqi (hr.2 4 (by decide)) ?_
                refine wp_cSNi C (As := [.int (v 4)]) (rest := []) dX8_canBe_66 kX8_canBe_27 C.2.2.2.2.2.2.1.1 (by decide +kernel) (c_isDay _ (v 4)) rfl (Nat.le_of_ble_eq_true rfl) (by decide) (by decide) ?_
                refine wp_if_eq C 87 dX8_canBe_69 (by decide) (fun c69 => ?_) (fun c69 => ?_)
                · have c69 : ¬ (0 ≤ (v 4).toInt ∧ (v 4).toInt ≤ 9999) := fun z => absurd ((bI_t z).symm.trans c69) (by decide)
                  refine wp_iconst C 0 dX8_canBe_87 (by decide) ?_
                  exact wp_zret C Z dX8_canBe_88 (by decide) (by decide) (by decide) (by rw [show can v = 0 from by simp only [can]; (repeat' split) <;> omega]; exact gP_rf)
                · have c69 : (0 ≤ (v 4).toInt ∧ (v 4).toInt ≤ 9999) := Classical.byContradiction (fun z => c69 (bI_f z))
                  refine wp_aload_n C 0 dX8_canBe_72 rfl rfl ?_
                  refine wp_getI C dX8_canBe_73 fX8_canBe_21 hr.1 ?_
                  refine wp_eqi (hr.2 3 (by decide)) ?_
                  refine wp_aload_n C 0 dX8_canBe_76 rfl rfl ?_
                  refine wp_getI C dX8_canBe_77 fX8_canBe_24 hr.1 ?_
                  refine wp_eqi (hr.2 4 (by decide)) ?_
                  refine wp_icmp_gt C 87 dX8_canBe_80 (by decide) (fun c80 => ?_) (fun c80 => ?_)
                  · have c80 : (v 4).toInt < (v 3).toInt := by have hcv := p_lt c80; exact hcv
                    refine wp_iconst C 0 dX8_canBe_87 (by decide) ?_
                    exact wp_zret C Z dX8_canBe_88 (by decide) (by decide) (by decide) (by rw [show can v = 0 from by simp only [can]; (repeat' split) <;> omega]; exact gP_rf)
                  · have c80 : ¬ (v 4).toInt < (v 3).toInt := by have hcv := n_lt c80; exact hcv
                    refine wp_iconst C 1 dX8_canBe_83 (by decide) ?_
                    refine wp_goto C 88 dX8_canBe_84 (by decide) ?_
                    exact wp_zret C Z dX8_canBe_88 (by decide) (by decide) (by decide) (by rw [show can v = 1 from by simp only [can]; (repeat' split) <;> omega]; exact gP_rf)
set_option maxRecDepth 100000 in
set_option maxHeartbeats 4000000 in
theorem c_cells (l : Launch) {T : gSh} {I : gI} {J : gJ} {R : gR} {r : Nat} {v : Nat → Int32} (hr : RI T I r v) (hv : vB v) : Con l yX8_cells wsX8_cells ({ frames := 1, cells := 0, slots := 0, locals := 20 }) [.ref r] T I J R (gP (some (.int (nI (pcI (v 0) * pcI (v 1) * pcI (v 2))))) T I J R) := by
  refine Con.mk (cc := cX8_cells) (maxL := 1) (ret := (some .int)) (by decide) rfl (Nat.le_of_ble_eq_true rfl) ?_
  intro E hE C Z hnm
  subst hE
  change WP E 1 0 0 T I J R 0 [(0, .ref r)] []
  unfold vB at hv
  refine wp_aload_n C 0 dX8_cells_0 rfl rfl ?_
  refine wp_getI C dX8_cells_1 fX8_cells_9 hr.1 ?_
  refine wp_eqi (hr.2 0 (by decide)) ?_
  refine wp_cSi C (As := [.int (v 0)]) (rest := []) dX8_cells_4 kX8_cells_31 (c_bitCount _ (x := v 0) (by omega)) rfl (Nat.le_of_ble_eq_true rfl) (by decide) (by decide) ?_
  refine wp_aload_n C 0 dX8_cells_7 rfl rfl ?_
  refine wp_getI C dX8_cells_8 fX8_cells_15 hr.1 ?_
  refine wp_eqi (hr.2 1 (by decide)) ?_
  refine wp_cSi C (As := [.int (v 1)]) (rest := [.int (nI (pcI (v 0)))]) dX8_cells_11 kX8_cells_31 (c_bitCount _ (x := v 1) (by omega)) rfl (Nat.le_of_ble_eq_true rfl) (by decide) (by decide) ?_
  refine wp_imul C dX8_cells_14 ?_
  refine wp_eqi (pk_mul (pcI (v 0)) (pcI (v 1))) ?_
  refine wp_aload_n C 0 dX8_cells_15 rfl rfl ?_
  refine wp_getI C dX8_cells_16 fX8_cells_18 hr.1 ?_
  refine wp_eqi (hr.2 2 (by decide)) ?_
  refine wp_cSi C (As := [.int (v 2)]) (rest := [.int (nI ((pcI (v 0)) * (pcI (v 1))))]) dX8_cells_19 kX8_cells_31 (c_bitCount _ (x := v 2) (by omega)) rfl (Nat.le_of_ble_eq_true rfl) (by decide) (by decide) ?_
  refine wp_imul C dX8_cells_22 ?_
  refine wp_eqi (pk_mul ((pcI (v 0)) * (pcI (v 1))) (pcI (v 2))) ?_
  exact wp_iret C Z dX8_cells_23 (by decide) (by decide) gP_rf
set_option maxRecDepth 100000 in
set_option maxHeartbeats 4000000 in
theorem c_cellsWithR (l : Launch) {T : gSh} {I : gI} {J : gJ} {R : gR} {r s : Nat} {v u : Nat → Int32} (hr : RI T I r v) (hs : RI T I s u) (hv : vB v) (hu : vB u) : Con l yX8_cellsWith wsX8_cellsWith ({ frames := 1, cells := 0, slots := 0, locals := 20 }) [.ref r, .ref s] T I J R (gP (some (.int (nI (cw3 v u)))) T I J R) := by
  refine Con.mk (cc := cX8_cellsWith) (maxL := 2) (ret := (some .int)) (by decide) rfl (Nat.le_of_ble_eq_true rfl) ?_
  intro E hE C Z hnm
  subst hE
  change WP E 2 0 0 T I J R 0 [(0, .ref r), (1, .ref s)] []
  unfold vB at hv hu
  have d0 := and_bd hv.1.1 hu.1.1
  have d1 := and_bd hv.2.1.1 hu.2.1.1
  have d2 := and_bd hv.2.2.1 hu.2.2.1
  refine wp_aload_n C 0 dX8_cellsWith_0 rfl rfl ?_
  refine wp_getI C dX8_cellsWith_1 fX8_cellsWith_9 hr.1 ?_
  refine wp_eqi (hr.2 0 (by decide)) ?_
  refine wp_aload_n C 1 dX8_cellsWith_4 rfl rfl ?_
  refine wp_getI C dX8_cellsWith_5 fX8_cellsWith_9 hs.1 ?_
  refine wp_eqi (hs.2 0 (by decide)) ?_
  refine wp_iand C dX8_cellsWith_8 ?_
  refine wp_cSi C (As := [.int ((v 0) &&& (u 0))]) (rest := []) dX8_cellsWith_9 kX8_cellsWith_31 (c_bitCount _ (x := (v 0) &&& (u 0)) (by omega)) rfl (Nat.le_of_ble_eq_true rfl) (by decide) (by decide) ?_
  refine wp_aload_n C 0 dX8_cellsWith_12 rfl rfl ?_
  refine wp_getI C dX8_cellsWith_13 fX8_cellsWith_15 hr.1 ?_
  refine wp_eqi (hr.2 1 (by decide)) ?_
  refine wp_aload_n C 1 dX8_cellsWith_16 rfl rfl ?_
  refine wp_getI C dX8_cellsWith_17 fX8_cellsWith_15 hs.1 ?_
  refine wp_eqi (hs.2 1 (by decide)) ?_
  refine wp_iand C dX8_cellsWith_20 ?_
  refine wp_cSi C (As := [.int ((v 1) &&& (u 1))]) (rest := [.int (nI (pcI ((v 0) &&& (u 0))))]) dX8_cellsWith_21 kX8_cellsWith_31 (c_bitCount _ (x := (v 1) &&& (u 1)) (by omega)) rfl (Nat.le_of_ble_eq_true rfl) (by decide) (by decide) ?_
  refine wp_imul C dX8_cellsWith_24 ?_
  refine wp_eqi (pk_mul (pcI ((v 0) &&& (u 0))) (pcI ((v 1) &&& (u 1)))) ?_
  refine wp_aload_n C 0 dX8_cellsWith_25 rfl rfl ?_
  refine wp_getI C dX8_cellsWith_26 fX8_cellsWith_18 hr.1 ?_
  refine wp_eqi (hr.2 2 (by decide)) ?_
  refine wp_aload_n C 1 dX8_cellsWith_29 rfl rfl ?_
  refine wp_getI C dX8_cellsWith_30 fX8_cellsWith_18 hs.1 ?_
  refine wp_eqi (hs.2 2 (by decide)) ?_
  refine wp_iand C dX8_cellsWith_33 ?_
  refine wp_cSi C (As := [.int ((v 2) &&& (u 2))]) (rest := [.int (nI ((pcI ((v 0) &&& (u 0))) * (pcI ((v 1) &&& (u 1)))))]) dX8_cellsWith_34 kX8_cellsWith_31 (c_bitCount _ (x := (v 2) &&& (u 2)) (by omega)) rfl (Nat.le_of_ble_eq_true rfl) (by decide) (by decide) ?_
  refine wp_imul C dX8_cellsWith_37 ?_
  refine wp_eqi (pk_mul ((pcI ((v 0) &&& (u 0))) * (pcI ((v 1) &&& (u 1)))) (pcI ((v 2) &&& (u 2)))) ?_
  exact wp_iret C Z dX8_cellsWith_38 (by decide) (by decide) gP_rf
set_option maxRecDepth 100000 in
set_option maxHeartbeats 4000000 in
theorem c_Grant (l : Launch) {T : gSh} {I : gI} {J : gJ} {R : gR} {g r : Nat} (hg : OB T g 3) (hr : OB T r 8) (b e : Int32) : Con l yX3_init wsX3_init ({ frames := 1, cells := 0, slots := 0, locals := 20 }) [.ref g, .int b, .int e, .ref r] T I J R (gP none T (u2 (u2 (u2 (u2 I g 3 0) g 0 b) g 1 e) g 4 (I r 4)) J (u2 R g 2 (some r))) := by
  refine Con.mk (cc := cX3_init) (maxL := 4) (ret := none) (by decide) rfl (Nat.le_of_ble_eq_true rfl) ?_
  intro E hE C Z hnm
  subst hE
  change WP E 4 0 0 T I J R 0 [(0, .ref g), (1, .int b), (2, .int e), (3, .ref r)] []
  have hne : r ≠ g := hr.ne hg (by decide)
  refine wp_aload_n C 0 dX3_init_0 rfl rfl ?_
  refine wp_objInit C dX3_init_1 (by decide +kernel) (by decide +kernel) (by decide +kernel) (Nat.le_of_ble_eq_true rfl) (by decide) ?_
  refine wp_aload_n C 0 dX3_init_4 rfl rfl ?_
  refine wp_iconst C 0 dX3_init_5 (by decide) ?_
  refine wp_putZ C dX3_init_6 pX3_init_7 (fun h => nomatch h) hg (by decide) ?_
  refine wp_aload_n C 0 dX3_init_9 rfl rfl ?_
  refine wp_iload_n C 1 dX3_init_10 rfl rfl ?_
  refine wp_putI C dX3_init_11 pX3_init_13 (fun _ => hnm) hg ?_
  refine wp_aload_n C 0 dX3_init_14 rfl rfl ?_
  refine wp_iload_n C 2 dX3_init_15 rfl rfl ?_
  refine wp_putI C dX3_init_16 pX3_init_17 (fun _ => hnm) hg ?_
  refine wp_aload_n C 0 dX3_init_19 rfl rfl ?_
  refine wp_aload_n C 3 dX3_init_20 rfl rfl ?_
  refine wp_putR C dX3_init_21 pX3_init_20 (fun _ => hnm) hg rfl rfl ?_
  refine wp_aload_n C 0 dX3_init_24 rfl rfl ?_
  refine wp_aload_n C 3 dX3_init_25 rfl rfl ?_
  refine wp_getI C dX3_init_26 fX3_init_24 hr ?_
  refine wp_eqi ((u2_a _ _ _ _ hne _).trans ((u2_a _ _ _ _ hne _).trans (u2_a _ _ _ _ hne _))) ?_
  refine wp_putI C dX3_init_29 pX3_init_29 (fun h => nomatch h) hg ?_
  exact wp_vret C Z dX3_init_32 (by decide) (by decide) gP_rf
/-- the day's last: the less of the two -/
def mnI (x y : Int32) : Int32 := if y < x then y else x
/-- cells of the grant i that are in the rights v on a day that is in both -/
def cwN (a : gI) (i : Nat) (b : Int32) (v : Nat → Int32) : Nat := if (a 28 i).toInt = b.toInt ∧ (v 3).toInt ≤ (v 4).toInt ∧ (v 3).toInt ≤ lastI a i ∧ (a 33 i).toInt ≤ (v 4).toInt ∧ (a 33 i).toInt ≤ lastI a i then cw3 (gv a i) v else 0
theorem cwN_s {a : gI} {i : Nat} {b : Int32} {v : Nat → Int32} (hg : vB (gv a i)) (hv : vB v) : (0 < cwN a i b v ↔ hitN a b v i = 0) ∧ cwN a i b v ≤ 128 := by
  have h := cw3_s hg hv
  rw [hitN_0]
  unfold cwN hit
  by_cases z : (a 28 i).toInt = b.toInt ∧ (v 3).toInt ≤ (v 4).toInt ∧ (v 3).toInt ≤ lastI a i ∧ (a 33 i).toInt ≤ (v 4).toInt ∧ (a 33 i).toInt ≤ lastI a i
  · rw [if_pos z]
    refine ⟨h.1.trans ⟨fun q => ⟨(i_eq _ _).mpr z.1, q.1, q.2.1, q.2.2, z.2⟩, fun q => ⟨q.2.1, q.2.2.1, q.2.2.2.1⟩⟩, h.2⟩
  · rw [if_neg z]
    exact ⟨⟨fun q => absurd q (by decide), fun q => absurd ⟨(i_eq _ _).mp q.1, q.2.2.2.2⟩ z⟩, Nat.zero_le _⟩
/-- one grant in the class's heap -/
def GO (T : gSh) (I : gI) (R : gR) (g r : Nat) (a : gI) (i : Nat) : Prop := OB T g 3 ∧ R g 2 = some r ∧ RI T I r (gv a i) ∧ vR (gv a i) ∧ I g 0 = a 28 i ∧ I g 1 = a 29 i ∧ 0 ≤ (a 29 i).toInt ∧ (I g 4).toInt = lastI a i
set_option maxRecDepth 100000 in
set_option maxHeartbeats 4000000 in
theorem c_endOn (l : Launch) {T : gSh} {I : gI} {J : gJ} {R : gR} {g : Nat} (hg : OB T g 3) (d : Int32) : Con l yX3_endOn wsX3_endOn ({ frames := 1, cells := 0, slots := 0, locals := 21 }) [.ref g, .int d] T I J R (gP none T (u2 (u2 I g 3 1) g 4 (mnI (I g 4) (d - 1))) J R) := by
  refine Con.mk (cc := cX3_endOn) (maxL := 2) (ret := none) (by decide) rfl (Nat.le_of_ble_eq_true rfl) ?_
  intro E hE C Z hnm
  subst hE
  change WP E 2 0 0 T I J R 0 [(0, .ref g), (1, .int d)] []
  refine wp_aload_n C 0 dX3_endOn_0 rfl rfl ?_
  refine wp_iconst C 1 dX3_endOn_1 (by decide) ?_
  refine wp_putZ C dX3_endOn_2 pX3_endOn_7 (fun h => nomatch h) hg (by decide) ?_
  refine wp_aload_n C 0 dX3_endOn_5 rfl rfl ?_
  refine wp_aload_n C 0 dX3_endOn_6 rfl rfl ?_
  refine wp_getI C dX3_endOn_7 fX3_endOn_29 hg ?_
  refine wp_eqi (u2_k _ _ _ _ (by decide) _) ?_
  refine wp_iload_n C 1 dX3_endOn_10 rfl rfl ?_
  refine wp_iconst C 1 dX3_endOn_11 (by decide) ?_
  refine wp_isub C dX3_endOn_12 ?_
  refine wp_min C dX3_endOn_13 (by decide +kernel) (by decide +kernel) (by decide +kernel) (by decide +kernel) (Nat.le_of_ble_eq_true rfl) (by decide) (by decide) ?_
  refine wp_topi (fun mn13 hm => ?_)
  have hmn13 := mn_s hm
  refine wp_putI C dX3_endOn_16 pX3_endOn_29 (fun h => nomatch h) hg ?_
  exact wp_vret C Z dX3_endOn_19 (by decide) (by decide) (by rw [show mnI (I g 4) (d - 1) = mn13 from hm.symm]; exact gP_rf)
set_option maxRecDepth 100000 in
set_option maxHeartbeats 4000000 in
theorem c_cellsWith (l : Launch) {T : gSh} {I : gI} {J : gJ} {R : gR} {g r s : Nat} {a : gI} {i : Nat} {v : Nat → Int32} (hg : GO T I R g r a i) (hs : RI T I s v) (hv : vB v) (b : Int32) : Con l yX3_cellsWith wsX3_cellsWith ({ frames := 2, cells := 0, slots := 0, locals := 41 }) [.ref g, .int b, .ref s] T I J R (gP (some (.int (nI (cwN a i b v)))) T I J R) := by
  refine Con.mk (cc := cX3_cellsWith) (maxL := 5) (ret := (some .int)) (by decide) rfl (Nat.le_of_ble_eq_true rfl) ?_
  intro E hE C Z hnm
  subst hE
  change WP E 5 0 0 T I J R 0 [(0, .ref g), (1, .int b), (2, .ref s)] []
  have hl := hg.2.2.2.2.2.2.2
  refine wp_aload_n C 0 dX3_cellsWith_0 rfl rfl ?_
  refine wp_getR C dX3_cellsWith_1 fX3_cellsWith_20 hg.1 hg.2.1 ?_
  refine wp_getI C dX3_cellsWith_4 fX3_cellsWith_38 hg.2.2.1.1 ?_
  refine wp_eqi (show I r 3 = a 33 i from hg.2.2.1.2 3 (by decide)) ?_
  refine wp_aload_n C 2 dX3_cellsWith_7 rfl rfl ?_
  refine wp_getI C dX3_cellsWith_8 fX3_cellsWith_38 hs.1 ?_
  refine wp_eqi (hs.2 3 (by decide)) ?_
  refine wp_max C dX3_cellsWith_11 (by decide +kernel) (by decide +kernel) (by decide +kernel) (by decide +kernel) (Nat.le_of_ble_eq_true rfl) (by decide) (by decide) ?_
  refine wp_topi (fun mx11 hm => ?_)
  have hmx11 := mx_s hm
  refine wp_istore_n C [(3, .int mx11), (0, .ref g), (1, .int b), (2, .ref s)] dX3_cellsWith_14 rfl (by decide) rfl ?_
  refine wp_aload_n C 1 dX3_cellsWith_15 rfl rfl ?_
  refine wp_getI C dX3_cellsWith_16 fX3_cellsWith_29 hg.1 ?_
  refine wp_aload_n C 3 dX3_cellsWith_19 rfl rfl ?_
  refine wp_getI C dX3_cellsWith_20 fX3_cellsWith_24 hs.1 ?_
  refine wp_eqi (hs.2 4 (by decide)) ?_
  refine wp_min C dX3_cellsWith_23 (by decide +kernel) (by decide +kernel) (by decide +kernel) (by decide +kernel) (Nat.le_of_ble_eq_true rfl) (by decide) (by decide) ?_
  refine wp_topi (fun mn23 hm => ?_)
  have hmn23 := mn_s hm
  refine wp_istore C [(4, .int mn23), (3, .int mx11), (0, .ref g), (1, .int b), (2, .ref s)] dX3_cellsWith_26 (by decide) rfl ?_
  refine wp_aload_n C 2 dX3_cellsWith_28 rfl rfl ?_
  refine wp_getI C dX3_cellsWith_29 fX3_cellsWith_13 hg.1 ?_
  refine wp_eqi hg.2.2.2.2.1 ?_
  refine wp_iload_n C 3 dX3_cellsWith_32 rfl rfl ?_
  refine wp_icmp_ne C 53 dX3_cellsWith_33 (by decide) (fun c33 => ?_) (fun c33 => ?_)
  · have c33 : ¬ (a 28 i).toInt = b.toInt := by have hcv := n_eq c33; exact hcv
    refine wp_iconst C 0 dX3_cellsWith_53 (by decide) ?_
    exact wp_iret C Z dX3_cellsWith_54 (by decide) (by decide) (by rw [show cwN a i b v = 0 from if_neg (by omega)]; exact gP_rf)
  · have c33 : (a 28 i).toInt = b.toInt := by have hcv := p_eq c33; exact hcv
    refine wp_iload_n C 1 dX3_cellsWith_36 rfl rfl ?_
    refine wp_iload C 0 dX3_cellsWith_37 rfl ?_
    refine wp_icmp_gt C 53 dX3_cellsWith_39 (by decide) (fun c39 => ?_) (fun c39 => ?_)
    · have c39 : mn23.toInt < mx11.toInt := by have hcv := p_lt c39; exact hcv
      refine wp_iconst C 0 dX3_cellsWith_53 (by decide) ?_
      exact wp_iret C Z dX3_cellsWith_54 (by decide) (by decide) (by rw [show cwN a i b v = 0 from if_neg (by omega)]; exact gP_rf)
    · have c39 : ¬ mn23.toInt < mx11.toInt := by have hcv := n_lt c39; exact hcv
      refine wp_aload_n C 2 dX3_cellsWith_42 rfl rfl ?_
      refine wp_getR C dX3_cellsWith_43 fX3_cellsWith_20 hg.1 hg.2.1 ?_
      refine wp_aload_n C 4 dX3_cellsWith_46 rfl rfl ?_
      refine wp_cVi C (As := [.ref s]) (rest := []) dX3_cellsWith_47 kX3_cellsWith_44 hg.2.2.1.1 (c_cellsWithR _ hg.2.2.1 hs hg.2.2.2.1.b hv) rfl (Nat.le_of_ble_eq_true rfl) (by decide) (by decide) ?_
      refine wp_goto C 54 dX3_cellsWith_50 (by decide) ?_
      exact wp_iret C Z dX3_cellsWith_54 (by decide) (by decide) (by rw [show cwN a i b v = cw3 (gv a i) v from if_pos (by omega)]; exact gP_rf)
