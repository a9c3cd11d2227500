/-! ===== the start ===== -/
def caL (x : Nat) (q : Nat → Nat) : List Nat := [x, (q 0), (q 9), (q 22), (q 27), (q 1), (q 3), (q 5), (q 7), (q 2), (q 4), (q 6), (q 8), (q 10), (q 11), (q 19), (q 12), (q 13), (q 14), (q 15), (q 16), (q 17), (q 18), (q 20), (q 21), (q 23), (q 24), (q 25), (q 26), (q 28)]
def adL (r : Nat → Nat) : List Nat := [0, 0, 0, 0, r 0, r 1, r 2, 0, 0, 0, r 3, r 4, r 5, r 6, r 7, r 8, r 9, r 10, r 11, r 12, r 13, 0, 0, 0, 0, 0, r 14, r 15, r 16, r 17, r 18, r 19, r 20, r 21, r 22, r 23, r 24, r 25, r 26, r 27, r 28, r 29, r 30, r 31, r 32, r 33, r 34, r 35, r 36, 0, 0, 0, 0, r 37]
def pmL : List Nat := [0, 1, 10, 23, 28, 2, 4, 6, 8, 3, 5, 7, 9, 11, 12, 20, 13, 14, 15, 16, 17, 18, 19, 21, 22, 24, 25, 26, 27, 29]
def pnL : List Nat := [0, 0, 0, 0, 31, 32, 33, 0, 0, 0, 34, 35, 36, 37, 38, 39, 40, 41, 42, 43, 44, 0, 0, 0, 0, 0, 45, 46, 47, 48, 49, 50, 51, 52, 53, 54, 55, 56, 57, 58, 59, 60, 61, 62, 63, 64, 65, 66, 67, 0, 0, 0, 0, 68]
theorem pm_i : ∀ i, i < 30 → ∀ j, j < 30 → pmL.getD i 0 = pmL.getD j 0 → i = j := by decide +kernel
theorem pm_l : ∀ i, i < 30 → pmL.getD i 0 < 30 := by decide +kernel
theorem pn_i : ∀ i, i < 54 → ∀ j, j < 54 → mA i = true → mA j = true → pnL.getD i 0 = pnL.getD j 0 → i = j := by decide +kernel
theorem pn_l : ∀ i, i < 54 → mA i = true → 30 < pnL.getD i 0 := by decide +kernel
theorem fin30 {P : Nat → Prop} (h0 : P 0) (h1 : P 1) (h2 : P 2) (h3 : P 3) (h4 : P 4) (h5 : P 5) (h6 : P 6) (h7 : P 7) (h8 : P 8) (h9 : P 9) (h10 : P 10) (h11 : P 11) (h12 : P 12) (h13 : P 13) (h14 : P 14) (h15 : P 15) (h16 : P 16) (h17 : P 17) (h18 : P 18) (h19 : P 19) (h20 : P 20) (h21 : P 21) (h22 : P 22) (h23 : P 23) (h24 : P 24) (h25 : P 25) (h26 : P 26) (h27 : P 27) (h28 : P 28) (h29 : P 29) : ∀ i, i < 30 → P i := by
  intro i hi
  rcases (show i = 0 ∨ i = 1 ∨ i = 2 ∨ i = 3 ∨ i = 4 ∨ i = 5 ∨ i = 6 ∨ i = 7 ∨ i = 8 ∨ i = 9 ∨ i = 10 ∨ i = 11 ∨ i = 12 ∨ i = 13 ∨ i = 14 ∨ i = 15 ∨ i = 16 ∨ i = 17 ∨ i = 18 ∨ i = 19 ∨ i = 20 ∨ i = 21 ∨ i = 22 ∨ i = 23 ∨ i = 24 ∨ i = 25 ∨ i = 26 ∨ i = 27 ∨ i = 28 ∨ i = 29 by omega) with rfl | rfl | rfl | rfl | rfl | rfl | rfl | rfl | rfl | rfl | rfl | rfl | rfl | rfl | rfl | rfl | rfl | rfl | rfl | rfl | rfl | rfl | rfl | rfl | rfl | rfl | rfl | rfl | rfl | rfl
  · exact h0
  · exact h1
  · exact h2
  · exact h3
  · exact h4
  · exact h5
  · exact h6
  · exact h7
  · exact h8
  · exact h9
  · exact h10
  · exact h11
  · exact h12
  · exact h13
  · exact h14
  · exact h15
  · exact h16
  · exact h17
  · exact h18
  · exact h19
  · exact h20
  · exact h21
  · exact h22
  · exact h23
  · exact h24
  · exact h25
  · exact h26
  · exact h27
  · exact h28
  · exact h29
theorem mA_lt {k : Nat} (h : mA k = true) : k < 54 := by
  simp only [mA, Bool.and_eq_true, decide_eq_true_eq] at h; exact h.1
theorem finM {P : Nat → Prop} (h4 : P 4) (h5 : P 5) (h6 : P 6) (h10 : P 10) (h11 : P 11) (h12 : P 12) (h13 : P 13) (h14 : P 14) (h15 : P 15) (h16 : P 16) (h17 : P 17) (h18 : P 18) (h19 : P 19) (h20 : P 20) (h26 : P 26) (h27 : P 27) (h28 : P 28) (h29 : P 29) (h30 : P 30) (h31 : P 31) (h32 : P 32) (h33 : P 33) (h34 : P 34) (h35 : P 35) (h36 : P 36) (h37 : P 37) (h38 : P 38) (h39 : P 39) (h40 : P 40) (h41 : P 41) (h42 : P 42) (h43 : P 43) (h44 : P 44) (h45 : P 45) (h46 : P 46) (h47 : P 47) (h48 : P 48) (h53 : P 53) : ∀ k, mA k = true → P k := by
  intro k hk
  have h54 := mA_lt hk
  rcases (show k = 0 ∨ k = 1 ∨ k = 2 ∨ k = 3 ∨ k = 4 ∨ k = 5 ∨ k = 6 ∨ k = 7 ∨ k = 8 ∨ k = 9 ∨ k = 10 ∨ k = 11 ∨ k = 12 ∨ k = 13 ∨ k = 14 ∨ k = 15 ∨ k = 16 ∨ k = 17 ∨ k = 18 ∨ k = 19 ∨ k = 20 ∨ k = 21 ∨ k = 22 ∨ k = 23 ∨ k = 24 ∨ k = 25 ∨ k = 26 ∨ k = 27 ∨ k = 28 ∨ k = 29 ∨ k = 30 ∨ k = 31 ∨ k = 32 ∨ k = 33 ∨ k = 34 ∨ k = 35 ∨ k = 36 ∨ k = 37 ∨ k = 38 ∨ k = 39 ∨ k = 40 ∨ k = 41 ∨ k = 42 ∨ k = 43 ∨ k = 44 ∨ k = 45 ∨ k = 46 ∨ k = 47 ∨ k = 48 ∨ k = 49 ∨ k = 50 ∨ k = 51 ∨ k = 52 ∨ k = 53 by omega) with rfl | rfl | rfl | rfl | rfl | rfl | rfl | rfl | rfl | rfl | rfl | rfl | rfl | rfl | rfl | rfl | rfl | rfl | rfl | rfl | rfl | rfl | rfl | rfl | rfl | rfl | rfl | rfl | rfl | rfl | rfl | rfl | rfl | rfl | rfl | rfl | rfl | rfl | rfl | rfl | rfl | rfl | rfl | rfl | rfl | rfl | rfl | rfl | rfl | rfl | rfl | rfl | rfl | rfl
  · exact absurd hk (by decide)
  · exact absurd hk (by decide)
  · exact absurd hk (by decide)
  · exact absurd hk (by decide)
  · exact h4
  · exact h5
  · exact h6
  · exact absurd hk (by decide)
  · exact absurd hk (by decide)
  · exact absurd hk (by decide)
  · exact h10
  · exact h11
  · exact h12
  · exact h13
  · exact h14
  · exact h15
  · exact h16
  · exact h17
  · exact h18
  · exact h19
  · exact h20
  · exact absurd hk (by decide)
  · exact absurd hk (by decide)
  · exact absurd hk (by decide)
  · exact absurd hk (by decide)
  · exact absurd hk (by decide)
  · exact h26
  · exact h27
  · exact h28
  · exact h29
  · exact h30
  · exact h31
  · exact h32
  · exact h33
  · exact h34
  · exact h35
  · exact h36
  · exact h37
  · exact h38
  · exact h39
  · exact h40
  · exact h41
  · exact h42
  · exact h43
  · exact h44
  · exact h45
  · exact h46
  · exact h47
  · exact h48
  · exact absurd hk (by decide)
  · exact absurd hk (by decide)
  · exact absurd hk (by decide)
  · exact absurd hk (by decide)
  · exact h53
/-- the fair at its start -/
def a0_ : gI := fun r => if r = 0 then va_up (fun _ => 0) 9 4 else if r = 5 then va_up (va_up (va_up (va_up (fun _ => 0) 0 (-1)) 1 (-1)) 2 (-1)) 3 (-1) else fun _ => 0
def n0_ : gJ := fun r => if r = 0 then va_up (fun _ => 0) 3 1 else fun _ => 0
set_option maxRecDepth 100000 in
set_option maxHeartbeats 4000000 in
theorem LI.start {T0 T : gSh} {I0 I : gI} {J0 J : gJ} {R0 R : gR} {v x m : Nat} {q r : Nat → Nat} (hB : Bd T0 I0 J0 R0 v T I J R (pl_c_newFair x q ++ pl_m_newModel m r)) : LI T I J R (fun i => (caL x q).getD i 0) m (fun k => (adL r).getD k 0) a0_ n0_ := by
  have h0 : CL T I J R ((x, 11, 0, va_up (fun _ => 0) 5 0, va_up (va_up (fun _ => 0) 6 0) 7 1, va_up (va_up (va_up (va_up (va_up (fun _ => none) 0 (some (q 0))) 1 (some (q 9))) 2 (some (q 22))) 3 (some (q 27))) 4 none)) := hB.cl 0 rfl
  have h1 : CL T I J R (((q 0), 19, 4, fun _ => 0, fun _ => 0, va_up (va_up (va_up (va_up (fun _ => none) 0 (some (q 1))) 1 (some (q 3))) 2 (some (q 5))) 3 (some (q 7)))) := hB.cl 1 rfl
  have h2 : CL T I J R (((q 1), 10, 0, va_up (va_up (va_up (fun _ => 0) 0 1) 1 0) 2 0, fun _ => 0, va_up (fun _ => none) 3 (some (q 2)))) := hB.cl 2 rfl
  have h3 : CL T I J R (zC (q 2) 14 40) := hB.cl 3 rfl
  have h4 : CL T I J R (((q 3), 10, 0, va_up (va_up (va_up (fun _ => 0) 0 1) 1 0) 2 0, fun _ => 0, va_up (fun _ => none) 3 (some (q 4)))) := hB.cl 4 rfl
  have h5 : CL T I J R (zC (q 4) 14 40) := hB.cl 5 rfl
  have h6 : CL T I J R (((q 5), 10, 0, va_up (va_up (va_up (fun _ => 0) 0 1) 1 0) 2 0, fun _ => 0, va_up (fun _ => none) 3 (some (q 6)))) := hB.cl 6 rfl
  have h7 : CL T I J R (zC (q 6) 14 40) := hB.cl 7 rfl
  have h8 : CL T I J R (((q 7), 10, 0, va_up (va_up (va_up (fun _ => 0) 0 1) 1 0) 2 0, fun _ => 0, va_up (fun _ => none) 3 (some (q 8)))) := hB.cl 8 rfl
  have h9 : CL T I J R (zC (q 8) 14 40) := hB.cl 9 rfl
  have h10 : CL T I J R (((q 9), 4, 0, va_up (va_up (va_up (va_up (fun _ => 0) 0 0) 1 0) 2 4) 6 1, fun _ => 0, va_up (va_up (va_up (fun _ => none) 3 (some (q 10))) 4 (some (q 11))) 5 (some (q 19)))) := hB.cl 10 rfl
  have h11 : CL T I J R (zC (q 10) 13 80) := hB.cl 11 rfl
  have h12 : CL T I J R (((q 11), 1, 0, va_up (fun _ => 0) 0 4, fun _ => 0, va_up (va_up (va_up (va_up (va_up (va_up (va_up (fun _ => none) 1 (some (q 12))) 2 (some (q 13))) 3 (some (q 14))) 4 (some (q 15))) 5 (some (q 16))) 6 (some (q 17))) 7 (some (q 18)))) := hB.cl 12 rfl
  have h13 : CL T I J R (zC (q 12) 15 80) := hB.cl 13 rfl
  have h14 : CL T I J R (zC (q 13) 13 80) := hB.cl 14 rfl
  have h15 : CL T I J R (zC (q 14) 13 18) := hB.cl 15 rfl
  have h16 : CL T I J R (zC (q 15) 14 19) := hB.cl 16 rfl
  have h17 : CL T I J R (zC (q 16) 14 19) := hB.cl 17 rfl
  have h18 : CL T I J R (zC (q 17) 13 19) := hB.cl 18 rfl
  have h19 : CL T I J R (zC (q 18) 15 19) := hB.cl 19 rfl
  have h20 : CL T I J R (((q 19), 9, 0, va_up (va_up (fun _ => 0) 0 4) 0 4, fun _ => 0, va_up (va_up (fun _ => none) 1 (some (q 20))) 2 (some (q 21)))) := hB.cl 20 rfl
  have h21 : CL T I J R (((q 20), 13, 64, fl (fun _ => 0) (-1) 64, fun _ => 0, fun _ => none)) := hB.cl 21 rfl
  have h22 : CL T I J R (((q 21), 13, 80, fl (fun _ => 0) (-1) 80, fun _ => 0, fun _ => none)) := hB.cl 22 rfl
  have h23 : CL T I J R (((q 22), 2, 0, va_up (va_up (va_up (fun _ => 0) 0 0) 3 0) 5 0, fun _ => 0, va_up (va_up (va_up (va_up (fun _ => none) 1 (some (q 23))) 2 (some (q 24))) 4 (some (q 25))) 6 (some (q 26)))) := hB.cl 23 rfl
  have h24 : CL T I J R (zC (q 23) 15 12) := hB.cl 24 rfl
  have h25 : CL T I J R (zC (q 24) 15 120) := hB.cl 25 rfl
  have h26 : CL T I J R (zC (q 25) 16 60) := hB.cl 26 rfl
  have h27 : CL T I J R (zC (q 26) 18 30) := hB.cl 27 rfl
  have h28 : CL T I J R (((q 27), 6, 0, va_up (va_up (fun _ => 0) 0 0) 1 0, fun _ => 0, va_up (fun _ => none) 2 (some (q 28)))) := hB.cl 28 rfl
  have h29 : CL T I J R (zC (q 28) 17 60) := hB.cl 29 rfl
  have h30 : CL T I J R ((m, 12, 0, va_up (fun _ => 0) 9 4, va_up (fun _ => 0) 3 1, va_up (va_up (va_up (va_up (va_up (va_up (va_up (va_up (va_up (va_up (va_up (va_up (va_up (va_up (va_up (va_up (va_up (va_up (va_up (va_up (va_up (va_up (va_up (va_up (va_up (va_up (va_up (va_up (va_up (va_up (va_up (va_up (va_up (va_up (va_up (va_up (va_up (va_up (fun _ => none) 4 (some (r 0))) 5 (some (r 1))) 6 (some (r 2))) 10 (some (r 3))) 11 (some (r 4))) 12 (some (r 5))) 13 (some (r 6))) 14 (some (r 7))) 15 (some (r 8))) 16 (some (r 9))) 17 (some (r 10))) 18 (some (r 11))) 19 (some (r 12))) 20 (some (r 13))) 26 (some (r 14))) 27 (some (r 15))) 28 (some (r 16))) 29 (some (r 17))) 30 (some (r 18))) 31 (some (r 19))) 32 (some (r 20))) 33 (some (r 21))) 34 (some (r 22))) 35 (some (r 23))) 36 (some (r 24))) 37 (some (r 25))) 38 (some (r 26))) 39 (some (r 27))) 40 (some (r 28))) 41 (some (r 29))) 42 (some (r 30))) 43 (some (r 31))) 44 (some (r 32))) 45 (some (r 33))) 46 (some (r 34))) 47 (some (r 35))) 48 (some (r 36))) 53 (some (r 37)))) := hB.cl 30 rfl
  have h31 : CL T I J R (zC (r 0) 13 4) := hB.cl 31 rfl
  have h32 : CL T I J R (((r 1), 13, 4, va_up (va_up (va_up (va_up (fun _ => 0) 0 (-1)) 1 (-1)) 2 (-1)) 3 (-1), fun _ => 0, fun _ => none)) := hB.cl 32 rfl
  have h33 : CL T I J R (zC (r 2) 14 160) := hB.cl 33 rfl
  have h34 : CL T I J R (zC (r 3) 13 80) := hB.cl 34 rfl
  have h35 : CL T I J R (zC (r 4) 13 80) := hB.cl 35 rfl
  have h36 : CL T I J R (zC (r 5) 15 80) := hB.cl 36 rfl
  have h37 : CL T I J R (zC (r 6) 13 8) := hB.cl 37 rfl
  have h38 : CL T I J R (zC (r 7) 13 10) := hB.cl 38 rfl
  have h39 : CL T I J R (zC (r 8) 13 18) := hB.cl 39 rfl
  have h40 : CL T I J R (zC (r 9) 13 18) := hB.cl 40 rfl
  have h41 : CL T I J R (zC (r 10) 13 64) := hB.cl 41 rfl
  have h42 : CL T I J R (zC (r 11) 13 80) := hB.cl 42 rfl
  have h43 : CL T I J R (zC (r 12) 13 80) := hB.cl 43 rfl
  have h44 : CL T I J R (zC (r 13) 13 80) := hB.cl 44 rfl
  have h45 : CL T I J R (zC (r 14) 15 12) := hB.cl 45 rfl
  have h46 : CL T I J R (zC (r 15) 15 120) := hB.cl 46 rfl
  have h47 : CL T I J R (zC (r 16) 13 60) := hB.cl 47 rfl
  have h48 : CL T I J R (zC (r 17) 13 60) := hB.cl 48 rfl
  have h49 : CL T I J R (zC (r 18) 13 60) := hB.cl 49 rfl
  have h50 : CL T I J R (zC (r 19) 13 60) := hB.cl 50 rfl
  have h51 : CL T I J R (zC (r 20) 13 60) := hB.cl 51 rfl
  have h52 : CL T I J R (zC (r 21) 13 60) := hB.cl 52 rfl
  have h53 : CL T I J R (zC (r 22) 13 60) := hB.cl 53 rfl
  have h54 : CL T I J R (zC (r 23) 13 60) := hB.cl 54 rfl
  have h55 : CL T I J R (zC (r 24) 13 30) := hB.cl 55 rfl
  have h56 : CL T I J R (zC (r 25) 13 30) := hB.cl 56 rfl
  have h57 : CL T I J R (zC (r 26) 13 30) := hB.cl 57 rfl
  have h58 : CL T I J R (zC (r 27) 13 30) := hB.cl 58 rfl
  have h59 : CL T I J R (zC (r 28) 13 60) := hB.cl 59 rfl
  have h60 : CL T I J R (zC (r 29) 13 60) := hB.cl 60 rfl
  have h61 : CL T I J R (zC (r 30) 13 60) := hB.cl 61 rfl
  have h62 : CL T I J R (zC (r 31) 13 60) := hB.cl 62 rfl
  have h63 : CL T I J R (zC (r 32) 13 60) := hB.cl 63 rfl
  have h64 : CL T I J R (zC (r 33) 13 60) := hB.cl 64 rfl
  have h65 : CL T I J R (zC (r 34) 13 60) := hB.cl 65 rfl
  have h66 : CL T I J R (zC (r 35) 13 60) := hB.cl 66 rfl
  have h67 : CL T I J R (zC (r 36) 13 60) := hB.cl 67 rfl
  have h68 : CL T I J R (zC (r 37) 15 10) := hB.cl 68 rfl
  have pmE : ∀ i, i < 30 → ∃ c : gC, (pl_c_newFair x q ++ pl_m_newModel m r)[pmL.getD i 0]? = some c ∧ c.1 = (caL x q).getD i 0 := fin30 ⟨_, rfl, rfl⟩ ⟨_, rfl, rfl⟩ ⟨_, rfl, rfl⟩ ⟨_, rfl, rfl⟩ ⟨_, rfl, rfl⟩ ⟨_, rfl, rfl⟩ ⟨_, rfl, rfl⟩ ⟨_, rfl, rfl⟩ ⟨_, rfl, rfl⟩ ⟨_, rfl, rfl⟩ ⟨_, rfl, rfl⟩ ⟨_, rfl, rfl⟩ ⟨_, rfl, rfl⟩ ⟨_, rfl, rfl⟩ ⟨_, rfl, rfl⟩ ⟨_, rfl, rfl⟩ ⟨_, rfl, rfl⟩ ⟨_, rfl, rfl⟩ ⟨_, rfl, rfl⟩ ⟨_, rfl, rfl⟩ ⟨_, rfl, rfl⟩ ⟨_, rfl, rfl⟩ ⟨_, rfl, rfl⟩ ⟨_, rfl, rfl⟩ ⟨_, rfl, rfl⟩ ⟨_, rfl, rfl⟩ ⟨_, rfl, rfl⟩ ⟨_, rfl, rfl⟩ ⟨_, rfl, rfl⟩ ⟨_, rfl, rfl⟩
  have pnE : ∀ k, mA k = true → ∃ c : gC, (pl_c_newFair x q ++ pl_m_newModel m r)[pnL.getD k 0]? = some c ∧ c.1 = (adL r).getD k 0 := finM ⟨_, rfl, rfl⟩ ⟨_, rfl, rfl⟩ ⟨_, rfl, rfl⟩ ⟨_, rfl, rfl⟩ ⟨_, rfl, rfl⟩ ⟨_, rfl, rfl⟩ ⟨_, rfl, rfl⟩ ⟨_, rfl, rfl⟩ ⟨_, rfl, rfl⟩ ⟨_, rfl, rfl⟩ ⟨_, rfl, rfl⟩ ⟨_, rfl, rfl⟩ ⟨_, rfl, rfl⟩ ⟨_, rfl, rfl⟩ ⟨_, rfl, rfl⟩ ⟨_, rfl, rfl⟩ ⟨_, rfl, rfl⟩ ⟨_, rfl, rfl⟩ ⟨_, rfl, rfl⟩ ⟨_, rfl, rfl⟩ ⟨_, rfl, rfl⟩ ⟨_, rfl, rfl⟩ ⟨_, rfl, rfl⟩ ⟨_, rfl, rfl⟩ ⟨_, rfl, rfl⟩ ⟨_, rfl, rfl⟩ ⟨_, rfl, rfl⟩ ⟨_, rfl, rfl⟩ ⟨_, rfl, rfl⟩ ⟨_, rfl, rfl⟩ ⟨_, rfl, rfl⟩ ⟨_, rfl, rfl⟩ ⟨_, rfl, rfl⟩ ⟨_, rfl, rfl⟩ ⟨_, rfl, rfl⟩ ⟨_, rfl, rfl⟩ ⟨_, rfl, rfl⟩ ⟨_, rfl, rfl⟩
  have hC : CO T R (fun i => (caL x q).getD i 0) := by
    refine ⟨fin30 ⟨h0.1, h0.2.1, h0.2.2.1⟩ ⟨h1.1, h1.2.1, h1.2.2.1⟩ ⟨h10.1, h10.2.1, h10.2.2.1⟩ ⟨h23.1, h23.2.1, h23.2.2.1⟩ ⟨h28.1, h28.2.1, h28.2.2.1⟩ ⟨h2.1, h2.2.1, h2.2.2.1⟩ ⟨h4.1, h4.2.1, h4.2.2.1⟩ ⟨h6.1, h6.2.1, h6.2.2.1⟩ ⟨h8.1, h8.2.1, h8.2.2.1⟩ ⟨h3.1, h3.2.1, h3.2.2.1⟩ ⟨h5.1, h5.2.1, h5.2.2.1⟩ ⟨h7.1, h7.2.1, h7.2.2.1⟩ ⟨h9.1, h9.2.1, h9.2.2.1⟩ ⟨h11.1, h11.2.1, h11.2.2.1⟩ ⟨h12.1, h12.2.1, h12.2.2.1⟩ ⟨h20.1, h20.2.1, h20.2.2.1⟩ ⟨h13.1, h13.2.1, h13.2.2.1⟩ ⟨h14.1, h14.2.1, h14.2.2.1⟩ ⟨h15.1, h15.2.1, h15.2.2.1⟩ ⟨h16.1, h16.2.1, h16.2.2.1⟩ ⟨h17.1, h17.2.1, h17.2.2.1⟩ ⟨h18.1, h18.2.1, h18.2.2.1⟩ ⟨h19.1, h19.2.1, h19.2.2.1⟩ ⟨h21.1, h21.2.1, h21.2.2.1⟩ ⟨h22.1, h22.2.1, h22.2.2.1⟩ ⟨h24.1, h24.2.1, h24.2.2.1⟩ ⟨h25.1, h25.2.1, h25.2.2.1⟩ ⟨h26.1, h26.2.1, h26.2.2.1⟩ ⟨h27.1, h27.2.1, h27.2.2.1⟩ ⟨h29.1, h29.2.1, h29.2.2.1⟩, ?_, fun i j hi hj e => ?_⟩
    · unfold cRf
      repeat rw [List.forall_mem_cons]
      exact ⟨congrFun h0.2.2.2.2.2 0, congrFun h0.2.2.2.2.2 1, congrFun h0.2.2.2.2.2 2, congrFun h0.2.2.2.2.2 3, congrFun h1.2.2.2.2.2 0, congrFun h1.2.2.2.2.2 1, congrFun h1.2.2.2.2.2 2, congrFun h1.2.2.2.2.2 3, congrFun h2.2.2.2.2.2 3, congrFun h4.2.2.2.2.2 3, congrFun h6.2.2.2.2.2 3, congrFun h8.2.2.2.2.2 3, congrFun h10.2.2.2.2.2 3, congrFun h10.2.2.2.2.2 4, congrFun h10.2.2.2.2.2 5, congrFun h12.2.2.2.2.2 1, congrFun h12.2.2.2.2.2 2, congrFun h12.2.2.2.2.2 3, congrFun h12.2.2.2.2.2 4, congrFun h12.2.2.2.2.2 5, congrFun h12.2.2.2.2.2 6, congrFun h12.2.2.2.2.2 7, congrFun h20.2.2.2.2.2 1, congrFun h20.2.2.2.2.2 2, congrFun h23.2.2.2.2.2 1, congrFun h23.2.2.2.2.2 2, congrFun h23.2.2.2.2.2 4, congrFun h23.2.2.2.2.2 6, congrFun h28.2.2.2.2.2 2, fun _ h => absurd h List.not_mem_nil⟩
    · obtain ⟨c, hc, ec⟩ := pmE i hi
      obtain ⟨d, hd, ed⟩ := pmE j hj
      exact pm_i i hi j hj (hB.2.2.1.2 _ _ c d hc hd (ec.trans (Eq.trans e ed.symm)))
  have hM : MO T R m (fun k => (adL r).getD k 0) := by
    refine ⟨⟨h30.1, h30.2.1⟩, finM ⟨congrFun h30.2.2.2.2.2 4, h31.1, h31.2.1, h31.2.2.1⟩ ⟨congrFun h30.2.2.2.2.2 5, h32.1, h32.2.1, h32.2.2.1⟩ ⟨congrFun h30.2.2.2.2.2 6, h33.1, h33.2.1, h33.2.2.1⟩ ⟨congrFun h30.2.2.2.2.2 10, h34.1, h34.2.1, h34.2.2.1⟩ ⟨congrFun h30.2.2.2.2.2 11, h35.1, h35.2.1, h35.2.2.1⟩ ⟨congrFun h30.2.2.2.2.2 12, h36.1, h36.2.1, h36.2.2.1⟩ ⟨congrFun h30.2.2.2.2.2 13, h37.1, h37.2.1, h37.2.2.1⟩ ⟨congrFun h30.2.2.2.2.2 14, h38.1, h38.2.1, h38.2.2.1⟩ ⟨congrFun h30.2.2.2.2.2 15, h39.1, h39.2.1, h39.2.2.1⟩ ⟨congrFun h30.2.2.2.2.2 16, h40.1, h40.2.1, h40.2.2.1⟩ ⟨congrFun h30.2.2.2.2.2 17, h41.1, h41.2.1, h41.2.2.1⟩ ⟨congrFun h30.2.2.2.2.2 18, h42.1, h42.2.1, h42.2.2.1⟩ ⟨congrFun h30.2.2.2.2.2 19, h43.1, h43.2.1, h43.2.2.1⟩ ⟨congrFun h30.2.2.2.2.2 20, h44.1, h44.2.1, h44.2.2.1⟩ ⟨congrFun h30.2.2.2.2.2 26, h45.1, h45.2.1, h45.2.2.1⟩ ⟨congrFun h30.2.2.2.2.2 27, h46.1, h46.2.1, h46.2.2.1⟩ ⟨congrFun h30.2.2.2.2.2 28, h47.1, h47.2.1, h47.2.2.1⟩ ⟨congrFun h30.2.2.2.2.2 29, h48.1, h48.2.1, h48.2.2.1⟩ ⟨congrFun h30.2.2.2.2.2 30, h49.1, h49.2.1, h49.2.2.1⟩ ⟨congrFun h30.2.2.2.2.2 31, h50.1, h50.2.1, h50.2.2.1⟩ ⟨congrFun h30.2.2.2.2.2 32, h51.1, h51.2.1, h51.2.2.1⟩ ⟨congrFun h30.2.2.2.2.2 33, h52.1, h52.2.1, h52.2.2.1⟩ ⟨congrFun h30.2.2.2.2.2 34, h53.1, h53.2.1, h53.2.2.1⟩ ⟨congrFun h30.2.2.2.2.2 35, h54.1, h54.2.1, h54.2.2.1⟩ ⟨congrFun h30.2.2.2.2.2 36, h55.1, h55.2.1, h55.2.2.1⟩ ⟨congrFun h30.2.2.2.2.2 37, h56.1, h56.2.1, h56.2.2.1⟩ ⟨congrFun h30.2.2.2.2.2 38, h57.1, h57.2.1, h57.2.2.1⟩ ⟨congrFun h30.2.2.2.2.2 39, h58.1, h58.2.1, h58.2.2.1⟩ ⟨congrFun h30.2.2.2.2.2 40, h59.1, h59.2.1, h59.2.2.1⟩ ⟨congrFun h30.2.2.2.2.2 41, h60.1, h60.2.1, h60.2.2.1⟩ ⟨congrFun h30.2.2.2.2.2 42, h61.1, h61.2.1, h61.2.2.1⟩ ⟨congrFun h30.2.2.2.2.2 43, h62.1, h62.2.1, h62.2.2.1⟩ ⟨congrFun h30.2.2.2.2.2 44, h63.1, h63.2.1, h63.2.2.1⟩ ⟨congrFun h30.2.2.2.2.2 45, h64.1, h64.2.1, h64.2.2.1⟩ ⟨congrFun h30.2.2.2.2.2 46, h65.1, h65.2.1, h65.2.2.1⟩ ⟨congrFun h30.2.2.2.2.2 47, h66.1, h66.2.1, h66.2.2.1⟩ ⟨congrFun h30.2.2.2.2.2 48, h67.1, h67.2.1, h67.2.2.1⟩ ⟨congrFun h30.2.2.2.2.2 53, h68.1, h68.2.1, h68.2.2.1⟩, fun j k hj hk e => ?_⟩
    obtain ⟨c, hc, ec⟩ := pnE j hj
    obtain ⟨d, hd, ed⟩ := pnE k hk
    exact pn_i j (mA_lt hj) k (mA_lt hk) hj hk (hB.2.2.1.2 _ _ c d hc hd (ec.trans (Eq.trans e ed.symm)))
  have hA : MA I J m (fun k => (adL r).getD k 0) a0_ n0_ := by
    refine ⟨fun k _ => congrFun h30.2.2.2.1 k, fun k hk => ?_, h30.2.2.2.2.1, h33.2.2.2.2.1⟩
    unfold mR at hk
    rcases (show k = 4 ∨ k = 5 ∨ k = 10 ∨ k = 26 ∨ k = 27 ∨ k = 28 ∨ k = 29 ∨ k = 30 ∨ k = 31 ∨ k = 32 ∨ k = 33 ∨ k = 34 ∨ k = 35 ∨ k = 36 ∨ k = 37 ∨ k = 38 ∨ k = 39 ∨ k = 40 ∨ k = 41 ∨ k = 42 ∨ k = 43 ∨ k = 44 ∨ k = 45 ∨ k = 46 ∨ k = 47 ∨ k = 48 by omega) with rfl | rfl | rfl | rfl | rfl | rfl | rfl | rfl | rfl | rfl | rfl | rfl | rfl | rfl | rfl | rfl | rfl | rfl | rfl | rfl | rfl | rfl | rfl | rfl | rfl | rfl
    · exact h31.2.2.2.1
    · exact h32.2.2.2.1
    · exact h34.2.2.2.1
    · exact h45.2.2.2.1
    · exact h46.2.2.2.1
    · exact h47.2.2.2.1
    · exact h48.2.2.2.1
    · exact h49.2.2.2.1
    · exact h50.2.2.2.1
    · exact h51.2.2.2.1
    · exact h52.2.2.2.1
    · exact h53.2.2.2.1
    · exact h54.2.2.2.1
    · exact h55.2.2.2.1
    · exact h56.2.2.2.1
    · exact h57.2.2.2.1
    · exact h58.2.2.2.1
    · exact h59.2.2.2.1
    · exact h60.2.2.2.1
    · exact h61.2.2.2.1
    · exact h62.2.2.2.1
    · exact h63.2.2.2.1
    · exact h64.2.2.2.1
    · exact h65.2.2.2.1
    · exact h66.2.2.2.1
    · exact h67.2.2.2.1
  have hS : Sep T (fun i => (caL x q).getD i 0) m (fun k => (adL r).getD k 0) := by
    intro y hy
    have hne : ∀ p : Nat, 30 ≤ p → ∀ c : gC, (pl_c_newFair x q ++ pl_m_newModel m r)[p]? = some c → c.1 = y → ¬ ∃ i, i < 30 ∧ y = (fun i => (caL x q).getD i 0) i := by
      rintro p hp c hc ec ⟨i, hi, ei⟩
      obtain ⟨d, hd, ed⟩ := pmE i hi
      have h1 := hB.2.2.1.2 _ _ c d hc hd (ec.trans (Eq.trans ei ed.symm))
      have h2 := pm_l i hi
      omega
    have hdy : ∀ k : Nat, (k = 12 ∨ k = 13 ∨ k = 14 ∨ k = 15) → ¬ dyn k := fun k hk z => by unfold dyn at z; omega
    rcases hy with rfl | ⟨k, hk, rfl⟩
    · exact ⟨h30.1, fun z => by
        rcases z with z | z
        · exact hne 30 (Nat.le_refl 30) _ rfl rfl z
        · rw [show T.2.1 y = 12 from h30.2.1] at z
          exact hdy 12 (Or.inl rfl) z⟩
    · have h3 := hM.2.1 k hk
      obtain ⟨c, hc, ec⟩ := pnE k hk
      refine ⟨h3.2.1, fun z => ?_⟩
      rcases z with z | z
      · exact hne _ (Nat.le_of_lt (pn_l k (mA_lt hk) hk)) c hc ec z
      · rw [h3.2.2.1] at z
        exact hdy _ (finM (P := fun k => (mK.getD k (0, 0)).1 = 12 ∨ (mK.getD k (0, 0)).1 = 13 ∨ (mK.getD k (0, 0)).1 = 14 ∨ (mK.getD k (0, 0)).1 = 15) (by decide) (by decide) (by decide) (by decide) (by decide) (by decide) (by decide) (by decide) (by decide) (by decide) (by decide) (by decide) (by decide) (by decide) (by decide) (by decide) (by decide) (by decide) (by decide) (by decide) (by decide) (by decide) (by decide) (by decide) (by decide) (by decide) (by decide) (by decide) (by decide) (by decide) (by decide) (by decide) (by decide) (by decide) (by decide) (by decide) (by decide) (by decide) k hk) z
  refine ⟨⟨hC, congrFun h0.2.2.2.1 5, ⟨congrFun h0.2.2.2.2.1 6, congrFun h0.2.2.2.2.1 7⟩, fun t ht => ?_, ?_, ?_, ?_, ?_, ?_, ?_⟩, hM, hA, hS⟩
  · left
    rcases (show t = 0 ∨ t = 1 ∨ t = 2 ∨ t = 3 by omega) with rfl | rfl | rfl | rfl
    · exact ⟨congrFun h2.2.2.2.1 0, rfl⟩
    · exact ⟨congrFun h4.2.2.2.1 0, rfl⟩
    · exact ⟨congrFun h6.2.2.2.1 0, rfl⟩
    · exact ⟨congrFun h8.2.2.2.1 0, rfl⟩
  · refine ⟨0, 0, 4, fun _ => 0, ⟨⟨congrFun h10.2.2.2.1 0, by decide⟩, ⟨congrFun h10.2.2.2.1 1, by decide⟩, ⟨congrFun h10.2.2.2.1 2, by decide, by decide⟩, fun p _ => ⟨congrFun h11.2.2.2.1 p, Nat.zero_le _⟩, fun v _ => congrFun h19.2.2.2.1 v, 1, 4, fun _ => 0, fun _ => 0, fun _ => 0, congrFun h10.2.2.2.1 6, Nat.le_refl 1, ?_, OpB.zero (by decide) (by decide), fun _ => ⟨rfl, fun _ _ => rfl, congrFun h20.2.2.2.1 0, ?_⟩⟩, rfl, rfl, rfl, fun p _ => rfl, fun p _ _ => rfl⟩
    · exact ⟨congrFun h12.2.2.2.1 0, by decide, fun p _ => ⟨congrFun h14.2.2.2.1 p, Nat.zero_le _⟩, fun p _ => ⟨congrFun h13.2.2.2.1 p, Nat.zero_le _⟩, fun p _ => ⟨congrFun h15.2.2.2.1 p, Nat.zero_le _⟩⟩
    · have e := TF_skips (h := 4) (c := fun _ => 0) (k := 0) (k2 := 80) (by decide) (fun j _ _ => by decide)
      rw [← e]
      refine ⟨fun p hp => ?_, fun p hp => ?_⟩
      · have e1 : I (q 20) p = fl (fun _ => (0 : Int32)) (-1) 64 p := congrFun h21.2.2.2.1 p
        exact e1.trans ((if_pos hp).trans (show (-1 : Int32) = vI 0 by decide))
      · have e1 : I (q 21) p = fl (fun _ => (0 : Int32)) (-1) 80 p := congrFun h22.2.2.2.1 p
        exact e1.trans ((if_pos hp).trans (show (-1 : Int32) = vI 0 by decide))
  · exact ⟨0, by decide, congrFun h23.2.2.2.1 0, rfl, fun j _ => ⟨congrFun h24.2.2.2.1 j, Or.inl rfl⟩, fun j _ => ⟨congrFun h25.2.2.2.1 j, Or.inl rfl⟩⟩
  · exact ⟨0, by decide, congrFun h23.2.2.2.1 3, rfl, fun _ => 0, fun _ => 0, fun i hi => absurd hi (Nat.not_lt_zero i), fun i j hi => absurd hi (Nat.not_lt_zero i), fun i j hi hj => by omega⟩
  · exact ⟨0, by decide, congrFun h23.2.2.2.1 5, rfl, fun _ => 0, fun i hi => absurd hi (Nat.not_lt_zero i)⟩
  · exact ⟨0, by decide, congrFun h28.2.2.2.1 1, rfl, congrFun h28.2.2.2.1 0, fun _ => 0, fun _ => 0, fun i hi => absurd hi (Nat.not_lt_zero i), fun i j hi => absurd hi (Nat.not_lt_zero i)⟩
  · exact Or.inl ⟨congrFun h0.2.2.2.2.2 4, rfl⟩
