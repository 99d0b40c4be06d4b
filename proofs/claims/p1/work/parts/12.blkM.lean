set_option maxRecDepth 100000 in
theorem b_M_finding_0 {u : UV} {k : Nat} {a0 : Nat} {x1 : Int32} {hi : HI} {hl : HL} {K : Option Value → HI → HL → Prop} : vc u (k + 22) 118 0 [.ref a0, .int x1] [] hi hl K = (kd a0 = 7 ∧ (kd (rf a0 4) = 8 ∧ vp_in (((-1000000001) - x1) + 1) (ln (rf a0 4))) ∧ (kd (rf a0 4) = 8 ∧ vp_in (((-1000000001) - x1) + 1) (ln (rf a0 4))) ∧ kd a0 = 7 ∧ (kd (rf a0 4) = 8 ∧ vp_in 0 (ln (rf a0 4))) ∧ (kd (rf a0 4) = 8 ∧ vp_in 0 (ln (rf a0 4))) ∧ True ∧ K (some (.int x1)) (up2 (up2 hi (rf a0 4) (Int32.toNatClampNeg (((-1000000001) - x1) + 1)) ((hi (rf a0 4) (Int32.toNatClampNeg (((-1000000001) - x1) + 1))) + 1)) (rf a0 4) (Int32.toNatClampNeg 0) (((up2 hi (rf a0 4) (Int32.toNatClampNeg (((-1000000001) - x1) + 1)) ((hi (rf a0 4) (Int32.toNatClampNeg (((-1000000001) - x1) + 1))) + 1)) (rf a0 4) (Int32.toNatClampNeg 0)) + 1)) hl) := rfl
set_option maxRecDepth 100000 in
theorem b_M_within_0 {u : UV} {k : Nat} {x0 : Int32} {x1 : Int32} {x2 : Int32} {hi : HI} {hl : HL} {K : Option Value → HI → HL → Prop} : vc u (k + 3) 119 0 [.int x0, .int x1, .int x2] [] hi hl K = ((x0 < x1 → vc u k 119 14 [.int x0, .int x1, .int x2] [] hi hl K) ∧ (¬ x0 < x1 → vc u k 119 5 [.int x0, .int x1, .int x2] [] hi hl K)) := rfl
set_option maxRecDepth 100000 in
theorem b_M_within_5 {u : UV} {k : Nat} {x0 : Int32} {x1 : Int32} {x2 : Int32} {hi : HI} {hl : HL} {K : Option Value → HI → HL → Prop} : vc u (k + 3) 119 5 [.int x0, .int x1, .int x2] [] hi hl K = ((x2 < x0 → vc u k 119 14 [.int x0, .int x1, .int x2] [] hi hl K) ∧ (¬ x2 < x0 → vc u k 119 10 [.int x0, .int x1, .int x2] [] hi hl K)) := rfl
set_option maxRecDepth 100000 in
theorem b_M_within_10 {u : UV} {k : Nat} {x0 : Int32} {x1 : Int32} {x2 : Int32} {hi : HI} {hl : HL} {K : Option Value → HI → HL → Prop} : vc u (k + 2) 119 10 [.int x0, .int x1, .int x2] [] hi hl K = (vc u k 119 15 [.int x0, .int x1, .int x2] [.int 1] hi hl K) := rfl
set_option maxRecDepth 100000 in
theorem b_M_within_14 {u : UV} {k : Nat} {x0 : Int32} {x1 : Int32} {x2 : Int32} {hi : HI} {hl : HL} {K : Option Value → HI → HL → Prop} : vc u (k + 1) 119 14 [.int x0, .int x1, .int x2] [] hi hl K = (vc u k 119 15 [.int x0, .int x1, .int x2] [.int 0] hi hl K) := rfl
set_option maxRecDepth 100000 in
theorem b_M_within_15 {u : UV} {k : Nat} {x0 : Int32} {x1 : Int32} {x2 : Int32} {y0 : Int32} {hi : HI} {hl : HL} {K : Option Value → HI → HL → Prop} : vc u (k + 1) 119 15 [.int x0, .int x1, .int x2] [.int y0] hi hl K = (((y0 : Int32) = 0 ∨ (y0 : Int32) = 1) ∧ K (some (.int y0)) hi hl) := rfl
set_option maxRecDepth 100000 in
theorem b_M_become_0 {u : UV} {k : Nat} {a0 : Nat} {x1 : Int32} {x2 : Int32} {l3 : Value} {hi : HI} {hl : HL} {K : Option Value → HI → HL → Prop} : vc u (k + 12) 120 0 [.ref a0, .int x1, .int x2, l3] [] hi hl K = (kd a0 = 7 ∧ (kd (rf a0 0) = 8 ∧ vp_in x1 (ln (rf a0 0))) ∧ kd a0 = 7 ∧ (kd (rf a0 0) = 8 ∧ vp_in x1 (ln (rf a0 0))) ∧ True ∧ K (some (.int (hi (rf a0 0) (Int32.toNatClampNeg x1)))) (up2 hi (rf a0 0) (Int32.toNatClampNeg x1) x2) hl) := rfl
set_option maxRecDepth 100000 in
theorem b_M_copyRow_0 {u : UV} {k : Nat} {a0 : Nat} {a1 : Nat} {l2 : Value} {hi : HI} {hl : HL} {K : Option Value → HI → HL → Prop} : vc u (k + 2) 121 0 [.ref a0, .ref a1, l2] [] hi hl K = (Wp u 121 2 [.ref a0, .ref a1, .int 0] [] hi hl K) := rfl
set_option maxRecDepth 100000 in
theorem b_M_copyRow_2 {u : UV} {k : Nat} {a0 : Nat} {a1 : Nat} {x2 : Int32} {hi : HI} {hl : HL} {K : Option Value → HI → HL → Prop} : vc u (k + 3) 121 2 [.ref a0, .ref a1, .int x2] [] hi hl K = (((141 : Int32) ≤ x2 → vc u k 121 21 [.ref a0, .ref a1, .int x2] [] hi hl K) ∧ (¬ (141 : Int32) ≤ x2 → vc u k 121 9 [.ref a0, .ref a1, .int x2] [] hi hl K)) := rfl
set_option maxRecDepth 100000 in
theorem b_M_copyRow_9 {u : UV} {k : Nat} {a0 : Nat} {a1 : Nat} {x2 : Int32} {hi : HI} {hl : HL} {K : Option Value → HI → HL → Prop} : vc u (k + 8) 121 9 [.ref a0, .ref a1, .int x2] [] hi hl K = ((kd a0 = 8 ∧ vp_in x2 (ln a0)) ∧ (kd a1 = 8 ∧ vp_in x2 (ln a1)) ∧ Wp u 121 2 [.ref a0, .ref a1, .int (x2 + 1)] [] (up2 hi a1 (Int32.toNatClampNeg x2) (hi a0 (Int32.toNatClampNeg x2))) hl K) := rfl
set_option maxRecDepth 100000 in
theorem b_M_copyRow_21 {u : UV} {k : Nat} {a0 : Nat} {a1 : Nat} {x2 : Int32} {hi : HI} {hl : HL} {K : Option Value → HI → HL → Prop} : vc u (k + 1) 121 21 [.ref a0, .ref a1, .int x2] [] hi hl K = (mR 121 = none ∧ K none hi hl) := rfl
set_option maxRecDepth 100000 in
theorem b_M_putBack_0 {u : UV} {k : Nat} {a0 : Nat} {x1 : Int32} {hi : HI} {hl : HL} {K : Option Value → HI → HL → Prop} : vc u (k + 5) 122 0 [.ref a0, .int x1] [] hi hl K = (kd a0 = 7 ∧ kd a0 = 7 ∧ Call u 121 [.ref (rf a0 2), .ref (rf a0 0)] hi hl (fun r hi2 hl2 => vc u k 122 11 [.ref a0, .int x1] (r.toList ++ []) hi2 hl2 K)) := rfl
set_option maxRecDepth 100000 in
theorem b_M_putBack_11 {u : UV} {k : Nat} {a0 : Nat} {x1 : Int32} {hi : HI} {hl : HL} {K : Option Value → HI → HL → Prop} : vc u (k + 2) 122 11 [.ref a0, .int x1] [] hi hl K = (True ∧ K (some (.int x1)) hi hl) := rfl
set_option maxRecDepth 100000 in
theorem b_M_isSide_0 {u : UV} {k : Nat} {x0 : Int32} {hi : HI} {hl : HL} {K : Option Value → HI → HL → Prop} : vc u (k + 4) 123 0 [.int x0] [] hi hl K = (Call u 119 [.int x0, .int 0, .int 7] hi hl (fun r hi2 hl2 => vc u k 123 7 [.int x0] (r.toList ++ []) hi2 hl2 K)) := rfl
set_option maxRecDepth 100000 in
theorem b_M_isSide_7 {u : UV} {k : Nat} {x0 : Int32} {y0 : Int32} {hi : HI} {hl : HL} {K : Option Value → HI → HL → Prop} : vc u (k + 1) 123 7 [.int x0] [.int y0] hi hl K = (((y0 : Int32) = 0 ∨ (y0 : Int32) = 1) ∧ K (some (.int y0)) hi hl) := rfl
set_option maxRecDepth 100000 in
theorem b_M_leave_0 {u : UV} {k : Nat} {a0 : Nat} {x1 : Int32} {x2 : Int32} {x3 : Int32} {hi : HI} {hl : HL} {K : Option Value → HI → HL → Prop} : vc u (k + 2) 124 0 [.ref a0, .int x1, .int x2, .int x3] [] hi hl K = (Call u 123 [.int x1] hi hl (fun r hi2 hl2 => vc u k 124 4 [.ref a0, .int x1, .int x2, .int x3] (r.toList ++ []) hi2 hl2 K)) := rfl
set_option maxRecDepth 100000 in
theorem b_M_leave_4 {u : UV} {k : Nat} {a0 : Nat} {x1 : Int32} {x2 : Int32} {x3 : Int32} {y0 : Int32} {hi : HI} {hl : HL} {K : Option Value → HI → HL → Prop} : vc u (k + 1) 124 4 [.ref a0, .int x1, .int x2, .int x3] [.int y0] hi hl K = ((y0 = 0 → vc u k 124 40 [.ref a0, .int x1, .int x2, .int x3] [] hi hl K) ∧ (¬ y0 = 0 → vc u k 124 7 [.ref a0, .int x1, .int x2, .int x3] [] hi hl K)) := rfl
set_option maxRecDepth 100000 in
theorem b_M_leave_7 {u : UV} {k : Nat} {a0 : Nat} {x1 : Int32} {x2 : Int32} {x3 : Int32} {hi : HI} {hl : HL} {K : Option Value → HI → HL → Prop} : vc u (k + 2) 124 7 [.ref a0, .int x1, .int x2, .int x3] [] hi hl K = (Call u 123 [.int x2] hi hl (fun r hi2 hl2 => vc u k 124 11 [.ref a0, .int x1, .int x2, .int x3] (r.toList ++ []) hi2 hl2 K)) := rfl
set_option maxRecDepth 100000 in
theorem b_M_leave_11 {u : UV} {k : Nat} {a0 : Nat} {x1 : Int32} {x2 : Int32} {x3 : Int32} {y0 : Int32} {hi : HI} {hl : HL} {K : Option Value → HI → HL → Prop} : vc u (k + 1) 124 11 [.ref a0, .int x1, .int x2, .int x3] [.int y0] hi hl K = ((y0 = 0 → vc u k 124 40 [.ref a0, .int x1, .int x2, .int x3] [] hi hl K) ∧ (¬ y0 = 0 → vc u k 124 14 [.ref a0, .int x1, .int x2, .int x3] [] hi hl K)) := rfl
set_option maxRecDepth 100000 in
theorem b_M_leave_14 {u : UV} {k : Nat} {a0 : Nat} {x1 : Int32} {x2 : Int32} {x3 : Int32} {hi : HI} {hl : HL} {K : Option Value → HI → HL → Prop} : vc u (k + 4) 124 14 [.ref a0, .int x1, .int x2, .int x3] [] hi hl K = (Call u 119 [.int x3, .int 0, .int 99] hi hl (fun r hi2 hl2 => vc u k 124 21 [.ref a0, .int x1, .int x2, .int x3] (r.toList ++ []) hi2 hl2 K)) := rfl
set_option maxRecDepth 100000 in
theorem b_M_leave_21 {u : UV} {k : Nat} {a0 : Nat} {x1 : Int32} {x2 : Int32} {x3 : Int32} {y0 : Int32} {hi : HI} {hl : HL} {K : Option Value → HI → HL → Prop} : vc u (k + 1) 124 21 [.ref a0, .int x1, .int x2, .int x3] [.int y0] hi hl K = ((y0 = 0 → vc u k 124 40 [.ref a0, .int x1, .int x2, .int x3] [] hi hl K) ∧ (¬ y0 = 0 → vc u k 124 24 [.ref a0, .int x1, .int x2, .int x3] [] hi hl K)) := rfl
set_option maxRecDepth 100000 in
theorem b_M_leave_24 {u : UV} {k : Nat} {a0 : Nat} {x1 : Int32} {x2 : Int32} {x3 : Int32} {hi : HI} {hl : HL} {K : Option Value → HI → HL → Prop} : vc u (k + 10) 124 24 [.ref a0, .int x1, .int x2, .int x3] [] hi hl K = ((kd a0 = 7 ∧ 7 < 8) ∧ Call u 120 [.ref a0, .int ((0 + (8 * x1)) + x2), .int x3] hi hl (fun r hi2 hl2 => vc u k 124 37 [.ref a0, .int x1, .int x2, .int x3] (r.toList ++ []) hi2 hl2 K)) := rfl
set_option maxRecDepth 100000 in
theorem b_M_leave_37 {u : UV} {k : Nat} {a0 : Nat} {x1 : Int32} {x2 : Int32} {x3 : Int32} {y0 : Int32} {hi : HI} {hl : HL} {K : Option Value → HI → HL → Prop} : vc u (k + 1) 124 37 [.ref a0, .int x1, .int x2, .int x3] [.int y0] hi hl K = (vc u k 124 46 [.ref a0, .int x1, .int x2, .int x3] [.int y0] hi hl K) := rfl
set_option maxRecDepth 100000 in
theorem b_M_leave_40 {u : UV} {k : Nat} {a0 : Nat} {x1 : Int32} {x2 : Int32} {x3 : Int32} {hi : HI} {hl : HL} {K : Option Value → HI → HL → Prop} : vc u (k + 3) 124 40 [.ref a0, .int x1, .int x2, .int x3] [] hi hl K = ((kd a0 = 7 ∧ 7 < 8) ∧ Call u 118 [.ref a0, .int (-1000000001)] hi hl (fun r hi2 hl2 => vc u k 124 46 [.ref a0, .int x1, .int x2, .int x3] (r.toList ++ []) hi2 hl2 K)) := rfl
set_option maxRecDepth 100000 in
theorem b_M_leave_46 {u : UV} {k : Nat} {a0 : Nat} {x1 : Int32} {x2 : Int32} {x3 : Int32} {y0 : Int32} {hi : HI} {hl : HL} {K : Option Value → HI → HL → Prop} : vc u (k + 1) 124 46 [.ref a0, .int x1, .int x2, .int x3] [.int y0] hi hl K = (True ∧ K (some (.int y0)) hi hl) := rfl
set_option maxRecDepth 100000 in
theorem b_M_ears_0 {u : UV} {k : Nat} {a0 : Nat} {x1 : Int32} {x2 : Int32} {hi : HI} {hl : HL} {K : Option Value → HI → HL → Prop} : vc u (k + 2) 125 0 [.ref a0, .int x1, .int x2] [] hi hl K = (Call u 123 [.int x1] hi hl (fun r hi2 hl2 => vc u k 125 4 [.ref a0, .int x1, .int x2] (r.toList ++ []) hi2 hl2 K)) := rfl
set_option maxRecDepth 100000 in
theorem b_M_ears_4 {u : UV} {k : Nat} {a0 : Nat} {x1 : Int32} {x2 : Int32} {y0 : Int32} {hi : HI} {hl : HL} {K : Option Value → HI → HL → Prop} : vc u (k + 1) 125 4 [.ref a0, .int x1, .int x2] [.int y0] hi hl K = ((y0 = 0 → vc u k 125 30 [.ref a0, .int x1, .int x2] [] hi hl K) ∧ (¬ y0 = 0 → vc u k 125 7 [.ref a0, .int x1, .int x2] [] hi hl K)) := rfl
set_option maxRecDepth 100000 in
theorem b_M_ears_7 {u : UV} {k : Nat} {a0 : Nat} {x1 : Int32} {x2 : Int32} {hi : HI} {hl : HL} {K : Option Value → HI → HL → Prop} : vc u (k + 2) 125 7 [.ref a0, .int x1, .int x2] [] hi hl K = (Call u 123 [.int x2] hi hl (fun r hi2 hl2 => vc u k 125 11 [.ref a0, .int x1, .int x2] (r.toList ++ []) hi2 hl2 K)) := rfl
set_option maxRecDepth 100000 in
theorem b_M_ears_11 {u : UV} {k : Nat} {a0 : Nat} {x1 : Int32} {x2 : Int32} {y0 : Int32} {hi : HI} {hl : HL} {K : Option Value → HI → HL → Prop} : vc u (k + 1) 125 11 [.ref a0, .int x1, .int x2] [.int y0] hi hl K = ((y0 = 0 → vc u k 125 30 [.ref a0, .int x1, .int x2] [] hi hl K) ∧ (¬ y0 = 0 → vc u k 125 14 [.ref a0, .int x1, .int x2] [] hi hl K)) := rfl
set_option maxRecDepth 100000 in
theorem b_M_ears_14 {u : UV} {k : Nat} {a0 : Nat} {x1 : Int32} {x2 : Int32} {hi : HI} {hl : HL} {K : Option Value → HI → HL → Prop} : vc u (k + 11) 125 14 [.ref a0, .int x1, .int x2] [] hi hl K = (kd a0 = 7 ∧ (kd (rf a0 0) = 8 ∧ vp_in ((0 + (8 * x1)) + x2) (ln (rf a0 0))) ∧ vc u k 125 36 [.ref a0, .int x1, .int x2] [.int (hi (rf a0 0) (Int32.toNatClampNeg ((0 + (8 * x1)) + x2)))] hi hl K) := rfl
set_option maxRecDepth 100000 in
theorem b_M_ears_30 {u : UV} {k : Nat} {a0 : Nat} {x1 : Int32} {x2 : Int32} {hi : HI} {hl : HL} {K : Option Value → HI → HL → Prop} : vc u (k + 3) 125 30 [.ref a0, .int x1, .int x2] [] hi hl K = ((kd a0 = 7 ∧ 7 < 8) ∧ Call u 118 [.ref a0, .int (-1000000001)] hi hl (fun r hi2 hl2 => vc u k 125 36 [.ref a0, .int x1, .int x2] (r.toList ++ []) hi2 hl2 K)) := rfl
set_option maxRecDepth 100000 in
theorem b_M_ears_36 {u : UV} {k : Nat} {a0 : Nat} {x1 : Int32} {x2 : Int32} {y0 : Int32} {hi : HI} {hl : HL} {K : Option Value → HI → HL → Prop} : vc u (k + 1) 125 36 [.ref a0, .int x1, .int x2] [.int y0] hi hl K = (True ∧ K (some (.int y0)) hi hl) := rfl
set_option maxRecDepth 100000 in
theorem b_M_earsOf_0 {u : UV} {k : Nat} {a0 : Nat} {x1 : Int32} {x2 : Int32} {l3 : Value} {l4 : Value} {hi : HI} {hl : HL} {K : Option Value → HI → HL → Prop} : vc u (k + 4) 126 0 [.ref a0, .int x1, .int x2, l3, l4] [] hi hl K = (Wp u 126 5 [.ref a0, .int x1, .int x2, .int 0, .int x1] [] hi hl K) := rfl
set_option maxRecDepth 100000 in
theorem b_M_earsOf_5 {u : UV} {k : Nat} {a0 : Nat} {x1 : Int32} {x2 : Int32} {x3 : Int32} {x4 : Int32} {hi : HI} {hl : HL} {K : Option Value → HI → HL → Prop} : vc u (k + 3) 126 5 [.ref a0, .int x1, .int x2, .int x3, .int x4] [] hi hl K = ((x2 ≤ x4 → vc u k 126 29 [.ref a0, .int x1, .int x2, .int x3, .int x4] [] hi hl K) ∧ (¬ x2 ≤ x4 → vc u k 126 11 [.ref a0, .int x1, .int x2, .int x3, .int x4] [] hi hl K)) := rfl
set_option maxRecDepth 100000 in
theorem b_M_earsOf_11 {u : UV} {k : Nat} {a0 : Nat} {x1 : Int32} {x2 : Int32} {x3 : Int32} {x4 : Int32} {hi : HI} {hl : HL} {K : Option Value → HI → HL → Prop} : vc u (k + 11) 126 11 [.ref a0, .int x1, .int x2, .int x3, .int x4] [] hi hl K = (kd a0 = 7 ∧ (kd (rf a0 0) = 8 ∧ vp_in (0 + x4) (ln (rf a0 0))) ∧ Wp u 126 5 [.ref a0, .int x1, .int x2, .int (x3 + (hi (rf a0 0) (Int32.toNatClampNeg (0 + x4)))), .int (x4 + 1)] [] hi hl K) := rfl
set_option maxRecDepth 100000 in
theorem b_M_earsOf_29 {u : UV} {k : Nat} {a0 : Nat} {x1 : Int32} {x2 : Int32} {x3 : Int32} {x4 : Int32} {hi : HI} {hl : HL} {K : Option Value → HI → HL → Prop} : vc u (k + 2) 126 29 [.ref a0, .int x1, .int x2, .int x3, .int x4] [] hi hl K = (True ∧ K (some (.int x3)) hi hl) := rfl
set_option maxRecDepth 100000 in
theorem b_M_left_0 {u : UV} {k : Nat} {a0 : Nat} {x1 : Int32} {hi : HI} {hl : HL} {K : Option Value → HI → HL → Prop} : vc u (k + 4) 127 0 [.ref a0, .int x1] [] hi hl K = (Call u 119 [.int x1, .int (-1), .int 7] hi hl (fun r hi2 hl2 => vc u k 127 7 [.ref a0, .int x1] (r.toList ++ []) hi2 hl2 K)) := rfl
set_option maxRecDepth 100000 in
theorem b_M_left_7 {u : UV} {k : Nat} {a0 : Nat} {x1 : Int32} {y0 : Int32} {hi : HI} {hl : HL} {K : Option Value → HI → HL → Prop} : vc u (k + 1) 127 7 [.ref a0, .int x1] [.int y0] hi hl K = ((¬ y0 = 0 → vc u k 127 17 [.ref a0, .int x1] [] hi hl K) ∧ (y0 = 0 → vc u k 127 10 [.ref a0, .int x1] [] hi hl K)) := rfl
set_option maxRecDepth 100000 in
theorem b_M_left_10 {u : UV} {k : Nat} {a0 : Nat} {x1 : Int32} {hi : HI} {hl : HL} {K : Option Value → HI → HL → Prop} : vc u (k + 3) 127 10 [.ref a0, .int x1] [] hi hl K = ((kd a0 = 7 ∧ 7 < 8) ∧ Call u 118 [.ref a0, .int (-1000000001)] hi hl (fun r hi2 hl2 => vc u k 127 16 [.ref a0, .int x1] (r.toList ++ []) hi2 hl2 K)) := rfl
set_option maxRecDepth 100000 in
theorem b_M_left_16 {u : UV} {k : Nat} {a0 : Nat} {x1 : Int32} {y0 : Int32} {hi : HI} {hl : HL} {K : Option Value → HI → HL → Prop} : vc u (k + 1) 127 16 [.ref a0, .int x1] [.int y0] hi hl K = (True ∧ K (some (.int y0)) hi hl) := rfl
set_option maxRecDepth 100000 in
theorem b_M_left_17 {u : UV} {k : Nat} {a0 : Nat} {x1 : Int32} {hi : HI} {hl : HL} {K : Option Value → HI → HL → Prop} : vc u (k + 2) 127 17 [.ref a0, .int x1] [] hi hl K = (((0 : Int32) ≤ x1 → vc u k 127 31 [.ref a0, .int x1] [] hi hl K) ∧ (¬ (0 : Int32) ≤ x1 → vc u k 127 21 [.ref a0, .int x1] [] hi hl K)) := rfl
set_option maxRecDepth 100000 in
theorem b_M_left_21 {u : UV} {k : Nat} {a0 : Nat} {x1 : Int32} {hi : HI} {hl : HL} {K : Option Value → HI → HL → Prop} : vc u (k + 4) 127 21 [.ref a0, .int x1] [] hi hl K = ((kd a0 = 7 ∧ 7 < 8) ∧ Call u 126 [.ref a0, .int 0, .int 64] hi hl (fun r hi2 hl2 => vc u k 127 28 [.ref a0, .int x1] (r.toList ++ []) hi2 hl2 K)) := rfl
set_option maxRecDepth 100000 in
theorem b_M_left_28 {u : UV} {k : Nat} {a0 : Nat} {x1 : Int32} {y0 : Int32} {hi : HI} {hl : HL} {K : Option Value → HI → HL → Prop} : vc u (k + 1) 127 28 [.ref a0, .int x1] [.int y0] hi hl K = (vc u k 127 46 [.ref a0, .int x1] [.int y0] hi hl K) := rfl
set_option maxRecDepth 100000 in
theorem b_M_left_31 {u : UV} {k : Nat} {a0 : Nat} {x1 : Int32} {hi : HI} {hl : HL} {K : Option Value → HI → HL → Prop} : vc u (k + 10) 127 31 [.ref a0, .int x1] [] hi hl K = ((kd a0 = 7 ∧ 7 < 8) ∧ Call u 126 [.ref a0, .int (8 * x1), .int ((8 * x1) + 8)] hi hl (fun r hi2 hl2 => vc u k 127 46 [.ref a0, .int x1] (r.toList ++ []) hi2 hl2 K)) := rfl
set_option maxRecDepth 100000 in
theorem b_M_left_46 {u : UV} {k : Nat} {a0 : Nat} {x1 : Int32} {y0 : Int32} {hi : HI} {hl : HL} {K : Option Value → HI → HL → Prop} : vc u (k + 1) 127 46 [.ref a0, .int x1] [.int y0] hi hl K = (True ∧ K (some (.int y0)) hi hl) := rfl
set_option maxRecDepth 100000 in
theorem b_M_raked_0 {u : UV} {k : Nat} {a0 : Nat} {x1 : Int32} {l2 : Value} {l3 : Value} {hi : HI} {hl : HL} {K : Option Value → HI → HL → Prop} : vc u (k + 10) 128 0 [.ref a0, .int x1, l2, l3] [] hi hl K = ((kd a0 = 7 ∧ 7 < 8) ∧ Call u 126 [.ref a0, .int (8 * x1), .int ((8 * x1) + 8)] hi hl (fun r hi2 hl2 => vc u k 128 15 [.ref a0, .int x1, l2, l3] (r.toList ++ []) hi2 hl2 K)) := rfl
set_option maxRecDepth 100000 in
theorem b_M_raked_15 {u : UV} {k : Nat} {a0 : Nat} {x1 : Int32} {l2 : Value} {l3 : Value} {y0 : Int32} {hi : HI} {hl : HL} {K : Option Value → HI → HL → Prop} : vc u (k + 3) 128 15 [.ref a0, .int x1, l2, l3] [.int y0] hi hl K = (Wp u 128 18 [.ref a0, .int x1, .int y0, .int 0] [] hi hl K) := rfl
set_option maxRecDepth 100000 in
theorem b_M_raked_18 {u : UV} {k : Nat} {a0 : Nat} {x1 : Int32} {x2 : Int32} {x3 : Int32} {hi : HI} {hl : HL} {K : Option Value → HI → HL → Prop} : vc u (k + 3) 128 18 [.ref a0, .int x1, .int x2, .int x3] [] hi hl K = (((8 : Int32) ≤ x3 → vc u k 128 44 [.ref a0, .int x1, .int x2, .int x3] [] hi hl K) ∧ (¬ (8 : Int32) ≤ x3 → vc u k 128 24 [.ref a0, .int x1, .int x2, .int x3] [] hi hl K)) := rfl
set_option maxRecDepth 100000 in
theorem b_M_raked_24 {u : UV} {k : Nat} {a0 : Nat} {x1 : Int32} {x2 : Int32} {x3 : Int32} {hi : HI} {hl : HL} {K : Option Value → HI → HL → Prop} : vc u (k + 13) 128 24 [.ref a0, .int x1, .int x2, .int x3] [] hi hl K = (kd a0 = 7 ∧ (kd (rf a0 0) = 8 ∧ vp_in ((0 + (8 * x1)) + x3) (ln (rf a0 0))) ∧ Wp u 128 18 [.ref a0, .int x1, .int x2, .int (x3 + 1)] [] (up2 hi (rf a0 0) (Int32.toNatClampNeg ((0 + (8 * x1)) + x3)) 0) hl K) := rfl
set_option maxRecDepth 100000 in
theorem b_M_raked_44 {u : UV} {k : Nat} {a0 : Nat} {x1 : Int32} {x2 : Int32} {x3 : Int32} {hi : HI} {hl : HL} {K : Option Value → HI → HL → Prop} : vc u (k + 2) 128 44 [.ref a0, .int x1, .int x2, .int x3] [] hi hl K = (True ∧ K (some (.int x2)) hi hl) := rfl
set_option maxRecDepth 100000 in
theorem b_M_rake_0 {u : UV} {k : Nat} {a0 : Nat} {x1 : Int32} {hi : HI} {hl : HL} {K : Option Value → HI → HL → Prop} : vc u (k + 2) 129 0 [.ref a0, .int x1] [] hi hl K = (Call u 123 [.int x1] hi hl (fun r hi2 hl2 => vc u k 129 4 [.ref a0, .int x1] (r.toList ++ []) hi2 hl2 K)) := rfl
set_option maxRecDepth 100000 in
theorem b_M_rake_4 {u : UV} {k : Nat} {a0 : Nat} {x1 : Int32} {y0 : Int32} {hi : HI} {hl : HL} {K : Option Value → HI → HL → Prop} : vc u (k + 1) 129 4 [.ref a0, .int x1] [.int y0] hi hl K = ((y0 = 0 → vc u k 129 15 [.ref a0, .int x1] [] hi hl K) ∧ (¬ y0 = 0 → vc u k 129 7 [.ref a0, .int x1] [] hi hl K)) := rfl
set_option maxRecDepth 100000 in
theorem b_M_rake_7 {u : UV} {k : Nat} {a0 : Nat} {x1 : Int32} {hi : HI} {hl : HL} {K : Option Value → HI → HL → Prop} : vc u (k + 3) 129 7 [.ref a0, .int x1] [] hi hl K = ((kd a0 = 7 ∧ 7 < 8) ∧ Call u 128 [.ref a0, .int x1] hi hl (fun r hi2 hl2 => vc u k 129 12 [.ref a0, .int x1] (r.toList ++ []) hi2 hl2 K)) := rfl
set_option maxRecDepth 100000 in
theorem b_M_rake_12 {u : UV} {k : Nat} {a0 : Nat} {x1 : Int32} {y0 : Int32} {hi : HI} {hl : HL} {K : Option Value → HI → HL → Prop} : vc u (k + 1) 129 12 [.ref a0, .int x1] [.int y0] hi hl K = (vc u k 129 21 [.ref a0, .int x1] [.int y0] hi hl K) := rfl
set_option maxRecDepth 100000 in
theorem b_M_rake_15 {u : UV} {k : Nat} {a0 : Nat} {x1 : Int32} {hi : HI} {hl : HL} {K : Option Value → HI → HL → Prop} : vc u (k + 3) 129 15 [.ref a0, .int x1] [] hi hl K = ((kd a0 = 7 ∧ 7 < 8) ∧ Call u 118 [.ref a0, .int (-1000000001)] hi hl (fun r hi2 hl2 => vc u k 129 21 [.ref a0, .int x1] (r.toList ++ []) hi2 hl2 K)) := rfl
set_option maxRecDepth 100000 in
theorem b_M_rake_21 {u : UV} {k : Nat} {a0 : Nat} {x1 : Int32} {y0 : Int32} {hi : HI} {hl : HL} {K : Option Value → HI → HL → Prop} : vc u (k + 1) 129 21 [.ref a0, .int x1] [.int y0] hi hl K = (True ∧ K (some (.int y0)) hi hl) := rfl
set_option maxRecDepth 100000 in
theorem b_M_let_0 {u : UV} {k : Nat} {a0 : Nat} {x1 : Int32} {x2 : Int32} {l3 : Value} {hi : HI} {hl : HL} {K : Option Value → HI → HL → Prop} : vc u (k + 4) 130 0 [.ref a0, .int x1, .int x2, l3] [] hi hl K = (Call u 119 [.int x1, .int 0, .int 2] hi hl (fun r hi2 hl2 => vc u k 130 6 [.ref a0, .int x1, .int x2, l3] (r.toList ++ []) hi2 hl2 K)) := rfl
set_option maxRecDepth 100000 in
theorem b_M_let_6 {u : UV} {k : Nat} {a0 : Nat} {x1 : Int32} {x2 : Int32} {l3 : Value} {y0 : Int32} {hi : HI} {hl : HL} {K : Option Value → HI → HL → Prop} : vc u (k + 1) 130 6 [.ref a0, .int x1, .int x2, l3] [.int y0] hi hl K = ((y0 = 0 → vc u k 130 34 [.ref a0, .int x1, .int x2, l3] [] hi hl K) ∧ (¬ y0 = 0 → vc u k 130 9 [.ref a0, .int x1, .int x2, l3] [] hi hl K)) := rfl
set_option maxRecDepth 100000 in
theorem b_M_let_9 {u : UV} {k : Nat} {a0 : Nat} {x1 : Int32} {x2 : Int32} {l3 : Value} {hi : HI} {hl : HL} {K : Option Value → HI → HL → Prop} : vc u (k + 4) 130 9 [.ref a0, .int x1, .int x2, l3] [] hi hl K = ((¬ x1 = 0 → vc u k 130 21 [.ref a0, .int x1, .int x2, l3] [.int 0, .int x2] hi hl K) ∧ (x1 = 0 → vc u k 130 15 [.ref a0, .int x1, .int x2, l3] [.int 0, .int x2] hi hl K)) := rfl
set_option maxRecDepth 100000 in
theorem b_M_let_15 {u : UV} {k : Nat} {a0 : Nat} {x1 : Int32} {x2 : Int32} {l3 : Value} {y0 : Int32} {y1 : Int32} {hi : HI} {hl : HL} {K : Option Value → HI → HL → Prop} : vc u (k + 2) 130 15 [.ref a0, .int x1, .int x2, l3] [.int y0, .int y1] hi hl K = (vc u k 130 24 [.ref a0, .int x1, .int x2, l3] [.int 999, .int y0, .int y1] hi hl K) := rfl
set_option maxRecDepth 100000 in
theorem b_M_let_21 {u : UV} {k : Nat} {a0 : Nat} {x1 : Int32} {x2 : Int32} {l3 : Value} {y0 : Int32} {y1 : Int32} {hi : HI} {hl : HL} {K : Option Value → HI → HL → Prop} : vc u (k + 1) 130 21 [.ref a0, .int x1, .int x2, l3] [.int y0, .int y1] hi hl K = (vc u k 130 24 [.ref a0, .int x1, .int x2, l3] [.int 9999, .int y0, .int y1] hi hl K) := rfl
set_option maxRecDepth 100000 in
theorem b_M_let_24 {u : UV} {k : Nat} {a0 : Nat} {x1 : Int32} {x2 : Int32} {l3 : Value} {y0 : Int32} {y1 : Int32} {y2 : Int32} {hi : HI} {hl : HL} {K : Option Value → HI → HL → Prop} : vc u (k + 1) 130 24 [.ref a0, .int x1, .int x2, l3] [.int y0, .int y1, .int y2] hi hl K = (Call u 119 [.int y2, .int y1, .int y0] hi hl (fun r hi2 hl2 => vc u k 130 27 [.ref a0, .int x1, .int x2, l3] (r.toList ++ []) hi2 hl2 K)) := rfl
set_option maxRecDepth 100000 in
theorem b_M_let_27 {u : UV} {k : Nat} {a0 : Nat} {x1 : Int32} {x2 : Int32} {l3 : Value} {y0 : Int32} {hi : HI} {hl : HL} {K : Option Value → HI → HL → Prop} : vc u (k + 1) 130 27 [.ref a0, .int x1, .int x2, l3] [.int y0] hi hl K = ((y0 = 0 → vc u k 130 34 [.ref a0, .int x1, .int x2, l3] [] hi hl K) ∧ (¬ y0 = 0 → vc u k 130 30 [.ref a0, .int x1, .int x2, l3] [] hi hl K)) := rfl
set_option maxRecDepth 100000 in
theorem b_M_let_30 {u : UV} {k : Nat} {a0 : Nat} {x1 : Int32} {x2 : Int32} {l3 : Value} {hi : HI} {hl : HL} {K : Option Value → HI → HL → Prop} : vc u (k + 2) 130 30 [.ref a0, .int x1, .int x2, l3] [] hi hl K = (vc u k 130 35 [.ref a0, .int x1, .int x2, l3] [.int 1] hi hl K) := rfl
set_option maxRecDepth 100000 in
theorem b_M_let_34 {u : UV} {k : Nat} {a0 : Nat} {x1 : Int32} {x2 : Int32} {l3 : Value} {hi : HI} {hl : HL} {K : Option Value → HI → HL → Prop} : vc u (k + 1) 130 34 [.ref a0, .int x1, .int x2, l3] [] hi hl K = (vc u k 130 35 [.ref a0, .int x1, .int x2, l3] [.int 0] hi hl K) := rfl
set_option maxRecDepth 100000 in
theorem b_M_let_35 {u : UV} {k : Nat} {a0 : Nat} {x1 : Int32} {x2 : Int32} {l3 : Value} {y0 : Int32} {hi : HI} {hl : HL} {K : Option Value → HI → HL → Prop} : vc u (k + 3) 130 35 [.ref a0, .int x1, .int x2, l3] [.int y0] hi hl K = ((y0 = 0 → vc u k 130 52 [.ref a0, .int x1, .int x2, .int y0] [] hi hl K) ∧ (¬ y0 = 0 → vc u k 130 40 [.ref a0, .int x1, .int x2, .int y0] [] hi hl K)) := rfl
set_option maxRecDepth 100000 in
theorem b_M_let_40 {u : UV} {k : Nat} {a0 : Nat} {x1 : Int32} {x2 : Int32} {x3 : Int32} {hi : HI} {hl : HL} {K : Option Value → HI → HL → Prop} : vc u (k + 6) 130 40 [.ref a0, .int x1, .int x2, .int x3] [] hi hl K = ((kd a0 = 7 ∧ 7 < 8) ∧ Call u 120 [.ref a0, .int (65 + x1), .int x2] hi hl (fun r hi2 hl2 => vc u k 130 49 [.ref a0, .int x1, .int x2, .int x3] (r.toList ++ []) hi2 hl2 K)) := rfl
set_option maxRecDepth 100000 in
theorem b_M_let_49 {u : UV} {k : Nat} {a0 : Nat} {x1 : Int32} {x2 : Int32} {x3 : Int32} {y0 : Int32} {hi : HI} {hl : HL} {K : Option Value → HI → HL → Prop} : vc u (k + 1) 130 49 [.ref a0, .int x1, .int x2, .int x3] [.int y0] hi hl K = (vc u k 130 58 [.ref a0, .int x1, .int x2, .int x3] [.int y0] hi hl K) := rfl
set_option maxRecDepth 100000 in
theorem b_M_let_52 {u : UV} {k : Nat} {a0 : Nat} {x1 : Int32} {x2 : Int32} {x3 : Int32} {hi : HI} {hl : HL} {K : Option Value → HI → HL → Prop} : vc u (k + 3) 130 52 [.ref a0, .int x1, .int x2, .int x3] [] hi hl K = ((kd a0 = 7 ∧ 7 < 8) ∧ Call u 118 [.ref a0, .int (-1000000001)] hi hl (fun r hi2 hl2 => vc u k 130 58 [.ref a0, .int x1, .int x2, .int x3] (r.toList ++ []) hi2 hl2 K)) := rfl
set_option maxRecDepth 100000 in
theorem b_M_let_58 {u : UV} {k : Nat} {a0 : Nat} {x1 : Int32} {x2 : Int32} {x3 : Int32} {y0 : Int32} {hi : HI} {hl : HL} {K : Option Value → HI → HL → Prop} : vc u (k + 1) 130 58 [.ref a0, .int x1, .int x2, .int x3] [.int y0] hi hl K = (True ∧ K (some (.int y0)) hi hl) := rfl
set_option maxRecDepth 100000 in
theorem b_M_isGleaner_0 {u : UV} {k : Nat} {a0 : Nat} {x1 : Int32} {hi : HI} {hl : HL} {K : Option Value → HI → HL → Prop} : vc u (k + 9) 131 0 [.ref a0, .int x1] [] hi hl K = (kd a0 = 7 ∧ (kd (rf a0 0) = 8 ∧ vp_in 68 (ln (rf a0 0))) ∧ Call u 119 [.int x1, .int 0, .int ((hi (rf a0 0) (Int32.toNatClampNeg 68)) - 1)] hi hl (fun r hi2 hl2 => vc u k 131 14 [.ref a0, .int x1] (r.toList ++ []) hi2 hl2 K)) := rfl
set_option maxRecDepth 100000 in
theorem b_M_isGleaner_14 {u : UV} {k : Nat} {a0 : Nat} {x1 : Int32} {y0 : Int32} {hi : HI} {hl : HL} {K : Option Value → HI → HL → Prop} : vc u (k + 1) 131 14 [.ref a0, .int x1] [.int y0] hi hl K = (((y0 : Int32) = 0 ∨ (y0 : Int32) = 1) ∧ K (some (.int y0)) hi hl) := rfl
set_option maxRecDepth 100000 in
theorem b_M_at_0 {u : UV} {k : Nat} {x0 : Int32} {x1 : Int32} {hi : HI} {hl : HL} {K : Option Value → HI → HL → Prop} : vc u (k + 8) 132 0 [.int x0, .int x1] [] hi hl K = (True ∧ K (some (.int ((69 + (8 * x0)) + x1))) hi hl) := rfl
set_option maxRecDepth 100000 in
theorem b_M_gleanerIs_0 {u : UV} {k : Nat} {a0 : Nat} {x1 : Int32} {x2 : Int32} {hi : HI} {hl : HL} {K : Option Value → HI → HL → Prop} : vc u (k + 5) 133 0 [.ref a0, .int x1, .int x2] [] hi hl K = (kd a0 = 7 ∧ Call u 132 [.int x1, .int x2] hi hl (fun r hi2 hl2 => vc u k 133 9 [.ref a0, .int x1, .int x2] (r.toList ++ [.ref (rf a0 0)]) hi2 hl2 K)) := rfl
set_option maxRecDepth 100000 in
theorem b_M_gleanerIs_9 {u : UV} {k : Nat} {a0 : Nat} {x1 : Int32} {x2 : Int32} {y0 : Int32} {c1 : Nat} {hi : HI} {hl : HL} {K : Option Value → HI → HL → Prop} : vc u (k + 2) 133 9 [.ref a0, .int x1, .int x2] [.int y0, .ref c1] hi hl K = ((kd c1 = 8 ∧ vp_in y0 (ln c1)) ∧ True ∧ K (some (.int (hi c1 (Int32.toNatClampNeg y0)))) hi hl) := rfl
set_option maxRecDepth 100000 in
theorem b_M_isKind_0 {u : UV} {k : Nat} {x0 : Int32} {hi : HI} {hl : HL} {K : Option Value → HI → HL → Prop} : vc u (k + 4) 134 0 [.int x0] [] hi hl K = (Call u 119 [.int x0, .int 0, .int 5] hi hl (fun r hi2 hl2 => vc u k 134 6 [.int x0] (r.toList ++ []) hi2 hl2 K)) := rfl
set_option maxRecDepth 100000 in
theorem b_M_isKind_6 {u : UV} {k : Nat} {x0 : Int32} {y0 : Int32} {hi : HI} {hl : HL} {K : Option Value → HI → HL → Prop} : vc u (k + 1) 134 6 [.int x0] [.int y0] hi hl K = (((y0 : Int32) = 0 ∨ (y0 : Int32) = 1) ∧ K (some (.int y0)) hi hl) := rfl
set_option maxRecDepth 100000 in
theorem b_M_isHouse_0 {u : UV} {k : Nat} {x0 : Int32} {hi : HI} {hl : HL} {K : Option Value → HI → HL → Prop} : vc u (k + 4) 135 0 [.int x0] [] hi hl K = (Call u 119 [.int x0, .int 0, .int 4] hi hl (fun r hi2 hl2 => vc u k 135 6 [.int x0] (r.toList ++ []) hi2 hl2 K)) := rfl
set_option maxRecDepth 100000 in
theorem b_M_isHouse_6 {u : UV} {k : Nat} {x0 : Int32} {y0 : Int32} {hi : HI} {hl : HL} {K : Option Value → HI → HL → Prop} : vc u (k + 1) 135 6 [.int x0] [.int y0] hi hl K = (((y0 : Int32) = 0 ∨ (y0 : Int32) = 1) ∧ K (some (.int y0)) hi hl) := rfl
set_option maxRecDepth 100000 in
theorem b_M_came_0 {u : UV} {k : Nat} {a0 : Nat} {x1 : Int32} {x2 : Int32} {x3 : Int32} {x4 : Int32} {x5 : Int32} {l6 : Value} {l7 : Value} {hi : HI} {hl : HL} {K : Option Value → HI → HL → Prop} : vc u (k + 7) 136 0 [.ref a0, .int x1, .int x2, .int x3, .int x4, .int x5, l6, l7] [] hi hl K = (kd a0 = 7 ∧ (kd (rf a0 0) = 8 ∧ vp_in 68 (ln (rf a0 0))) ∧ Wp u 136 12 [.ref a0, .int x1, .int x2, .int x3, .int x4, .int x5, .int (hi (rf a0 0) (Int32.toNatClampNeg 68)), .int 0] [] hi hl K) := rfl
set_option maxRecDepth 100000 in
theorem b_M_came_12 {u : UV} {k : Nat} {a0 : Nat} {x1 : Int32} {x2 : Int32} {x3 : Int32} {x4 : Int32} {x5 : Int32} {x6 : Int32} {x7 : Int32} {hi : HI} {hl : HL} {K : Option Value → HI → HL → Prop} : vc u (k + 3) 136 12 [.ref a0, .int x1, .int x2, .int x3, .int x4, .int x5, .int x6, .int x7] [] hi hl K = (((8 : Int32) ≤ x7 → vc u k 136 38 [.ref a0, .int x1, .int x2, .int x3, .int x4, .int x5, .int x6, .int x7] [] hi hl K) ∧ (¬ (8 : Int32) ≤ x7 → vc u k 136 19 [.ref a0, .int x1, .int x2, .int x3, .int x4, .int x5, .int x6, .int x7] [] hi hl K)) := rfl
set_option maxRecDepth 100000 in
theorem b_M_came_19 {u : UV} {k : Nat} {a0 : Nat} {x1 : Int32} {x2 : Int32} {x3 : Int32} {x4 : Int32} {x5 : Int32} {x6 : Int32} {x7 : Int32} {hi : HI} {hl : HL} {K : Option Value → HI → HL → Prop} : vc u (k + 5) 136 19 [.ref a0, .int x1, .int x2, .int x3, .int x4, .int x5, .int x6, .int x7] [] hi hl K = (kd a0 = 7 ∧ Call u 132 [.int x6, .int x7] hi hl (fun r hi2 hl2 => vc u k 136 30 [.ref a0, .int x1, .int x2, .int x3, .int x4, .int x5, .int x6, .int x7] (r.toList ++ [.ref (rf a0 0)]) hi2 hl2 K)) := rfl
set_option maxRecDepth 100000 in
theorem b_M_came_30 {u : UV} {k : Nat} {a0 : Nat} {x1 : Int32} {x2 : Int32} {x3 : Int32} {x4 : Int32} {x5 : Int32} {x6 : Int32} {x7 : Int32} {y0 : Int32} {c1 : Nat} {hi : HI} {hl : HL} {K : Option Value → HI → HL → Prop} : vc u (k + 4) 136 30 [.ref a0, .int x1, .int x2, .int x3, .int x4, .int x5, .int x6, .int x7] [.int y0, .ref c1] hi hl K = ((kd c1 = 8 ∧ vp_in y0 (ln c1)) ∧ Wp u 136 12 [.ref a0, .int x1, .int x2, .int x3, .int x4, .int x5, .int x6, .int (x7 + 1)] [] (up2 hi c1 (Int32.toNatClampNeg y0) 0) hl K) := rfl
set_option maxRecDepth 100000 in
theorem b_M_came_38 {u : UV} {k : Nat} {a0 : Nat} {x1 : Int32} {x2 : Int32} {x3 : Int32} {x4 : Int32} {x5 : Int32} {x6 : Int32} {x7 : Int32} {hi : HI} {hl : HL} {K : Option Value → HI → HL → Prop} : vc u (k + 5) 136 38 [.ref a0, .int x1, .int x2, .int x3, .int x4, .int x5, .int x6, .int x7] [] hi hl K = (kd a0 = 7 ∧ Call u 132 [.int x6, .int 0] hi hl (fun r hi2 hl2 => vc u k 136 48 [.ref a0, .int x1, .int x2, .int x3, .int x4, .int x5, .int x6, .int x7] (r.toList ++ [.ref (rf a0 0)]) hi2 hl2 K)) := rfl
set_option maxRecDepth 100000 in
theorem b_M_came_48 {u : UV} {k : Nat} {a0 : Nat} {x1 : Int32} {x2 : Int32} {x3 : Int32} {x4 : Int32} {x5 : Int32} {x6 : Int32} {x7 : Int32} {y0 : Int32} {c1 : Nat} {hi : HI} {hl : HL} {K : Option Value → HI → HL → Prop} : vc u (k + 7) 136 48 [.ref a0, .int x1, .int x2, .int x3, .int x4, .int x5, .int x6, .int x7] [.int y0, .ref c1] hi hl K = ((kd c1 = 8 ∧ vp_in y0 (ln c1)) ∧ kd a0 = 7 ∧ Call u 132 [.int x6, .int 1] (up2 hi c1 (Int32.toNatClampNeg y0) x1) hl (fun r hi2 hl2 => vc u k 136 60 [.ref a0, .int x1, .int x2, .int x3, .int x4, .int x5, .int x6, .int x7] (r.toList ++ [.ref (rf a0 0)]) hi2 hl2 K)) := rfl
set_option maxRecDepth 100000 in
theorem b_M_came_60 {u : UV} {k : Nat} {a0 : Nat} {x1 : Int32} {x2 : Int32} {x3 : Int32} {x4 : Int32} {x5 : Int32} {x6 : Int32} {x7 : Int32} {y0 : Int32} {c1 : Nat} {hi : HI} {hl : HL} {K : Option Value → HI → HL → Prop} : vc u (k + 7) 136 60 [.ref a0, .int x1, .int x2, .int x3, .int x4, .int x5, .int x6, .int x7] [.int y0, .ref c1] hi hl K = ((kd c1 = 8 ∧ vp_in y0 (ln c1)) ∧ kd a0 = 7 ∧ Call u 132 [.int x6, .int 2] (up2 hi c1 (Int32.toNatClampNeg y0) x2) hl (fun r hi2 hl2 => vc u k 136 72 [.ref a0, .int x1, .int x2, .int x3, .int x4, .int x5, .int x6, .int x7] (r.toList ++ [.ref (rf a0 0)]) hi2 hl2 K)) := rfl
set_option maxRecDepth 100000 in
theorem b_M_came_72 {u : UV} {k : Nat} {a0 : Nat} {x1 : Int32} {x2 : Int32} {x3 : Int32} {x4 : Int32} {x5 : Int32} {x6 : Int32} {x7 : Int32} {y0 : Int32} {c1 : Nat} {hi : HI} {hl : HL} {K : Option Value → HI → HL → Prop} : vc u (k + 7) 136 72 [.ref a0, .int x1, .int x2, .int x3, .int x4, .int x5, .int x6, .int x7] [.int y0, .ref c1] hi hl K = ((kd c1 = 8 ∧ vp_in y0 (ln c1)) ∧ kd a0 = 7 ∧ Call u 132 [.int x6, .int 3] (up2 hi c1 (Int32.toNatClampNeg y0) x3) hl (fun r hi2 hl2 => vc u k 136 84 [.ref a0, .int x1, .int x2, .int x3, .int x4, .int x5, .int x6, .int x7] (r.toList ++ [.ref (rf a0 0)]) hi2 hl2 K)) := rfl
set_option maxRecDepth 100000 in
theorem b_M_came_84 {u : UV} {k : Nat} {a0 : Nat} {x1 : Int32} {x2 : Int32} {x3 : Int32} {x4 : Int32} {x5 : Int32} {x6 : Int32} {x7 : Int32} {y0 : Int32} {c1 : Nat} {hi : HI} {hl : HL} {K : Option Value → HI → HL → Prop} : vc u (k + 7) 136 84 [.ref a0, .int x1, .int x2, .int x3, .int x4, .int x5, .int x6, .int x7] [.int y0, .ref c1] hi hl K = ((kd c1 = 8 ∧ vp_in y0 (ln c1)) ∧ kd a0 = 7 ∧ Call u 132 [.int x6, .int 6] (up2 hi c1 (Int32.toNatClampNeg y0) x4) hl (fun r hi2 hl2 => vc u k 136 98 [.ref a0, .int x1, .int x2, .int x3, .int x4, .int x5, .int x6, .int x7] (r.toList ++ [.ref (rf a0 0)]) hi2 hl2 K)) := rfl
set_option maxRecDepth 100000 in
theorem b_M_came_98 {u : UV} {k : Nat} {a0 : Nat} {x1 : Int32} {x2 : Int32} {x3 : Int32} {x4 : Int32} {x5 : Int32} {x6 : Int32} {x7 : Int32} {y0 : Int32} {c1 : Nat} {hi : HI} {hl : HL} {K : Option Value → HI → HL → Prop} : vc u (k + 12) 136 98 [.ref a0, .int x1, .int x2, .int x3, .int x4, .int x5, .int x6, .int x7] [.int y0, .ref c1] hi hl K = ((kd c1 = 8 ∧ vp_in y0 (ln c1)) ∧ kd a0 = 7 ∧ (kd (rf a0 0) = 8 ∧ vp_in 68 (ln (rf a0 0))) ∧ (kd (rf a0 0) = 8 ∧ vp_in 68 (ln (rf a0 0))) ∧ True ∧ K (some (.int x6)) (up2 (up2 hi c1 (Int32.toNatClampNeg y0) x5) (rf a0 0) (Int32.toNatClampNeg 68) (((up2 hi c1 (Int32.toNatClampNeg y0) x5) (rf a0 0) (Int32.toNatClampNeg 68)) + 1)) hl) := rfl
set_option maxRecDepth 100000 in
theorem b_M_gleaner_0 {u : UV} {k : Nat} {a0 : Nat} {x1 : Int32} {x2 : Int32} {x3 : Int32} {hi : HI} {hl : HL} {K : Option Value → HI → HL → Prop} : vc u (k + 2) 137 0 [.ref a0, .int x1, .int x2, .int x3] [] hi hl K = (Call u 134 [.int x1] hi hl (fun r hi2 hl2 => vc u k 137 4 [.ref a0, .int x1, .int x2, .int x3] (r.toList ++ []) hi2 hl2 K)) := rfl
set_option maxRecDepth 100000 in
theorem b_M_gleaner_4 {u : UV} {k : Nat} {a0 : Nat} {x1 : Int32} {x2 : Int32} {x3 : Int32} {y0 : Int32} {hi : HI} {hl : HL} {K : Option Value → HI → HL → Prop} : vc u (k + 1) 137 4 [.ref a0, .int x1, .int x2, .int x3] [.int y0] hi hl K = ((y0 = 0 → vc u k 137 21 [.ref a0, .int x1, .int x2, .int x3] [] hi hl K) ∧ (¬ y0 = 0 → vc u k 137 7 [.ref a0, .int x1, .int x2, .int x3] [] hi hl K)) := rfl
set_option maxRecDepth 100000 in
theorem b_M_gleaner_7 {u : UV} {k : Nat} {a0 : Nat} {x1 : Int32} {x2 : Int32} {x3 : Int32} {hi : HI} {hl : HL} {K : Option Value → HI → HL → Prop} : vc u (k + 2) 137 7 [.ref a0, .int x1, .int x2, .int x3] [] hi hl K = (Call u 123 [.int x2] hi hl (fun r hi2 hl2 => vc u k 137 11 [.ref a0, .int x1, .int x2, .int x3] (r.toList ++ []) hi2 hl2 K)) := rfl
set_option maxRecDepth 100000 in
theorem b_M_gleaner_11 {u : UV} {k : Nat} {a0 : Nat} {x1 : Int32} {x2 : Int32} {x3 : Int32} {y0 : Int32} {hi : HI} {hl : HL} {K : Option Value → HI → HL → Prop} : vc u (k + 1) 137 11 [.ref a0, .int x1, .int x2, .int x3] [.int y0] hi hl K = ((y0 = 0 → vc u k 137 21 [.ref a0, .int x1, .int x2, .int x3] [] hi hl K) ∧ (¬ y0 = 0 → vc u k 137 14 [.ref a0, .int x1, .int x2, .int x3] [] hi hl K)) := rfl
set_option maxRecDepth 100000 in
theorem b_M_gleaner_14 {u : UV} {k : Nat} {a0 : Nat} {x1 : Int32} {x2 : Int32} {x3 : Int32} {hi : HI} {hl : HL} {K : Option Value → HI → HL → Prop} : vc u (k + 2) 137 14 [.ref a0, .int x1, .int x2, .int x3] [] hi hl K = (Call u 135 [.int x3] hi hl (fun r hi2 hl2 => vc u k 137 18 [.ref a0, .int x1, .int x2, .int x3] (r.toList ++ []) hi2 hl2 K)) := rfl
set_option maxRecDepth 100000 in
theorem b_M_gleaner_18 {u : UV} {k : Nat} {a0 : Nat} {x1 : Int32} {x2 : Int32} {x3 : Int32} {y0 : Int32} {hi : HI} {hl : HL} {K : Option Value → HI → HL → Prop} : vc u (k + 1) 137 18 [.ref a0, .int x1, .int x2, .int x3] [.int y0] hi hl K = ((¬ y0 = 0 → vc u k 137 28 [.ref a0, .int x1, .int x2, .int x3] [] hi hl K) ∧ (y0 = 0 → vc u k 137 21 [.ref a0, .int x1, .int x2, .int x3] [] hi hl K)) := rfl
set_option maxRecDepth 100000 in
theorem b_M_gleaner_21 {u : UV} {k : Nat} {a0 : Nat} {x1 : Int32} {x2 : Int32} {x3 : Int32} {hi : HI} {hl : HL} {K : Option Value → HI → HL → Prop} : vc u (k + 3) 137 21 [.ref a0, .int x1, .int x2, .int x3] [] hi hl K = ((kd a0 = 7 ∧ 7 < 8) ∧ Call u 118 [.ref a0, .int (-1000000001)] hi hl (fun r hi2 hl2 => vc u k 137 27 [.ref a0, .int x1, .int x2, .int x3] (r.toList ++ []) hi2 hl2 K)) := rfl
set_option maxRecDepth 100000 in
theorem b_M_gleaner_27 {u : UV} {k : Nat} {a0 : Nat} {x1 : Int32} {x2 : Int32} {x3 : Int32} {y0 : Int32} {hi : HI} {hl : HL} {K : Option Value → HI → HL → Prop} : vc u (k + 1) 137 27 [.ref a0, .int x1, .int x2, .int x3] [.int y0] hi hl K = (True ∧ K (some (.int y0)) hi hl) := rfl
set_option maxRecDepth 100000 in
theorem b_M_gleaner_28 {u : UV} {k : Nat} {a0 : Nat} {x1 : Int32} {x2 : Int32} {x3 : Int32} {hi : HI} {hl : HL} {K : Option Value → HI → HL → Prop} : vc u (k + 6) 137 28 [.ref a0, .int x1, .int x2, .int x3] [] hi hl K = (kd a0 = 7 ∧ (kd (rf a0 0) = 8 ∧ vp_in 68 (ln (rf a0 0))) ∧ (¬ (hi (rf a0 0) (Int32.toNatClampNeg 68)) = 9 → vc u k 137 49 [.ref a0, .int x1, .int x2, .int x3] [] hi hl K) ∧ ((hi (rf a0 0) (Int32.toNatClampNeg 68)) = 9 → vc u k 137 40 [.ref a0, .int x1, .int x2, .int x3] [] hi hl K)) := rfl
set_option maxRecDepth 100000 in
theorem b_M_gleaner_40 {u : UV} {k : Nat} {a0 : Nat} {x1 : Int32} {x2 : Int32} {x3 : Int32} {hi : HI} {hl : HL} {K : Option Value → HI → HL → Prop} : vc u (k + 3) 137 40 [.ref a0, .int x1, .int x2, .int x3] [] hi hl K = ((kd a0 = 7 ∧ 7 < 8) ∧ Call u 118 [.ref a0, .int (-1000000002)] hi hl (fun r hi2 hl2 => vc u k 137 46 [.ref a0, .int x1, .int x2, .int x3] (r.toList ++ []) hi2 hl2 K)) := rfl
set_option maxRecDepth 100000 in
theorem b_M_gleaner_46 {u : UV} {k : Nat} {a0 : Nat} {x1 : Int32} {x2 : Int32} {x3 : Int32} {y0 : Int32} {hi : HI} {hl : HL} {K : Option Value → HI → HL → Prop} : vc u (k + 1) 137 46 [.ref a0, .int x1, .int x2, .int x3] [.int y0] hi hl K = (vc u k 137 58 [.ref a0, .int x1, .int x2, .int x3] [.int y0] hi hl K) := rfl
set_option maxRecDepth 100000 in
theorem b_M_gleaner_49 {u : UV} {k : Nat} {a0 : Nat} {x1 : Int32} {x2 : Int32} {x3 : Int32} {hi : HI} {hl : HL} {K : Option Value → HI → HL → Prop} : vc u (k + 7) 137 49 [.ref a0, .int x1, .int x2, .int x3] [] hi hl K = ((kd a0 = 7 ∧ 7 < 8) ∧ Call u 136 [.ref a0, .int x1, .int x2, .int 0, .int x3, .int 0] hi hl (fun r hi2 hl2 => vc u k 137 58 [.ref a0, .int x1, .int x2, .int x3] (r.toList ++ []) hi2 hl2 K)) := rfl
set_option maxRecDepth 100000 in
theorem b_M_gleaner_58 {u : UV} {k : Nat} {a0 : Nat} {x1 : Int32} {x2 : Int32} {x3 : Int32} {y0 : Int32} {hi : HI} {hl : HL} {K : Option Value → HI → HL → Prop} : vc u (k + 1) 137 58 [.ref a0, .int x1, .int x2, .int x3] [.int y0] hi hl K = (True ∧ K (some (.int y0)) hi hl) := rfl
set_option maxRecDepth 100000 in
theorem b_M_takesOf_0 {u : UV} {k : Nat} {x0 : Int32} {x1 : Int32} {hi : HI} {hl : HL} {K : Option Value → HI → HL → Prop} : vc u (k + 2) 138 0 [.int x0, .int x1] [] hi hl K = ((¬ (x0 : Int32) = 1 ∧ ¬ (x0 : Int32) = 2 ∧ ¬ (x0 : Int32) = 3 ∧ ¬ (x0 : Int32) = 4 ∧ ¬ (x0 : Int32) = 5 ∧ True → vc u k 138 55 [.int x0, .int x1] [] hi hl K) ∧ ((x0 : Int32) = 1 → vc u k 138 36 [.int x0, .int x1] [] hi hl K) ∧ ((x0 : Int32) = 2 → vc u k 138 42 [.int x0, .int x1] [] hi hl K) ∧ ((x0 : Int32) = 3 → vc u k 138 46 [.int x0, .int x1] [] hi hl K) ∧ ((x0 : Int32) = 4 → vc u k 138 42 [.int x0, .int x1] [] hi hl K) ∧ ((x0 : Int32) = 5 → vc u k 138 48 [.int x0, .int x1] [] hi hl K) ∧ True) := rfl
set_option maxRecDepth 100000 in
theorem b_M_takesOf_36 {u : UV} {k : Nat} {x0 : Int32} {x1 : Int32} {hi : HI} {hl : HL} {K : Option Value → HI → HL → Prop} : vc u (k + 4) 138 36 [.int x0, .int x1] [] hi hl K = (True ∧ K (some (.int (if (x1 : Int32) < (1 : Int32) then x1 else 1))) hi hl) := rfl
set_option maxRecDepth 100000 in
theorem b_M_takesOf_42 {u : UV} {k : Nat} {x0 : Int32} {x1 : Int32} {hi : HI} {hl : HL} {K : Option Value → HI → HL → Prop} : vc u (k + 4) 138 42 [.int x0, .int x1] [] hi hl K = (¬ (3 : Int32) = 0 ∧ True ∧ K (some (.int (x1 / 3))) hi hl) := rfl
set_option maxRecDepth 100000 in
theorem b_M_takesOf_46 {u : UV} {k : Nat} {x0 : Int32} {x1 : Int32} {hi : HI} {hl : HL} {K : Option Value → HI → HL → Prop} : vc u (k + 2) 138 46 [.int x0, .int x1] [] hi hl K = (True ∧ K (some (.int x1)) hi hl) := rfl
set_option maxRecDepth 100000 in
theorem b_M_takesOf_48 {u : UV} {k : Nat} {x0 : Int32} {x1 : Int32} {hi : HI} {hl : HL} {K : Option Value → HI → HL → Prop} : vc u (k + 4) 138 48 [.int x0, .int x1] [] hi hl K = (True ∧ K (some (.int (if (x1 : Int32) < (9 : Int32) then x1 else 9))) hi hl) := rfl
set_option maxRecDepth 100000 in
theorem b_M_takesOf_55 {u : UV} {k : Nat} {x0 : Int32} {x1 : Int32} {hi : HI} {hl : HL} {K : Option Value → HI → HL → Prop} : vc u (k + 8) 138 55 [.int x0, .int x1] [] hi hl K = (¬ (2 : Int32) = 0 ∧ True ∧ K (some (.int (if (x1 : Int32) < (((x1 / 2) + 1) : Int32) then x1 else ((x1 / 2) + 1)))) hi hl) := rfl
set_option maxRecDepth 100000 in
theorem b_M_goes_0 {u : UV} {k : Nat} {a0 : Nat} {x1 : Int32} {l2 : Value} {hi : HI} {hl : HL} {K : Option Value → HI → HL → Prop} : vc u (k + 4) 139 0 [.ref a0, .int x1, l2] [] hi hl K = ((kd a0 = 7 ∧ 7 < 8) ∧ Call u 133 [.ref a0, .int x1, .int 0] hi hl (fun r hi2 hl2 => vc u k 139 6 [.ref a0, .int x1, l2] (r.toList ++ []) hi2 hl2 K)) := rfl
set_option maxRecDepth 100000 in
theorem b_M_goes_6 {u : UV} {k : Nat} {a0 : Nat} {x1 : Int32} {l2 : Value} {y0 : Int32} {hi : HI} {hl : HL} {K : Option Value → HI → HL → Prop} : vc u (k + 4) 139 6 [.ref a0, .int x1, l2] [.int y0] hi hl K = ((y0 = 2 → vc u k 139 17 [.ref a0, .int x1, .int y0] [] hi hl K) ∧ (¬ y0 = 2 → vc u k 139 12 [.ref a0, .int x1, .int y0] [] hi hl K)) := rfl
set_option maxRecDepth 100000 in
theorem b_M_goes_12 {u : UV} {k : Nat} {a0 : Nat} {x1 : Int32} {x2 : Int32} {hi : HI} {hl : HL} {K : Option Value → HI → HL → Prop} : vc u (k + 3) 139 12 [.ref a0, .int x1, .int x2] [] hi hl K = ((¬ x2 = 4 → vc u k 139 21 [.ref a0, .int x1, .int x2] [] hi hl K) ∧ (x2 = 4 → vc u k 139 17 [.ref a0, .int x1, .int x2] [] hi hl K)) := rfl
set_option maxRecDepth 100000 in
theorem b_M_goes_17 {u : UV} {k : Nat} {a0 : Nat} {x1 : Int32} {x2 : Int32} {hi : HI} {hl : HL} {K : Option Value → HI → HL → Prop} : vc u (k + 2) 139 17 [.ref a0, .int x1, .int x2] [] hi hl K = (vc u k 139 46 [.ref a0, .int x1, .int x2] [.int 2] hi hl K) := rfl
set_option maxRecDepth 100000 in
theorem b_M_goes_21 {u : UV} {k : Nat} {a0 : Nat} {x1 : Int32} {x2 : Int32} {hi : HI} {hl : HL} {K : Option Value → HI → HL → Prop} : vc u (k + 3) 139 21 [.ref a0, .int x1, .int x2] [] hi hl K = ((x2 = 3 → vc u k 139 31 [.ref a0, .int x1, .int x2] [] hi hl K) ∧ (¬ x2 = 3 → vc u k 139 26 [.ref a0, .int x1, .int x2] [] hi hl K)) := rfl
set_option maxRecDepth 100000 in
theorem b_M_goes_26 {u : UV} {k : Nat} {a0 : Nat} {x1 : Int32} {x2 : Int32} {hi : HI} {hl : HL} {K : Option Value → HI → HL → Prop} : vc u (k + 3) 139 26 [.ref a0, .int x1, .int x2] [] hi hl K = ((¬ x2 = 5 → vc u k 139 45 [.ref a0, .int x1, .int x2] [] hi hl K) ∧ (x2 = 5 → vc u k 139 31 [.ref a0, .int x1, .int x2] [] hi hl K)) := rfl
set_option maxRecDepth 100000 in
theorem b_M_goes_31 {u : UV} {k : Nat} {a0 : Nat} {x1 : Int32} {x2 : Int32} {hi : HI} {hl : HL} {K : Option Value → HI → HL → Prop} : vc u (k + 9) 139 31 [.ref a0, .int x1, .int x2] [] hi hl K = (kd a0 = 7 ∧ (kd (rf a0 0) = 8 ∧ vp_in 64 (ln (rf a0 0))) ∧ ¬ (2 : Int32) = 0 ∧ vc u k 139 46 [.ref a0, .int x1, .int x2] [.int (1 - ((hi (rf a0 0) (Int32.toNatClampNeg 64)) - (hi (rf a0 0) (Int32.toNatClampNeg 64)) / 2 * 2))] hi hl K) := rfl
set_option maxRecDepth 100000 in
theorem b_M_goes_45 {u : UV} {k : Nat} {a0 : Nat} {x1 : Int32} {x2 : Int32} {hi : HI} {hl : HL} {K : Option Value → HI → HL → Prop} : vc u (k + 1) 139 45 [.ref a0, .int x1, .int x2] [] hi hl K = (vc u k 139 46 [.ref a0, .int x1, .int x2] [.int 1] hi hl K) := rfl
set_option maxRecDepth 100000 in
theorem b_M_goes_46 {u : UV} {k : Nat} {a0 : Nat} {x1 : Int32} {x2 : Int32} {y0 : Int32} {hi : HI} {hl : HL} {K : Option Value → HI → HL → Prop} : vc u (k + 1) 139 46 [.ref a0, .int x1, .int x2] [.int y0] hi hl K = (True ∧ K (some (.int y0)) hi hl) := rfl
set_option maxRecDepth 100000 in
theorem b_M_under_0 {u : UV} {k : Nat} {a0 : Nat} {x1 : Int32} {hi : HI} {hl : HL} {K : Option Value → HI → HL → Prop} : vc u (k + 6) 140 0 [.ref a0, .int x1] [] hi hl K = ((kd a0 = 7 ∧ 7 < 8) ∧ Call u 133 [.ref a0, .int x1, .int 1] hi hl (fun r hi2 hl2 => vc u k 140 9 [.ref a0, .int x1] (r.toList ++ [.int 8, .int 0]) hi2 hl2 K)) := rfl
set_option maxRecDepth 100000 in
theorem b_M_under_9 {u : UV} {k : Nat} {a0 : Nat} {x1 : Int32} {y0 : Int32} {y1 : Int32} {y2 : Int32} {hi : HI} {hl : HL} {K : Option Value → HI → HL → Prop} : vc u (k + 6) 140 9 [.ref a0, .int x1] [.int y0, .int y1, .int y2] hi hl K = ((kd a0 = 7 ∧ 7 < 8) ∧ Call u 133 [.ref a0, .int x1, .int 2] hi hl (fun r hi2 hl2 => vc u k 140 17 [.ref a0, .int x1] (r.toList ++ [.int (y2 + (y1 * y0))]) hi2 hl2 K)) := rfl
set_option maxRecDepth 100000 in
theorem b_M_under_17 {u : UV} {k : Nat} {a0 : Nat} {x1 : Int32} {y0 : Int32} {y1 : Int32} {hi : HI} {hl : HL} {K : Option Value → HI → HL → Prop} : vc u (k + 2) 140 17 [.ref a0, .int x1] [.int y0, .int y1] hi hl K = (True ∧ K (some (.int (y1 + y0))) hi hl) := rfl
set_option maxRecDepth 100000 in
theorem b_M_of_0 {u : UV} {k : Nat} {a0 : Nat} {x1 : Int32} {x2 : Int32} {hi : HI} {hl : HL} {K : Option Value → HI → HL → Prop} : vc u (k + 3) 141 0 [.ref a0, .int x1, .int x2] [] hi hl K = ((kd a0 = 7 ∧ 7 < 8) ∧ Call u 131 [.ref a0, .int x1] hi hl (fun r hi2 hl2 => vc u k 141 5 [.ref a0, .int x1, .int x2] (r.toList ++ []) hi2 hl2 K)) := rfl
set_option maxRecDepth 100000 in
theorem b_M_of_5 {u : UV} {k : Nat} {a0 : Nat} {x1 : Int32} {x2 : Int32} {y0 : Int32} {hi : HI} {hl : HL} {K : Option Value → HI → HL → Prop} : vc u (k + 1) 141 5 [.ref a0, .int x1, .int x2] [.int y0] hi hl K = ((y0 = 0 → vc u k 141 18 [.ref a0, .int x1, .int x2] [] hi hl K) ∧ (¬ y0 = 0 → vc u k 141 8 [.ref a0, .int x1, .int x2] [] hi hl K)) := rfl
set_option maxRecDepth 100000 in
theorem b_M_of_8 {u : UV} {k : Nat} {a0 : Nat} {x1 : Int32} {x2 : Int32} {hi : HI} {hl : HL} {K : Option Value → HI → HL → Prop} : vc u (k + 4) 141 8 [.ref a0, .int x1, .int x2] [] hi hl K = (Call u 119 [.int x2, .int 0, .int 9] hi hl (fun r hi2 hl2 => vc u k 141 15 [.ref a0, .int x1, .int x2] (r.toList ++ []) hi2 hl2 K)) := rfl
set_option maxRecDepth 100000 in
theorem b_M_of_15 {u : UV} {k : Nat} {a0 : Nat} {x1 : Int32} {x2 : Int32} {y0 : Int32} {hi : HI} {hl : HL} {K : Option Value → HI → HL → Prop} : vc u (k + 1) 141 15 [.ref a0, .int x1, .int x2] [.int y0] hi hl K = ((¬ y0 = 0 → vc u k 141 25 [.ref a0, .int x1, .int x2] [] hi hl K) ∧ (y0 = 0 → vc u k 141 18 [.ref a0, .int x1, .int x2] [] hi hl K)) := rfl
set_option maxRecDepth 100000 in
theorem b_M_of_18 {u : UV} {k : Nat} {a0 : Nat} {x1 : Int32} {x2 : Int32} {hi : HI} {hl : HL} {K : Option Value → HI → HL → Prop} : vc u (k + 3) 141 18 [.ref a0, .int x1, .int x2] [] hi hl K = ((kd a0 = 7 ∧ 7 < 8) ∧ Call u 118 [.ref a0, .int (-1000000001)] hi hl (fun r hi2 hl2 => vc u k 141 24 [.ref a0, .int x1, .int x2] (r.toList ++ []) hi2 hl2 K)) := rfl
set_option maxRecDepth 100000 in
theorem b_M_of_24 {u : UV} {k : Nat} {a0 : Nat} {x1 : Int32} {x2 : Int32} {y0 : Int32} {hi : HI} {hl : HL} {K : Option Value → HI → HL → Prop} : vc u (k + 1) 141 24 [.ref a0, .int x1, .int x2] [.int y0] hi hl K = (True ∧ K (some (.int y0)) hi hl) := rfl
set_option maxRecDepth 100000 in
theorem b_M_of_25 {u : UV} {k : Nat} {a0 : Nat} {x1 : Int32} {x2 : Int32} {hi : HI} {hl : HL} {K : Option Value → HI → HL → Prop} : vc u (k + 3) 141 25 [.ref a0, .int x1, .int x2] [] hi hl K = ((¬ x2 = 8 → vc u k 141 53 [.ref a0, .int x1, .int x2] [] hi hl K) ∧ (x2 = 8 → vc u k 141 31 [.ref a0, .int x1, .int x2] [] hi hl K)) := rfl
set_option maxRecDepth 100000 in
theorem b_M_of_31 {u : UV} {k : Nat} {a0 : Nat} {x1 : Int32} {x2 : Int32} {hi : HI} {hl : HL} {K : Option Value → HI → HL → Prop} : vc u (k + 4) 141 31 [.ref a0, .int x1, .int x2] [] hi hl K = ((kd a0 = 7 ∧ 7 < 8) ∧ Call u 133 [.ref a0, .int x1, .int 0] hi hl (fun r hi2 hl2 => vc u k 141 37 [.ref a0, .int x1, .int x2] (r.toList ++ []) hi2 hl2 K)) := rfl
set_option maxRecDepth 100000 in
theorem b_M_of_37 {u : UV} {k : Nat} {a0 : Nat} {x1 : Int32} {x2 : Int32} {y0 : Int32} {hi : HI} {hl : HL} {K : Option Value → HI → HL → Prop} : vc u (k + 5) 141 37 [.ref a0, .int x1, .int x2] [.int y0] hi hl K = (kd a0 = 7 ∧ (kd a0 = 7 ∧ 7 < 8) ∧ Call u 140 [.ref a0, .int x1] hi hl (fun r hi2 hl2 => vc u k 141 46 [.ref a0, .int x1, .int x2] (r.toList ++ [.ref (rf a0 0), .int y0]) hi2 hl2 K)) := rfl
set_option maxRecDepth 100000 in
theorem b_M_of_46 {u : UV} {k : Nat} {a0 : Nat} {x1 : Int32} {x2 : Int32} {y0 : Int32} {c1 : Nat} {y2 : Int32} {hi : HI} {hl : HL} {K : Option Value → HI → HL → Prop} : vc u (k + 2) 141 46 [.ref a0, .int x1, .int x2] [.int y0, .ref c1, .int y2] hi hl K = ((kd c1 = 8 ∧ vp_in y0 (ln c1)) ∧ Call u 138 [.int y2, .int (hi c1 (Int32.toNatClampNeg y0))] hi hl (fun r hi2 hl2 => vc u k 141 50 [.ref a0, .int x1, .int x2] (r.toList ++ []) hi2 hl2 K)) := rfl
set_option maxRecDepth 100000 in
theorem b_M_of_50 {u : UV} {k : Nat} {a0 : Nat} {x1 : Int32} {x2 : Int32} {y0 : Int32} {hi : HI} {hl : HL} {K : Option Value → HI → HL → Prop} : vc u (k + 1) 141 50 [.ref a0, .int x1, .int x2] [.int y0] hi hl K = (vc u k 141 73 [.ref a0, .int x1, .int x2] [.int y0] hi hl K) := rfl
set_option maxRecDepth 100000 in
theorem b_M_of_53 {u : UV} {k : Nat} {a0 : Nat} {x1 : Int32} {x2 : Int32} {hi : HI} {hl : HL} {K : Option Value → HI → HL → Prop} : vc u (k + 3) 141 53 [.ref a0, .int x1, .int x2] [] hi hl K = ((¬ x2 = 9 → vc u k 141 67 [.ref a0, .int x1, .int x2] [] hi hl K) ∧ (x2 = 9 → vc u k 141 59 [.ref a0, .int x1, .int x2] [] hi hl K)) := rfl
set_option maxRecDepth 100000 in
theorem b_M_of_59 {u : UV} {k : Nat} {a0 : Nat} {x1 : Int32} {x2 : Int32} {hi : HI} {hl : HL} {K : Option Value → HI → HL → Prop} : vc u (k + 3) 141 59 [.ref a0, .int x1, .int x2] [] hi hl K = ((kd a0 = 7 ∧ 7 < 8) ∧ Call u 139 [.ref a0, .int x1] hi hl (fun r hi2 hl2 => vc u k 141 64 [.ref a0, .int x1, .int x2] (r.toList ++ []) hi2 hl2 K)) := rfl
set_option maxRecDepth 100000 in
theorem b_M_of_64 {u : UV} {k : Nat} {a0 : Nat} {x1 : Int32} {x2 : Int32} {y0 : Int32} {hi : HI} {hl : HL} {K : Option Value → HI → HL → Prop} : vc u (k + 1) 141 64 [.ref a0, .int x1, .int x2] [.int y0] hi hl K = (vc u k 141 73 [.ref a0, .int x1, .int x2] [.int y0] hi hl K) := rfl
set_option maxRecDepth 100000 in
theorem b_M_of_67 {u : UV} {k : Nat} {a0 : Nat} {x1 : Int32} {x2 : Int32} {hi : HI} {hl : HL} {K : Option Value → HI → HL → Prop} : vc u (k + 4) 141 67 [.ref a0, .int x1, .int x2] [] hi hl K = ((kd a0 = 7 ∧ 7 < 8) ∧ Call u 133 [.ref a0, .int x1, .int x2] hi hl (fun r hi2 hl2 => vc u k 141 73 [.ref a0, .int x1, .int x2] (r.toList ++ []) hi2 hl2 K)) := rfl
set_option maxRecDepth 100000 in
theorem b_M_of_73 {u : UV} {k : Nat} {a0 : Nat} {x1 : Int32} {x2 : Int32} {y0 : Int32} {hi : HI} {hl : HL} {K : Option Value → HI → HL → Prop} : vc u (k + 1) 141 73 [.ref a0, .int x1, .int x2] [.int y0] hi hl K = (True ∧ K (some (.int y0)) hi hl) := rfl
set_option maxRecDepth 100000 in
theorem b_M_set_0 {u : UV} {k : Nat} {a0 : Nat} {x1 : Int32} {x2 : Int32} {x3 : Int32} {l4 : Value} {hi : HI} {hl : HL} {K : Option Value → HI → HL → Prop} : vc u (k + 4) 142 0 [.ref a0, .int x1, .int x2, .int x3, l4] [] hi hl K = (Call u 119 [.int x2, .int 1, .int 2] hi hl (fun r hi2 hl2 => vc u k 142 6 [.ref a0, .int x1, .int x2, .int x3, l4] (r.toList ++ []) hi2 hl2 K)) := rfl
set_option maxRecDepth 100000 in
theorem b_M_set_6 {u : UV} {k : Nat} {a0 : Nat} {x1 : Int32} {x2 : Int32} {x3 : Int32} {l4 : Value} {y0 : Int32} {hi : HI} {hl : HL} {K : Option Value → HI → HL → Prop} : vc u (k + 1) 142 6 [.ref a0, .int x1, .int x2, .int x3, l4] [.int y0] hi hl K = ((y0 = 0 → vc u k 142 16 [.ref a0, .int x1, .int x2, .int x3, l4] [] hi hl K) ∧ (¬ y0 = 0 → vc u k 142 9 [.ref a0, .int x1, .int x2, .int x3, l4] [] hi hl K)) := rfl
set_option maxRecDepth 100000 in
theorem b_M_set_9 {u : UV} {k : Nat} {a0 : Nat} {x1 : Int32} {x2 : Int32} {x3 : Int32} {l4 : Value} {hi : HI} {hl : HL} {K : Option Value → HI → HL → Prop} : vc u (k + 2) 142 9 [.ref a0, .int x1, .int x2, .int x3, l4] [] hi hl K = (Call u 123 [.int x3] hi hl (fun r hi2 hl2 => vc u k 142 13 [.ref a0, .int x1, .int x2, .int x3, l4] (r.toList ++ []) hi2 hl2 K)) := rfl
set_option maxRecDepth 100000 in
theorem b_M_set_13 {u : UV} {k : Nat} {a0 : Nat} {x1 : Int32} {x2 : Int32} {x3 : Int32} {l4 : Value} {y0 : Int32} {hi : HI} {hl : HL} {K : Option Value → HI → HL → Prop} : vc u (k + 1) 142 13 [.ref a0, .int x1, .int x2, .int x3, l4] [.int y0] hi hl K = ((¬ y0 = 0 → vc u k 142 43 [.ref a0, .int x1, .int x2, .int x3, l4] [] hi hl K) ∧ (y0 = 0 → vc u k 142 16 [.ref a0, .int x1, .int x2, .int x3, l4] [] hi hl K)) := rfl
set_option maxRecDepth 100000 in
theorem b_M_set_16 {u : UV} {k : Nat} {a0 : Nat} {x1 : Int32} {x2 : Int32} {x3 : Int32} {l4 : Value} {hi : HI} {hl : HL} {K : Option Value → HI → HL → Prop} : vc u (k + 3) 142 16 [.ref a0, .int x1, .int x2, .int x3, l4] [] hi hl K = ((¬ x2 = 3 → vc u k 142 28 [.ref a0, .int x1, .int x2, .int x3, l4] [] hi hl K) ∧ (x2 = 3 → vc u k 142 21 [.ref a0, .int x1, .int x2, .int x3, l4] [] hi hl K)) := rfl
set_option maxRecDepth 100000 in
theorem b_M_set_21 {u : UV} {k : Nat} {a0 : Nat} {x1 : Int32} {x2 : Int32} {x3 : Int32} {l4 : Value} {hi : HI} {hl : HL} {K : Option Value → HI → HL → Prop} : vc u (k + 2) 142 21 [.ref a0, .int x1, .int x2, .int x3, l4] [] hi hl K = (Call u 135 [.int x3] hi hl (fun r hi2 hl2 => vc u k 142 25 [.ref a0, .int x1, .int x2, .int x3, l4] (r.toList ++ []) hi2 hl2 K)) := rfl
set_option maxRecDepth 100000 in
theorem b_M_set_25 {u : UV} {k : Nat} {a0 : Nat} {x1 : Int32} {x2 : Int32} {x3 : Int32} {l4 : Value} {y0 : Int32} {hi : HI} {hl : HL} {K : Option Value → HI → HL → Prop} : vc u (k + 1) 142 25 [.ref a0, .int x1, .int x2, .int x3, l4] [.int y0] hi hl K = ((¬ y0 = 0 → vc u k 142 43 [.ref a0, .int x1, .int x2, .int x3, l4] [] hi hl K) ∧ (y0 = 0 → vc u k 142 28 [.ref a0, .int x1, .int x2, .int x3, l4] [] hi hl K)) := rfl
set_option maxRecDepth 100000 in
theorem b_M_set_28 {u : UV} {k : Nat} {a0 : Nat} {x1 : Int32} {x2 : Int32} {x3 : Int32} {l4 : Value} {hi : HI} {hl : HL} {K : Option Value → HI → HL → Prop} : vc u (k + 3) 142 28 [.ref a0, .int x1, .int x2, .int x3, l4] [] hi hl K = ((¬ x2 = 6 → vc u k 142 47 [.ref a0, .int x1, .int x2, .int x3, l4] [] hi hl K) ∧ (x2 = 6 → vc u k 142 34 [.ref a0, .int x1, .int x2, .int x3, l4] [] hi hl K)) := rfl
set_option maxRecDepth 100000 in
theorem b_M_set_34 {u : UV} {k : Nat} {a0 : Nat} {x1 : Int32} {x2 : Int32} {x3 : Int32} {l4 : Value} {hi : HI} {hl : HL} {K : Option Value → HI → HL → Prop} : vc u (k + 4) 142 34 [.ref a0, .int x1, .int x2, .int x3, l4] [] hi hl K = (Call u 119 [.int x3, .int 0, .int 1] hi hl (fun r hi2 hl2 => vc u k 142 40 [.ref a0, .int x1, .int x2, .int x3, l4] (r.toList ++ []) hi2 hl2 K)) := rfl
set_option maxRecDepth 100000 in
theorem b_M_set_40 {u : UV} {k : Nat} {a0 : Nat} {x1 : Int32} {x2 : Int32} {x3 : Int32} {l4 : Value} {y0 : Int32} {hi : HI} {hl : HL} {K : Option Value → HI → HL → Prop} : vc u (k + 1) 142 40 [.ref a0, .int x1, .int x2, .int x3, l4] [.int y0] hi hl K = ((y0 = 0 → vc u k 142 47 [.ref a0, .int x1, .int x2, .int x3, l4] [] hi hl K) ∧ (¬ y0 = 0 → vc u k 142 43 [.ref a0, .int x1, .int x2, .int x3, l4] [] hi hl K)) := rfl
set_option maxRecDepth 100000 in
theorem b_M_set_43 {u : UV} {k : Nat} {a0 : Nat} {x1 : Int32} {x2 : Int32} {x3 : Int32} {l4 : Value} {hi : HI} {hl : HL} {K : Option Value → HI → HL → Prop} : vc u (k + 2) 142 43 [.ref a0, .int x1, .int x2, .int x3, l4] [] hi hl K = (vc u k 142 48 [.ref a0, .int x1, .int x2, .int x3, l4] [.int 1] hi hl K) := rfl
set_option maxRecDepth 100000 in
theorem b_M_set_47 {u : UV} {k : Nat} {a0 : Nat} {x1 : Int32} {x2 : Int32} {x3 : Int32} {l4 : Value} {hi : HI} {hl : HL} {K : Option Value → HI → HL → Prop} : vc u (k + 1) 142 47 [.ref a0, .int x1, .int x2, .int x3, l4] [] hi hl K = (vc u k 142 48 [.ref a0, .int x1, .int x2, .int x3, l4] [.int 0] hi hl K) := rfl
set_option maxRecDepth 100000 in
theorem b_M_set_48 {u : UV} {k : Nat} {a0 : Nat} {x1 : Int32} {x2 : Int32} {x3 : Int32} {l4 : Value} {y0 : Int32} {hi : HI} {hl : HL} {K : Option Value → HI → HL → Prop} : vc u (k + 4) 142 48 [.ref a0, .int x1, .int x2, .int x3, l4] [.int y0] hi hl K = ((kd a0 = 7 ∧ 7 < 8) ∧ Call u 131 [.ref a0, .int x1] hi hl (fun r hi2 hl2 => vc u k 142 55 [.ref a0, .int x1, .int x2, .int x3, .int y0] (r.toList ++ []) hi2 hl2 K)) := rfl
set_option maxRecDepth 100000 in
theorem b_M_set_55 {u : UV} {k : Nat} {a0 : Nat} {x1 : Int32} {x2 : Int32} {x3 : Int32} {x4 : Int32} {y0 : Int32} {hi : HI} {hl : HL} {K : Option Value → HI → HL → Prop} : vc u (k + 1) 142 55 [.ref a0, .int x1, .int x2, .int x3, .int x4] [.int y0] hi hl K = ((y0 = 0 → vc u k 142 63 [.ref a0, .int x1, .int x2, .int x3, .int x4] [] hi hl K) ∧ (¬ y0 = 0 → vc u k 142 58 [.ref a0, .int x1, .int x2, .int x3, .int x4] [] hi hl K)) := rfl
set_option maxRecDepth 100000 in
theorem b_M_set_58 {u : UV} {k : Nat} {a0 : Nat} {x1 : Int32} {x2 : Int32} {x3 : Int32} {x4 : Int32} {hi : HI} {hl : HL} {K : Option Value → HI → HL → Prop} : vc u (k + 2) 142 58 [.ref a0, .int x1, .int x2, .int x3, .int x4] [] hi hl K = ((¬ x4 = 0 → vc u k 142 70 [.ref a0, .int x1, .int x2, .int x3, .int x4] [] hi hl K) ∧ (x4 = 0 → vc u k 142 63 [.ref a0, .int x1, .int x2, .int x3, .int x4] [] hi hl K)) := rfl
set_option maxRecDepth 100000 in
theorem b_M_set_63 {u : UV} {k : Nat} {a0 : Nat} {x1 : Int32} {x2 : Int32} {x3 : Int32} {x4 : Int32} {hi : HI} {hl : HL} {K : Option Value → HI → HL → Prop} : vc u (k + 3) 142 63 [.ref a0, .int x1, .int x2, .int x3, .int x4] [] hi hl K = ((kd a0 = 7 ∧ 7 < 8) ∧ Call u 118 [.ref a0, .int (-1000000001)] hi hl (fun r hi2 hl2 => vc u k 142 69 [.ref a0, .int x1, .int x2, .int x3, .int x4] (r.toList ++ []) hi2 hl2 K)) := rfl
set_option maxRecDepth 100000 in
theorem b_M_set_69 {u : UV} {k : Nat} {a0 : Nat} {x1 : Int32} {x2 : Int32} {x3 : Int32} {x4 : Int32} {y0 : Int32} {hi : HI} {hl : HL} {K : Option Value → HI → HL → Prop} : vc u (k + 1) 142 69 [.ref a0, .int x1, .int x2, .int x3, .int x4] [.int y0] hi hl K = (True ∧ K (some (.int y0)) hi hl) := rfl
set_option maxRecDepth 100000 in
theorem b_M_set_70 {u : UV} {k : Nat} {a0 : Nat} {x1 : Int32} {x2 : Int32} {x3 : Int32} {x4 : Int32} {hi : HI} {hl : HL} {K : Option Value → HI → HL → Prop} : vc u (k + 5) 142 70 [.ref a0, .int x1, .int x2, .int x3, .int x4] [] hi hl K = (kd a0 = 7 ∧ Call u 132 [.int x1, .int 7] hi hl (fun r hi2 hl2 => vc u k 142 80 [.ref a0, .int x1, .int x2, .int x3, .int x4] (r.toList ++ [.ref (rf a0 0)]) hi2 hl2 K)) := rfl
set_option maxRecDepth 100000 in
theorem b_M_set_80 {u : UV} {k : Nat} {a0 : Nat} {x1 : Int32} {x2 : Int32} {x3 : Int32} {x4 : Int32} {y0 : Int32} {c1 : Nat} {hi : HI} {hl : HL} {K : Option Value → HI → HL → Prop} : vc u (k + 6) 142 80 [.ref a0, .int x1, .int x2, .int x3, .int x4] [.int y0, .ref c1] hi hl K = ((kd c1 = 8 ∧ vp_in y0 (ln c1)) ∧ Call u 132 [.int x1, .int x2] (up2 hi c1 (Int32.toNatClampNeg y0) 0) hl (fun r hi2 hl2 => vc u k 142 88 [.ref a0, .int x1, .int x2, .int x3, .int x4] (r.toList ++ [.ref a0]) hi2 hl2 K)) := rfl
set_option maxRecDepth 100000 in
theorem b_M_set_88 {u : UV} {k : Nat} {a0 : Nat} {x1 : Int32} {x2 : Int32} {x3 : Int32} {x4 : Int32} {y0 : Int32} {c1 : Nat} {hi : HI} {hl : HL} {K : Option Value → HI → HL → Prop} : vc u (k + 2) 142 88 [.ref a0, .int x1, .int x2, .int x3, .int x4] [.int y0, .ref c1] hi hl K = ((kd c1 = 7 ∧ 7 < 8) ∧ Call u 120 [.ref c1, .int y0, .int x3] hi hl (fun r hi2 hl2 => vc u k 142 92 [.ref a0, .int x1, .int x2, .int x3, .int x4] (r.toList ++ []) hi2 hl2 K)) := rfl
set_option maxRecDepth 100000 in
theorem b_M_set_92 {u : UV} {k : Nat} {a0 : Nat} {x1 : Int32} {x2 : Int32} {x3 : Int32} {x4 : Int32} {y0 : Int32} {hi : HI} {hl : HL} {K : Option Value → HI → HL → Prop} : vc u (k + 1) 142 92 [.ref a0, .int x1, .int x2, .int x3, .int x4] [.int y0] hi hl K = (True ∧ K (some (.int y0)) hi hl) := rfl
set_option maxRecDepth 100000 in
theorem b_M_turn_0 {u : UV} {k : Nat} {a0 : Nat} {x1 : Int32} {x2 : Int32} {hi : HI} {hl : HL} {K : Option Value → HI → HL → Prop} : vc u (k + 3) 143 0 [.ref a0, .int x1, .int x2] [] hi hl K = ((kd a0 = 7 ∧ 7 < 8) ∧ Call u 131 [.ref a0, .int x1] hi hl (fun r hi2 hl2 => vc u k 143 5 [.ref a0, .int x1, .int x2] (r.toList ++ []) hi2 hl2 K)) := rfl
set_option maxRecDepth 100000 in
theorem b_M_turn_5 {u : UV} {k : Nat} {a0 : Nat} {x1 : Int32} {x2 : Int32} {y0 : Int32} {hi : HI} {hl : HL} {K : Option Value → HI → HL → Prop} : vc u (k + 1) 143 5 [.ref a0, .int x1, .int x2] [.int y0] hi hl K = ((y0 = 0 → vc u k 143 28 [.ref a0, .int x1, .int x2] [] hi hl K) ∧ (¬ y0 = 0 → vc u k 143 8 [.ref a0, .int x1, .int x2] [] hi hl K)) := rfl
set_option maxRecDepth 100000 in
theorem b_M_turn_8 {u : UV} {k : Nat} {a0 : Nat} {x1 : Int32} {x2 : Int32} {hi : HI} {hl : HL} {K : Option Value → HI → HL → Prop} : vc u (k + 2) 143 8 [.ref a0, .int x1, .int x2] [] hi hl K = (Call u 134 [.int x2] hi hl (fun r hi2 hl2 => vc u k 143 12 [.ref a0, .int x1, .int x2] (r.toList ++ []) hi2 hl2 K)) := rfl
set_option maxRecDepth 100000 in
theorem b_M_turn_12 {u : UV} {k : Nat} {a0 : Nat} {x1 : Int32} {x2 : Int32} {y0 : Int32} {hi : HI} {hl : HL} {K : Option Value → HI → HL → Prop} : vc u (k + 1) 143 12 [.ref a0, .int x1, .int x2] [.int y0] hi hl K = ((y0 = 0 → vc u k 143 28 [.ref a0, .int x1, .int x2] [] hi hl K) ∧ (¬ y0 = 0 → vc u k 143 15 [.ref a0, .int x1, .int x2] [] hi hl K)) := rfl
set_option maxRecDepth 100000 in
theorem b_M_turn_15 {u : UV} {k : Nat} {a0 : Nat} {x1 : Int32} {x2 : Int32} {hi : HI} {hl : HL} {K : Option Value → HI → HL → Prop} : vc u (k + 4) 143 15 [.ref a0, .int x1, .int x2] [] hi hl K = (Call u 132 [.int x1, .int 0] hi hl (fun r hi2 hl2 => vc u k 143 21 [.ref a0, .int x1, .int x2] (r.toList ++ [.ref a0]) hi2 hl2 K)) := rfl
set_option maxRecDepth 100000 in
theorem b_M_turn_21 {u : UV} {k : Nat} {a0 : Nat} {x1 : Int32} {x2 : Int32} {y0 : Int32} {c1 : Nat} {hi : HI} {hl : HL} {K : Option Value → HI → HL → Prop} : vc u (k + 2) 143 21 [.ref a0, .int x1, .int x2] [.int y0, .ref c1] hi hl K = ((kd c1 = 7 ∧ 7 < 8) ∧ Call u 120 [.ref c1, .int y0, .int x2] hi hl (fun r hi2 hl2 => vc u k 143 25 [.ref a0, .int x1, .int x2] (r.toList ++ []) hi2 hl2 K)) := rfl
set_option maxRecDepth 100000 in
theorem b_M_turn_25 {u : UV} {k : Nat} {a0 : Nat} {x1 : Int32} {x2 : Int32} {y0 : Int32} {hi : HI} {hl : HL} {K : Option Value → HI → HL → Prop} : vc u (k + 1) 143 25 [.ref a0, .int x1, .int x2] [.int y0] hi hl K = (vc u k 143 34 [.ref a0, .int x1, .int x2] [.int y0] hi hl K) := rfl
set_option maxRecDepth 100000 in
theorem b_M_turn_28 {u : UV} {k : Nat} {a0 : Nat} {x1 : Int32} {x2 : Int32} {hi : HI} {hl : HL} {K : Option Value → HI → HL → Prop} : vc u (k + 3) 143 28 [.ref a0, .int x1, .int x2] [] hi hl K = ((kd a0 = 7 ∧ 7 < 8) ∧ Call u 118 [.ref a0, .int (-1000000001)] hi hl (fun r hi2 hl2 => vc u k 143 34 [.ref a0, .int x1, .int x2] (r.toList ++ []) hi2 hl2 K)) := rfl
set_option maxRecDepth 100000 in
theorem b_M_turn_34 {u : UV} {k : Nat} {a0 : Nat} {x1 : Int32} {x2 : Int32} {y0 : Int32} {hi : HI} {hl : HL} {K : Option Value → HI → HL → Prop} : vc u (k + 1) 143 34 [.ref a0, .int x1, .int x2] [.int y0] hi hl K = (True ∧ K (some (.int y0)) hi hl) := rfl
set_option maxRecDepth 100000 in
theorem b_M_above_0 {u : UV} {k : Nat} {x0 : Int32} {hi : HI} {hl : HL} {K : Option Value → HI → HL → Prop} : vc u (k + 2) 144 0 [.int x0] [] hi hl K = ((¬ x0 = 0 → vc u k 144 8 [.int x0] [] hi hl K) ∧ (x0 = 0 → vc u k 144 4 [.int x0] [] hi hl K)) := rfl
set_option maxRecDepth 100000 in
theorem b_M_above_4 {u : UV} {k : Nat} {x0 : Int32} {hi : HI} {hl : HL} {K : Option Value → HI → HL → Prop} : vc u (k + 2) 144 4 [.int x0] [] hi hl K = (vc u k 144 27 [.int x0] [.int (-1)] hi hl K) := rfl
set_option maxRecDepth 100000 in
theorem b_M_above_8 {u : UV} {k : Nat} {x0 : Int32} {hi : HI} {hl : HL} {K : Option Value → HI → HL → Prop} : vc u (k + 3) 144 8 [.int x0] [] hi hl K = ((¬ x0 = 4 → vc u k 144 17 [.int x0] [] hi hl K) ∧ (x0 = 4 → vc u k 144 13 [.int x0] [] hi hl K)) := rfl
set_option maxRecDepth 100000 in
theorem b_M_above_13 {u : UV} {k : Nat} {x0 : Int32} {hi : HI} {hl : HL} {K : Option Value → HI → HL → Prop} : vc u (k + 2) 144 13 [.int x0] [] hi hl K = (vc u k 144 27 [.int x0] [.int 2] hi hl K) := rfl
set_option maxRecDepth 100000 in
theorem b_M_above_17 {u : UV} {k : Nat} {x0 : Int32} {hi : HI} {hl : HL} {K : Option Value → HI → HL → Prop} : vc u (k + 3) 144 17 [.int x0] [] hi hl K = ((¬ x0 = 5 → vc u k 144 26 [.int x0] [] hi hl K) ∧ (x0 = 5 → vc u k 144 22 [.int x0] [] hi hl K)) := rfl
set_option maxRecDepth 100000 in
theorem b_M_above_22 {u : UV} {k : Nat} {x0 : Int32} {hi : HI} {hl : HL} {K : Option Value → HI → HL → Prop} : vc u (k + 2) 144 22 [.int x0] [] hi hl K = (vc u k 144 27 [.int x0] [.int 3] hi hl K) := rfl
set_option maxRecDepth 100000 in
theorem b_M_above_26 {u : UV} {k : Nat} {x0 : Int32} {hi : HI} {hl : HL} {K : Option Value → HI → HL → Prop} : vc u (k + 1) 144 26 [.int x0] [] hi hl K = (vc u k 144 27 [.int x0] [.int 0] hi hl K) := rfl
set_option maxRecDepth 100000 in
theorem b_M_above_27 {u : UV} {k : Nat} {x0 : Int32} {y0 : Int32} {hi : HI} {hl : HL} {K : Option Value → HI → HL → Prop} : vc u (k + 1) 144 27 [.int x0] [.int y0] hi hl K = (True ∧ K (some (.int y0)) hi hl) := rfl
set_option maxRecDepth 100000 in
theorem b_M_as_0 {u : UV} {k : Nat} {a0 : Nat} {x1 : Int32} {x2 : Int32} {l3 : Value} {hi : HI} {hl : HL} {K : Option Value → HI → HL → Prop} : vc u (k + 3) 145 0 [.ref a0, .int x1, .int x2, l3] [] hi hl K = ((kd a0 = 7 ∧ 7 < 8) ∧ Call u 131 [.ref a0, .int x1] hi hl (fun r hi2 hl2 => vc u k 145 5 [.ref a0, .int x1, .int x2, l3] (r.toList ++ []) hi2 hl2 K)) := rfl
set_option maxRecDepth 100000 in
theorem b_M_as_5 {u : UV} {k : Nat} {a0 : Nat} {x1 : Int32} {x2 : Int32} {l3 : Value} {y0 : Int32} {hi : HI} {hl : HL} {K : Option Value → HI → HL → Prop} : vc u (k + 1) 145 5 [.ref a0, .int x1, .int x2, l3] [.int y0] hi hl K = ((y0 = 0 → vc u k 145 15 [.ref a0, .int x1, .int x2, l3] [] hi hl K) ∧ (¬ y0 = 0 → vc u k 145 8 [.ref a0, .int x1, .int x2, l3] [] hi hl K)) := rfl
set_option maxRecDepth 100000 in
theorem b_M_as_8 {u : UV} {k : Nat} {a0 : Nat} {x1 : Int32} {x2 : Int32} {l3 : Value} {hi : HI} {hl : HL} {K : Option Value → HI → HL → Prop} : vc u (k + 2) 145 8 [.ref a0, .int x1, .int x2, l3] [] hi hl K = (Call u 134 [.int x2] hi hl (fun r hi2 hl2 => vc u k 145 12 [.ref a0, .int x1, .int x2, l3] (r.toList ++ []) hi2 hl2 K)) := rfl
set_option maxRecDepth 100000 in
theorem b_M_as_12 {u : UV} {k : Nat} {a0 : Nat} {x1 : Int32} {x2 : Int32} {l3 : Value} {y0 : Int32} {hi : HI} {hl : HL} {K : Option Value → HI → HL → Prop} : vc u (k + 1) 145 12 [.ref a0, .int x1, .int x2, l3] [.int y0] hi hl K = ((¬ y0 = 0 → vc u k 145 22 [.ref a0, .int x1, .int x2, l3] [] hi hl K) ∧ (y0 = 0 → vc u k 145 15 [.ref a0, .int x1, .int x2, l3] [] hi hl K)) := rfl
set_option maxRecDepth 100000 in
theorem b_M_as_15 {u : UV} {k : Nat} {a0 : Nat} {x1 : Int32} {x2 : Int32} {l3 : Value} {hi : HI} {hl : HL} {K : Option Value → HI → HL → Prop} : vc u (k + 3) 145 15 [.ref a0, .int x1, .int x2, l3] [] hi hl K = ((kd a0 = 7 ∧ 7 < 8) ∧ Call u 118 [.ref a0, .int (-1000000001)] hi hl (fun r hi2 hl2 => vc u k 145 21 [.ref a0, .int x1, .int x2, l3] (r.toList ++ []) hi2 hl2 K)) := rfl
set_option maxRecDepth 100000 in
theorem b_M_as_21 {u : UV} {k : Nat} {a0 : Nat} {x1 : Int32} {x2 : Int32} {l3 : Value} {y0 : Int32} {hi : HI} {hl : HL} {K : Option Value → HI → HL → Prop} : vc u (k + 1) 145 21 [.ref a0, .int x1, .int x2, l3] [.int y0] hi hl K = (True ∧ K (some (.int y0)) hi hl) := rfl
set_option maxRecDepth 100000 in
theorem b_M_as_22 {u : UV} {k : Nat} {a0 : Nat} {x1 : Int32} {x2 : Int32} {l3 : Value} {hi : HI} {hl : HL} {K : Option Value → HI → HL → Prop} : vc u (k + 4) 145 22 [.ref a0, .int x1, .int x2, l3] [] hi hl K = ((kd a0 = 7 ∧ 7 < 8) ∧ Call u 133 [.ref a0, .int x1, .int 0] hi hl (fun r hi2 hl2 => vc u k 145 28 [.ref a0, .int x1, .int x2, l3] (r.toList ++ []) hi2 hl2 K)) := rfl
set_option maxRecDepth 100000 in
theorem b_M_as_28 {u : UV} {k : Nat} {a0 : Nat} {x1 : Int32} {x2 : Int32} {l3 : Value} {y0 : Int32} {hi : HI} {hl : HL} {K : Option Value → HI → HL → Prop} : vc u (k + 1) 145 28 [.ref a0, .int x1, .int x2, l3] [.int y0] hi hl K = (Wp u 145 29 [.ref a0, .int x1, .int x2, .int y0] [] hi hl K) := rfl
set_option maxRecDepth 100000 in
theorem b_M_as_29 {u : UV} {k : Nat} {a0 : Nat} {x1 : Int32} {x2 : Int32} {x3 : Int32} {hi : HI} {hl : HL} {K : Option Value → HI → HL → Prop} : vc u (k + 2) 145 29 [.ref a0, .int x1, .int x2, .int x3] [] hi hl K = ((x3 < 0 → vc u k 145 46 [.ref a0, .int x1, .int x2, .int x3] [] hi hl K) ∧ (¬ x3 < 0 → vc u k 145 33 [.ref a0, .int x1, .int x2, .int x3] [] hi hl K)) := rfl
set_option maxRecDepth 100000 in
theorem b_M_as_33 {u : UV} {k : Nat} {a0 : Nat} {x1 : Int32} {x2 : Int32} {x3 : Int32} {hi : HI} {hl : HL} {K : Option Value → HI → HL → Prop} : vc u (k + 3) 145 33 [.ref a0, .int x1, .int x2, .int x3] [] hi hl K = ((x3 = x2 → vc u k 145 46 [.ref a0, .int x1, .int x2, .int x3] [] hi hl K) ∧ (¬ x3 = x2 → vc u k 145 38 [.ref a0, .int x1, .int x2, .int x3] [] hi hl K)) := rfl
set_option maxRecDepth 100000 in
theorem b_M_as_38 {u : UV} {k : Nat} {a0 : Nat} {x1 : Int32} {x2 : Int32} {x3 : Int32} {hi : HI} {hl : HL} {K : Option Value → HI → HL → Prop} : vc u (k + 2) 145 38 [.ref a0, .int x1, .int x2, .int x3] [] hi hl K = (Call u 144 [.int x3] hi hl (fun r hi2 hl2 => vc u k 145 42 [.ref a0, .int x1, .int x2, .int x3] (r.toList ++ []) hi2 hl2 K)) := rfl
set_option maxRecDepth 100000 in
theorem b_M_as_42 {u : UV} {k : Nat} {a0 : Nat} {x1 : Int32} {x2 : Int32} {x3 : Int32} {y0 : Int32} {hi : HI} {hl : HL} {K : Option Value → HI → HL → Prop} : vc u (k + 2) 145 42 [.ref a0, .int x1, .int x2, .int x3] [.int y0] hi hl K = (Wp u 145 29 [.ref a0, .int x1, .int x2, .int y0] [] hi hl K) := rfl
set_option maxRecDepth 100000 in
theorem b_M_as_46 {u : UV} {k : Nat} {a0 : Nat} {x1 : Int32} {x2 : Int32} {x3 : Int32} {hi : HI} {hl : HL} {K : Option Value → HI → HL → Prop} : vc u (k + 2) 145 46 [.ref a0, .int x1, .int x2, .int x3] [] hi hl K = (((0 : Int32) ≤ x3 → vc u k 145 59 [.ref a0, .int x1, .int x2, .int x3] [] hi hl K) ∧ (¬ (0 : Int32) ≤ x3 → vc u k 145 50 [.ref a0, .int x1, .int x2, .int x3] [] hi hl K)) := rfl
set_option maxRecDepth 100000 in
theorem b_M_as_50 {u : UV} {k : Nat} {a0 : Nat} {x1 : Int32} {x2 : Int32} {x3 : Int32} {hi : HI} {hl : HL} {K : Option Value → HI → HL → Prop} : vc u (k + 3) 145 50 [.ref a0, .int x1, .int x2, .int x3] [] hi hl K = ((kd a0 = 7 ∧ 7 < 8) ∧ Call u 118 [.ref a0, .int (-1000000003)] hi hl (fun r hi2 hl2 => vc u k 145 56 [.ref a0, .int x1, .int x2, .int x3] (r.toList ++ []) hi2 hl2 K)) := rfl
set_option maxRecDepth 100000 in
theorem b_M_as_56 {u : UV} {k : Nat} {a0 : Nat} {x1 : Int32} {x2 : Int32} {x3 : Int32} {y0 : Int32} {hi : HI} {hl : HL} {K : Option Value → HI → HL → Prop} : vc u (k + 1) 145 56 [.ref a0, .int x1, .int x2, .int x3] [.int y0] hi hl K = (vc u k 145 65 [.ref a0, .int x1, .int x2, .int x3] [.int y0] hi hl K) := rfl
set_option maxRecDepth 100000 in
theorem b_M_as_59 {u : UV} {k : Nat} {a0 : Nat} {x1 : Int32} {x2 : Int32} {x3 : Int32} {hi : HI} {hl : HL} {K : Option Value → HI → HL → Prop} : vc u (k + 4) 145 59 [.ref a0, .int x1, .int x2, .int x3] [] hi hl K = ((kd a0 = 7 ∧ 7 < 8) ∧ Call u 133 [.ref a0, .int x1, .int 4] hi hl (fun r hi2 hl2 => vc u k 145 65 [.ref a0, .int x1, .int x2, .int x3] (r.toList ++ []) hi2 hl2 K)) := rfl
set_option maxRecDepth 100000 in
theorem b_M_as_65 {u : UV} {k : Nat} {a0 : Nat} {x1 : Int32} {x2 : Int32} {x3 : Int32} {y0 : Int32} {hi : HI} {hl : HL} {K : Option Value → HI → HL → Prop} : vc u (k + 1) 145 65 [.ref a0, .int x1, .int x2, .int x3] [.int y0] hi hl K = (True ∧ K (some (.int y0)) hi hl) := rfl
set_option maxRecDepth 100000 in
theorem b_M_takes_0 {u : UV} {k : Nat} {a0 : Nat} {x1 : Int32} {x2 : Int32} {hi : HI} {hl : HL} {K : Option Value → HI → HL → Prop} : vc u (k + 2) 146 0 [.ref a0, .int x1, .int x2] [] hi hl K = (Call u 134 [.int x1] hi hl (fun r hi2 hl2 => vc u k 146 4 [.ref a0, .int x1, .int x2] (r.toList ++ []) hi2 hl2 K)) := rfl
set_option maxRecDepth 100000 in
theorem b_M_takes_4 {u : UV} {k : Nat} {a0 : Nat} {x1 : Int32} {x2 : Int32} {y0 : Int32} {hi : HI} {hl : HL} {K : Option Value → HI → HL → Prop} : vc u (k + 1) 146 4 [.ref a0, .int x1, .int x2] [.int y0] hi hl K = ((y0 = 0 → vc u k 146 25 [.ref a0, .int x1, .int x2] [] hi hl K) ∧ (¬ y0 = 0 → vc u k 146 7 [.ref a0, .int x1, .int x2] [] hi hl K)) := rfl
set_option maxRecDepth 100000 in
theorem b_M_takes_7 {u : UV} {k : Nat} {a0 : Nat} {x1 : Int32} {x2 : Int32} {hi : HI} {hl : HL} {K : Option Value → HI → HL → Prop} : vc u (k + 4) 146 7 [.ref a0, .int x1, .int x2] [] hi hl K = (Call u 119 [.int x2, .int 0, .int 99] hi hl (fun r hi2 hl2 => vc u k 146 14 [.ref a0, .int x1, .int x2] (r.toList ++ []) hi2 hl2 K)) := rfl
set_option maxRecDepth 100000 in
theorem b_M_takes_14 {u : UV} {k : Nat} {a0 : Nat} {x1 : Int32} {x2 : Int32} {y0 : Int32} {hi : HI} {hl : HL} {K : Option Value → HI → HL → Prop} : vc u (k + 1) 146 14 [.ref a0, .int x1, .int x2] [.int y0] hi hl K = ((y0 = 0 → vc u k 146 25 [.ref a0, .int x1, .int x2] [] hi hl K) ∧ (¬ y0 = 0 → vc u k 146 17 [.ref a0, .int x1, .int x2] [] hi hl K)) := rfl
set_option maxRecDepth 100000 in
theorem b_M_takes_17 {u : UV} {k : Nat} {a0 : Nat} {x1 : Int32} {x2 : Int32} {hi : HI} {hl : HL} {K : Option Value → HI → HL → Prop} : vc u (k + 3) 146 17 [.ref a0, .int x1, .int x2] [] hi hl K = (Call u 138 [.int x1, .int x2] hi hl (fun r hi2 hl2 => vc u k 146 22 [.ref a0, .int x1, .int x2] (r.toList ++ []) hi2 hl2 K)) := rfl
set_option maxRecDepth 100000 in
theorem b_M_takes_22 {u : UV} {k : Nat} {a0 : Nat} {x1 : Int32} {x2 : Int32} {y0 : Int32} {hi : HI} {hl : HL} {K : Option Value → HI → HL → Prop} : vc u (k + 1) 146 22 [.ref a0, .int x1, .int x2] [.int y0] hi hl K = (vc u k 146 31 [.ref a0, .int x1, .int x2] [.int y0] hi hl K) := rfl
set_option maxRecDepth 100000 in
theorem b_M_takes_25 {u : UV} {k : Nat} {a0 : Nat} {x1 : Int32} {x2 : Int32} {hi : HI} {hl : HL} {K : Option Value → HI → HL → Prop} : vc u (k + 3) 146 25 [.ref a0, .int x1, .int x2] [] hi hl K = ((kd a0 = 7 ∧ 7 < 8) ∧ Call u 118 [.ref a0, .int (-1000000001)] hi hl (fun r hi2 hl2 => vc u k 146 31 [.ref a0, .int x1, .int x2] (r.toList ++ []) hi2 hl2 K)) := rfl
set_option maxRecDepth 100000 in
theorem b_M_takes_31 {u : UV} {k : Nat} {a0 : Nat} {x1 : Int32} {x2 : Int32} {y0 : Int32} {hi : HI} {hl : HL} {K : Option Value → HI → HL → Prop} : vc u (k + 1) 146 31 [.ref a0, .int x1, .int x2] [.int y0] hi hl K = (True ∧ K (some (.int y0)) hi hl) := rfl
set_option maxRecDepth 100000 in
theorem b_M_lay_0 {u : UV} {k : Nat} {a0 : Nat} {x1 : Int32} {hi : HI} {hl : HL} {K : Option Value → HI → HL → Prop} : vc u (k + 3) 147 0 [.ref a0, .int x1] [] hi hl K = ((kd a0 = 7 ∧ 7 < 8) ∧ Call u 131 [.ref a0, .int x1] hi hl (fun r hi2 hl2 => vc u k 147 5 [.ref a0, .int x1] (r.toList ++ []) hi2 hl2 K)) := rfl
set_option maxRecDepth 100000 in
theorem b_M_lay_5 {u : UV} {k : Nat} {a0 : Nat} {x1 : Int32} {y0 : Int32} {hi : HI} {hl : HL} {K : Option Value → HI → HL → Prop} : vc u (k + 1) 147 5 [.ref a0, .int x1] [.int y0] hi hl K = ((¬ y0 = 0 → vc u k 147 15 [.ref a0, .int x1] [] hi hl K) ∧ (y0 = 0 → vc u k 147 8 [.ref a0, .int x1] [] hi hl K)) := rfl
set_option maxRecDepth 100000 in
theorem b_M_lay_8 {u : UV} {k : Nat} {a0 : Nat} {x1 : Int32} {hi : HI} {hl : HL} {K : Option Value → HI → HL → Prop} : vc u (k + 3) 147 8 [.ref a0, .int x1] [] hi hl K = ((kd a0 = 7 ∧ 7 < 8) ∧ Call u 118 [.ref a0, .int (-1000000001)] hi hl (fun r hi2 hl2 => vc u k 147 14 [.ref a0, .int x1] (r.toList ++ []) hi2 hl2 K)) := rfl
set_option maxRecDepth 100000 in
theorem b_M_lay_14 {u : UV} {k : Nat} {a0 : Nat} {x1 : Int32} {y0 : Int32} {hi : HI} {hl : HL} {K : Option Value → HI → HL → Prop} : vc u (k + 1) 147 14 [.ref a0, .int x1] [.int y0] hi hl K = (True ∧ K (some (.int y0)) hi hl) := rfl
set_option maxRecDepth 100000 in
theorem b_M_lay_15 {u : UV} {k : Nat} {a0 : Nat} {x1 : Int32} {hi : HI} {hl : HL} {K : Option Value → HI → HL → Prop} : vc u (k + 5) 147 15 [.ref a0, .int x1] [] hi hl K = (kd a0 = 7 ∧ Call u 132 [.int x1, .int 5] hi hl (fun r hi2 hl2 => vc u k 147 24 [.ref a0, .int x1] (r.toList ++ [.ref (rf a0 0)]) hi2 hl2 K)) := rfl
set_option maxRecDepth 100000 in
theorem b_M_lay_24 {u : UV} {k : Nat} {a0 : Nat} {x1 : Int32} {y0 : Int32} {c1 : Nat} {hi : HI} {hl : HL} {K : Option Value → HI → HL → Prop} : vc u (k + 6) 147 24 [.ref a0, .int x1] [.int y0, .ref c1] hi hl K = ((kd c1 = 8 ∧ vp_in y0 (ln c1)) ∧ Call u 132 [.int x1, .int 4] (up2 hi c1 (Int32.toNatClampNeg y0) 0) hl (fun r hi2 hl2 => vc u k 147 32 [.ref a0, .int x1] (r.toList ++ [.ref a0]) hi2 hl2 K)) := rfl
set_option maxRecDepth 100000 in
theorem b_M_lay_32 {u : UV} {k : Nat} {a0 : Nat} {x1 : Int32} {y0 : Int32} {c1 : Nat} {hi : HI} {hl : HL} {K : Option Value → HI → HL → Prop} : vc u (k + 2) 147 32 [.ref a0, .int x1] [.int y0, .ref c1] hi hl K = ((kd c1 = 7 ∧ 7 < 8) ∧ Call u 120 [.ref c1, .int y0, .int 0] hi hl (fun r hi2 hl2 => vc u k 147 36 [.ref a0, .int x1] (r.toList ++ []) hi2 hl2 K)) := rfl
set_option maxRecDepth 100000 in
theorem b_M_lay_36 {u : UV} {k : Nat} {a0 : Nat} {x1 : Int32} {y0 : Int32} {hi : HI} {hl : HL} {K : Option Value → HI → HL → Prop} : vc u (k + 1) 147 36 [.ref a0, .int x1] [.int y0] hi hl K = (True ∧ K (some (.int y0)) hi hl) := rfl
set_option maxRecDepth 100000 in
theorem b_M_takesNow_0 {u : UV} {k : Nat} {a0 : Nat} {x1 : Int32} {l2 : Value} {l3 : Value} {hi : HI} {hl : HL} {K : Option Value → HI → HL → Prop} : vc u (k + 4) 148 0 [.ref a0, .int x1, l2, l3] [] hi hl K = ((kd a0 = 7 ∧ 7 < 8) ∧ Call u 133 [.ref a0, .int x1, .int 0] hi hl (fun r hi2 hl2 => vc u k 148 6 [.ref a0, .int x1, l2, l3] (r.toList ++ []) hi2 hl2 K)) := rfl
set_option maxRecDepth 100000 in
theorem b_M_takesNow_6 {u : UV} {k : Nat} {a0 : Nat} {x1 : Int32} {l2 : Value} {l3 : Value} {y0 : Int32} {hi : HI} {hl : HL} {K : Option Value → HI → HL → Prop} : vc u (k + 5) 148 6 [.ref a0, .int x1, l2, l3] [.int y0] hi hl K = (kd a0 = 7 ∧ (kd a0 = 7 ∧ 7 < 8) ∧ Call u 140 [.ref a0, .int x1] hi hl (fun r hi2 hl2 => vc u k 148 15 [.ref a0, .int x1, l2, l3] (r.toList ++ [.ref (rf a0 0), .int y0]) hi2 hl2 K)) := rfl
set_option maxRecDepth 100000 in
theorem b_M_takesNow_15 {u : UV} {k : Nat} {a0 : Nat} {x1 : Int32} {l2 : Value} {l3 : Value} {y0 : Int32} {c1 : Nat} {y2 : Int32} {hi : HI} {hl : HL} {K : Option Value → HI → HL → Prop} : vc u (k + 2) 148 15 [.ref a0, .int x1, l2, l3] [.int y0, .ref c1, .int y2] hi hl K = ((kd c1 = 8 ∧ vp_in y0 (ln c1)) ∧ Call u 138 [.int y2, .int (hi c1 (Int32.toNatClampNeg y0))] hi hl (fun r hi2 hl2 => vc u k 148 19 [.ref a0, .int x1, l2, l3] (r.toList ++ []) hi2 hl2 K)) := rfl
set_option maxRecDepth 100000 in
theorem b_M_takesNow_19 {u : UV} {k : Nat} {a0 : Nat} {x1 : Int32} {l2 : Value} {l3 : Value} {y0 : Int32} {hi : HI} {hl : HL} {K : Option Value → HI → HL → Prop} : vc u (k + 5) 148 19 [.ref a0, .int x1, l2, l3] [.int y0] hi hl K = ((kd a0 = 7 ∧ 7 < 8) ∧ Call u 133 [.ref a0, .int x1, .int 0] hi hl (fun r hi2 hl2 => vc u k 148 26 [.ref a0, .int x1, .int y0, l3] (r.toList ++ []) hi2 hl2 K)) := rfl
set_option maxRecDepth 100000 in
theorem b_M_takesNow_26 {u : UV} {k : Nat} {a0 : Nat} {x1 : Int32} {x2 : Int32} {l3 : Value} {y0 : Int32} {hi : HI} {hl : HL} {K : Option Value → HI → HL → Prop} : vc u (k + 2) 148 26 [.ref a0, .int x1, .int x2, l3] [.int y0] hi hl K = ((¬ y0 = 4 → vc u k 148 56 [.ref a0, .int x1, .int x2, l3] [] hi hl K) ∧ (y0 = 4 → vc u k 148 30 [.ref a0, .int x1, .int x2, l3] [] hi hl K)) := rfl
set_option maxRecDepth 100000 in
theorem b_M_takesNow_30 {u : UV} {k : Nat} {a0 : Nat} {x1 : Int32} {x2 : Int32} {l3 : Value} {hi : HI} {hl : HL} {K : Option Value → HI → HL → Prop} : vc u (k + 7) 148 30 [.ref a0, .int x1, .int x2, l3] [] hi hl K = (kd a0 = 7 ∧ (kd (rf a0 0) = 8 ∧ vp_in 64 (ln (rf a0 0))) ∧ (¬ (2 : Int32) = 0 ∧ (¬ ((hi (rf a0 0) (Int32.toNatClampNeg 64)) - (hi (rf a0 0) (Int32.toNatClampNeg 64)) / 2 * 2) = 0 → vc u k 148 56 [.ref a0, .int x1, .int x2, l3] [] hi hl K) ∧ (((hi (rf a0 0) (Int32.toNatClampNeg 64)) - (hi (rf a0 0) (Int32.toNatClampNeg 64)) / 2 * 2) = 0 → vc u k 148 42 [.ref a0, .int x1, .int x2, l3] [] hi hl K))) := rfl
set_option maxRecDepth 100000 in
theorem b_M_takesNow_42 {u : UV} {k : Nat} {a0 : Nat} {x1 : Int32} {x2 : Int32} {l3 : Value} {hi : HI} {hl : HL} {K : Option Value → HI → HL → Prop} : vc u (k + 7) 148 42 [.ref a0, .int x1, .int x2, l3] [] hi hl K = (kd a0 = 7 ∧ (kd (rf a0 0) = 8 ∧ vp_in 67 (ln (rf a0 0))) ∧ vc u k 148 57 [.ref a0, .int x1, .int x2, l3] [.int (if ((hi (rf a0 0) (Int32.toNatClampNeg 67)) : Int32) < (2 : Int32) then (hi (rf a0 0) (Int32.toNatClampNeg 67)) else 2)] hi hl K) := rfl
set_option maxRecDepth 100000 in
theorem b_M_takesNow_56 {u : UV} {k : Nat} {a0 : Nat} {x1 : Int32} {x2 : Int32} {l3 : Value} {hi : HI} {hl : HL} {K : Option Value → HI → HL → Prop} : vc u (k + 1) 148 56 [.ref a0, .int x1, .int x2, l3] [] hi hl K = (vc u k 148 57 [.ref a0, .int x1, .int x2, l3] [.int 0] hi hl K) := rfl
set_option maxRecDepth 100000 in
theorem b_M_takesNow_57 {u : UV} {k : Nat} {a0 : Nat} {x1 : Int32} {x2 : Int32} {l3 : Value} {y0 : Int32} {hi : HI} {hl : HL} {K : Option Value → HI → HL → Prop} : vc u (k + 6) 148 57 [.ref a0, .int x1, .int x2, l3] [.int y0] hi hl K = (kd a0 = 7 ∧ (kd a0 = 7 ∧ 7 < 8) ∧ Call u 140 [.ref a0, .int x1] hi hl (fun r hi2 hl2 => vc u k 148 67 [.ref a0, .int x1, .int x2, .int y0] (r.toList ++ [.ref (rf a0 0)]) hi2 hl2 K)) := rfl
set_option maxRecDepth 100000 in
theorem b_M_takesNow_67 {u : UV} {k : Nat} {a0 : Nat} {x1 : Int32} {x2 : Int32} {x3 : Int32} {y0 : Int32} {c1 : Nat} {hi : HI} {hl : HL} {K : Option Value → HI → HL → Prop} : vc u (k + 18) 148 67 [.ref a0, .int x1, .int x2, .int x3] [.int y0, .ref c1] hi hl K = ((kd c1 = 8 ∧ vp_in y0 (ln c1)) ∧ (kd c1 = 8 ∧ vp_in y0 (ln c1)) ∧ kd a0 = 7 ∧ (kd (rf a0 0) = 8 ∧ vp_in 67 (ln (rf a0 0))) ∧ (kd (rf a0 0) = 8 ∧ vp_in 67 (ln (rf a0 0))) ∧ kd a0 = 7 ∧ Call u 132 [.int x1, .int 4] (up2 (up2 hi c1 (Int32.toNatClampNeg y0) ((hi c1 (Int32.toNatClampNeg y0)) - x2)) (rf a0 0) (Int32.toNatClampNeg 67) (((up2 hi c1 (Int32.toNatClampNeg y0) ((hi c1 (Int32.toNatClampNeg y0)) - x2)) (rf a0 0) (Int32.toNatClampNeg 67)) - x3)) hl (fun r hi2 hl2 => vc u k 148 92 [.ref a0, .int x1, .int x2, .int x3] (r.toList ++ [.ref (rf a0 0)]) hi2 hl2 K)) := rfl
set_option maxRecDepth 100000 in
theorem b_M_takesNow_92 {u : UV} {k : Nat} {a0 : Nat} {x1 : Int32} {x2 : Int32} {x3 : Int32} {y0 : Int32} {c1 : Nat} {hi : HI} {hl : HL} {K : Option Value → HI → HL → Prop} : vc u (k + 12) 148 92 [.ref a0, .int x1, .int x2, .int x3] [.int y0, .ref c1] hi hl K = ((kd c1 = 8 ∧ vp_in y0 (ln c1)) ∧ (kd c1 = 8 ∧ vp_in y0 (ln c1)) ∧ kd a0 = 7 ∧ Call u 132 [.int x1, .int 5] (up2 hi c1 (Int32.toNatClampNeg y0) ((hi c1 (Int32.toNatClampNeg y0)) + (x2 + x3))) hl (fun r hi2 hl2 => vc u k 148 108 [.ref a0, .int x1, .int x2, .int x3] (r.toList ++ [.ref (rf a0 0)]) hi2 hl2 K)) := rfl
set_option maxRecDepth 100000 in
theorem b_M_takesNow_108 {u : UV} {k : Nat} {a0 : Nat} {x1 : Int32} {x2 : Int32} {x3 : Int32} {y0 : Int32} {c1 : Nat} {hi : HI} {hl : HL} {K : Option Value → HI → HL → Prop} : vc u (k + 9) 148 108 [.ref a0, .int x1, .int x2, .int x3] [.int y0, .ref c1] hi hl K = ((kd c1 = 8 ∧ vp_in y0 (ln c1)) ∧ (kd c1 = 8 ∧ vp_in y0 (ln c1)) ∧ True ∧ K (some (.int (x2 + x3))) (up2 hi c1 (Int32.toNatClampNeg y0) ((hi c1 (Int32.toNatClampNeg y0)) + x3)) hl) := rfl
set_option maxRecDepth 100000 in
theorem b_M_step_0 {u : UV} {k : Nat} {a0 : Nat} {x1 : Int32} {l2 : Value} {l3 : Value} {hi : HI} {hl : HL} {K : Option Value → HI → HL → Prop} : vc u (k + 4) 149 0 [.ref a0, .int x1, l2, l3] [] hi hl K = ((kd a0 = 7 ∧ 7 < 8) ∧ Call u 133 [.ref a0, .int x1, .int 6] hi hl (fun r hi2 hl2 => vc u k 149 7 [.ref a0, .int x1, l2, l3] (r.toList ++ []) hi2 hl2 K)) := rfl
set_option maxRecDepth 100000 in
theorem b_M_step_7 {u : UV} {k : Nat} {a0 : Nat} {x1 : Int32} {l2 : Value} {l3 : Value} {y0 : Int32} {hi : HI} {hl : HL} {K : Option Value → HI → HL → Prop} : vc u (k + 5) 149 7 [.ref a0, .int x1, l2, l3] [.int y0] hi hl K = ((kd a0 = 7 ∧ 7 < 8) ∧ Call u 133 [.ref a0, .int x1, .int 2] hi hl (fun r hi2 hl2 => vc u k 149 14 [.ref a0, .int x1, .int y0, l3] (r.toList ++ []) hi2 hl2 K)) := rfl
set_option maxRecDepth 100000 in
theorem b_M_step_14 {u : UV} {k : Nat} {a0 : Nat} {x1 : Int32} {x2 : Int32} {l3 : Value} {y0 : Int32} {hi : HI} {hl : HL} {K : Option Value → HI → HL → Prop} : vc u (k + 5) 149 14 [.ref a0, .int x1, .int x2, l3] [.int y0] hi hl K = ((¬ x2 = 1 → vc u k 149 25 [.ref a0, .int x1, .int x2, .int y0] [.int y0] hi hl K) ∧ (x2 = 1 → vc u k 149 21 [.ref a0, .int x1, .int x2, .int y0] [.int y0] hi hl K)) := rfl
set_option maxRecDepth 100000 in
theorem b_M_step_21 {u : UV} {k : Nat} {a0 : Nat} {x1 : Int32} {x2 : Int32} {x3 : Int32} {y0 : Int32} {hi : HI} {hl : HL} {K : Option Value → HI → HL → Prop} : vc u (k + 2) 149 21 [.ref a0, .int x1, .int x2, .int x3] [.int y0] hi hl K = (vc u k 149 27 [.ref a0, .int x1, .int x2, .int x3] [.int 0, .int y0] hi hl K) := rfl
set_option maxRecDepth 100000 in
theorem b_M_step_25 {u : UV} {k : Nat} {a0 : Nat} {x1 : Int32} {x2 : Int32} {x3 : Int32} {y0 : Int32} {hi : HI} {hl : HL} {K : Option Value → HI → HL → Prop} : vc u (k + 1) 149 25 [.ref a0, .int x1, .int x2, .int x3] [.int y0] hi hl K = (vc u k 149 27 [.ref a0, .int x1, .int x2, .int x3] [.int 7, .int y0] hi hl K) := rfl
set_option maxRecDepth 100000 in
theorem b_M_step_27 {u : UV} {k : Nat} {a0 : Nat} {x1 : Int32} {x2 : Int32} {x3 : Int32} {y0 : Int32} {y1 : Int32} {hi : HI} {hl : HL} {K : Option Value → HI → HL → Prop} : vc u (k + 1) 149 27 [.ref a0, .int x1, .int x2, .int x3] [.int y0, .int y1] hi hl K = ((y1 = y0 → vc u k 149 56 [.ref a0, .int x1, .int x2, .int x3] [] hi hl K) ∧ (¬ y1 = y0 → vc u k 149 30 [.ref a0, .int x1, .int x2, .int x3] [] hi hl K)) := rfl
set_option maxRecDepth 100000 in
theorem b_M_step_30 {u : UV} {k : Nat} {a0 : Nat} {x1 : Int32} {x2 : Int32} {x3 : Int32} {hi : HI} {hl : HL} {K : Option Value → HI → HL → Prop} : vc u (k + 5) 149 30 [.ref a0, .int x1, .int x2, .int x3] [] hi hl K = (kd a0 = 7 ∧ Call u 132 [.int x1, .int 2] hi hl (fun r hi2 hl2 => vc u k 149 39 [.ref a0, .int x1, .int x2, .int x3] (r.toList ++ [.ref (rf a0 0)]) hi2 hl2 K)) := rfl
set_option maxRecDepth 100000 in
theorem b_M_step_39 {u : UV} {k : Nat} {a0 : Nat} {x1 : Int32} {x2 : Int32} {x3 : Int32} {y0 : Int32} {c1 : Nat} {hi : HI} {hl : HL} {K : Option Value → HI → HL → Prop} : vc u (k + 5) 149 39 [.ref a0, .int x1, .int x2, .int x3] [.int y0, .ref c1] hi hl K = ((kd c1 = 8 ∧ vp_in y0 (ln c1)) ∧ (¬ x2 = 1 → vc u k 149 50 [.ref a0, .int x1, .int x2, .int x3] [.int (hi c1 (Int32.toNatClampNeg y0)), .int y0, .ref c1] hi hl K) ∧ (x2 = 1 → vc u k 149 46 [.ref a0, .int x1, .int x2, .int x3] [.int (hi c1 (Int32.toNatClampNeg y0)), .int y0, .ref c1] hi hl K)) := rfl
set_option maxRecDepth 100000 in
theorem b_M_step_46 {u : UV} {k : Nat} {a0 : Nat} {x1 : Int32} {x2 : Int32} {x3 : Int32} {y0 : Int32} {y1 : Int32} {c2 : Nat} {hi : HI} {hl : HL} {K : Option Value → HI → HL → Prop} : vc u (k + 2) 149 46 [.ref a0, .int x1, .int x2, .int x3] [.int y0, .int y1, .ref c2] hi hl K = (vc u k 149 51 [.ref a0, .int x1, .int x2, .int x3] [.int (-1), .int y0, .int y1, .ref c2] hi hl K) := rfl
set_option maxRecDepth 100000 in
theorem b_M_step_50 {u : UV} {k : Nat} {a0 : Nat} {x1 : Int32} {x2 : Int32} {x3 : Int32} {y0 : Int32} {y1 : Int32} {c2 : Nat} {hi : HI} {hl : HL} {K : Option Value → HI → HL → Prop} : vc u (k + 1) 149 50 [.ref a0, .int x1, .int x2, .int x3] [.int y0, .int y1, .ref c2] hi hl K = (vc u k 149 51 [.ref a0, .int x1, .int x2, .int x3] [.int 1, .int y0, .int y1, .ref c2] hi hl K) := rfl
set_option maxRecDepth 100000 in
theorem b_M_step_51 {u : UV} {k : Nat} {a0 : Nat} {x1 : Int32} {x2 : Int32} {x3 : Int32} {y0 : Int32} {y1 : Int32} {y2 : Int32} {c3 : Nat} {hi : HI} {hl : HL} {K : Option Value → HI → HL → Prop} : vc u (k + 3) 149 51 [.ref a0, .int x1, .int x2, .int x3] [.int y0, .int y1, .int y2, .ref c3] hi hl K = ((kd c3 = 8 ∧ vp_in y2 (ln c3)) ∧ vc u k 149 110 [.ref a0, .int x1, .int x2, .int x3] [] (up2 hi c3 (Int32.toNatClampNeg y2) (y1 + y0)) hl K) := rfl
set_option maxRecDepth 100000 in
theorem b_M_step_56 {u : UV} {k : Nat} {a0 : Nat} {x1 : Int32} {x2 : Int32} {x3 : Int32} {hi : HI} {hl : HL} {K : Option Value → HI → HL → Prop} : vc u (k + 4) 149 56 [.ref a0, .int x1, .int x2, .int x3] [] hi hl K = ((kd a0 = 7 ∧ 7 < 8) ∧ Call u 133 [.ref a0, .int x1, .int 1] hi hl (fun r hi2 hl2 => vc u k 149 62 [.ref a0, .int x1, .int x2, .int x3] (r.toList ++ []) hi2 hl2 K)) := rfl
set_option maxRecDepth 100000 in
theorem b_M_step_62 {u : UV} {k : Nat} {a0 : Nat} {x1 : Int32} {x2 : Int32} {x3 : Int32} {y0 : Int32} {hi : HI} {hl : HL} {K : Option Value → HI → HL → Prop} : vc u (k + 2) 149 62 [.ref a0, .int x1, .int x2, .int x3] [.int y0] hi hl K = ((¬ y0 = 7 → vc u k 149 82 [.ref a0, .int x1, .int x2, .int x3] [] hi hl K) ∧ (y0 = 7 → vc u k 149 67 [.ref a0, .int x1, .int x2, .int x3] [] hi hl K)) := rfl
set_option maxRecDepth 100000 in
theorem b_M_step_67 {u : UV} {k : Nat} {a0 : Nat} {x1 : Int32} {x2 : Int32} {x3 : Int32} {hi : HI} {hl : HL} {K : Option Value → HI → HL → Prop} : vc u (k + 5) 149 67 [.ref a0, .int x1, .int x2, .int x3] [] hi hl K = (kd a0 = 7 ∧ Call u 132 [.int x1, .int 7] hi hl (fun r hi2 hl2 => vc u k 149 77 [.ref a0, .int x1, .int x2, .int x3] (r.toList ++ [.ref (rf a0 0)]) hi2 hl2 K)) := rfl
set_option maxRecDepth 100000 in
theorem b_M_step_77 {u : UV} {k : Nat} {a0 : Nat} {x1 : Int32} {x2 : Int32} {x3 : Int32} {y0 : Int32} {c1 : Nat} {hi : HI} {hl : HL} {K : Option Value → HI → HL → Prop} : vc u (k + 3) 149 77 [.ref a0, .int x1, .int x2, .int x3] [.int y0, .ref c1] hi hl K = ((kd c1 = 8 ∧ vp_in y0 (ln c1)) ∧ vc u k 149 110 [.ref a0, .int x1, .int x2, .int x3] [] (up2 hi c1 (Int32.toNatClampNeg y0) 1) hl K) := rfl
set_option maxRecDepth 100000 in
theorem b_M_step_82 {u : UV} {k : Nat} {a0 : Nat} {x1 : Int32} {x2 : Int32} {x3 : Int32} {hi : HI} {hl : HL} {K : Option Value → HI → HL → Prop} : vc u (k + 5) 149 82 [.ref a0, .int x1, .int x2, .int x3] [] hi hl K = (kd a0 = 7 ∧ Call u 132 [.int x1, .int 1] hi hl (fun r hi2 hl2 => vc u k 149 91 [.ref a0, .int x1, .int x2, .int x3] (r.toList ++ [.ref (rf a0 0)]) hi2 hl2 K)) := rfl
set_option maxRecDepth 100000 in
theorem b_M_step_91 {u : UV} {k : Nat} {a0 : Nat} {x1 : Int32} {x2 : Int32} {x3 : Int32} {y0 : Int32} {c1 : Nat} {hi : HI} {hl : HL} {K : Option Value → HI → HL → Prop} : vc u (k + 10) 149 91 [.ref a0, .int x1, .int x2, .int x3] [.int y0, .ref c1] hi hl K = ((kd c1 = 8 ∧ vp_in y0 (ln c1)) ∧ (kd c1 = 8 ∧ vp_in y0 (ln c1)) ∧ kd a0 = 7 ∧ Call u 132 [.int x1, .int 6] (up2 hi c1 (Int32.toNatClampNeg y0) ((hi c1 (Int32.toNatClampNeg y0)) + 1)) hl (fun r hi2 hl2 => vc u k 149 106 [.ref a0, .int x1, .int x2, .int x3] (r.toList ++ [.ref (rf a0 0)]) hi2 hl2 K)) := rfl
set_option maxRecDepth 100000 in
theorem b_M_step_106 {u : UV} {k : Nat} {a0 : Nat} {x1 : Int32} {x2 : Int32} {x3 : Int32} {y0 : Int32} {c1 : Nat} {hi : HI} {hl : HL} {K : Option Value → HI → HL → Prop} : vc u (k + 4) 149 106 [.ref a0, .int x1, .int x2, .int x3] [.int y0, .ref c1] hi hl K = ((kd c1 = 8 ∧ vp_in y0 (ln c1)) ∧ vc u k 149 110 [.ref a0, .int x1, .int x2, .int x3] [] (up2 hi c1 (Int32.toNatClampNeg y0) (1 - x2)) hl K) := rfl
set_option maxRecDepth 100000 in
theorem b_M_step_110 {u : UV} {k : Nat} {a0 : Nat} {x1 : Int32} {x2 : Int32} {x3 : Int32} {hi : HI} {hl : HL} {K : Option Value → HI → HL → Prop} : vc u (k + 1) 149 110 [.ref a0, .int x1, .int x2, .int x3] [] hi hl K = (mR 149 = none ∧ K none hi hl) := rfl
set_option maxRecDepth 100000 in
theorem b_M_isAtWork_0 {u : UV} {k : Nat} {a0 : Nat} {x1 : Int32} {x2 : Int32} {hi : HI} {hl : HL} {K : Option Value → HI → HL → Prop} : vc u (k + 7) 150 0 [.ref a0, .int x1, .int x2] [] hi hl K = ((¬ ((x2 >>> (x1 &&& 31)) &&& 1) = 1 → vc u k 150 23 [.ref a0, .int x1, .int x2] [] hi hl K) ∧ (((x2 >>> (x1 &&& 31)) &&& 1) = 1 → vc u k 150 9 [.ref a0, .int x1, .int x2] [] hi hl K)) := rfl
set_option maxRecDepth 100000 in
theorem b_M_isAtWork_9 {u : UV} {k : Nat} {a0 : Nat} {x1 : Int32} {x2 : Int32} {hi : HI} {hl : HL} {K : Option Value → HI → HL → Prop} : vc u (k + 4) 150 9 [.ref a0, .int x1, .int x2] [] hi hl K = ((kd a0 = 7 ∧ 7 < 8) ∧ Call u 133 [.ref a0, .int x1, .int 7] hi hl (fun r hi2 hl2 => vc u k 150 16 [.ref a0, .int x1, .int x2] (r.toList ++ []) hi2 hl2 K)) := rfl
set_option maxRecDepth 100000 in
theorem b_M_isAtWork_16 {u : UV} {k : Nat} {a0 : Nat} {x1 : Int32} {x2 : Int32} {y0 : Int32} {hi : HI} {hl : HL} {K : Option Value → HI → HL → Prop} : vc u (k + 1) 150 16 [.ref a0, .int x1, .int x2] [.int y0] hi hl K = ((¬ y0 = 0 → vc u k 150 23 [.ref a0, .int x1, .int x2] [] hi hl K) ∧ (y0 = 0 → vc u k 150 19 [.ref a0, .int x1, .int x2] [] hi hl K)) := rfl
set_option maxRecDepth 100000 in
theorem b_M_isAtWork_19 {u : UV} {k : Nat} {a0 : Nat} {x1 : Int32} {x2 : Int32} {hi : HI} {hl : HL} {K : Option Value → HI → HL → Prop} : vc u (k + 2) 150 19 [.ref a0, .int x1, .int x2] [] hi hl K = (vc u k 150 24 [.ref a0, .int x1, .int x2] [.int 1] hi hl K) := rfl
set_option maxRecDepth 100000 in
theorem b_M_isAtWork_23 {u : UV} {k : Nat} {a0 : Nat} {x1 : Int32} {x2 : Int32} {hi : HI} {hl : HL} {K : Option Value → HI → HL → Prop} : vc u (k + 1) 150 23 [.ref a0, .int x1, .int x2] [] hi hl K = (vc u k 150 24 [.ref a0, .int x1, .int x2] [.int 0] hi hl K) := rfl
set_option maxRecDepth 100000 in
theorem b_M_isAtWork_24 {u : UV} {k : Nat} {a0 : Nat} {x1 : Int32} {x2 : Int32} {y0 : Int32} {hi : HI} {hl : HL} {K : Option Value → HI → HL → Prop} : vc u (k + 1) 150 24 [.ref a0, .int x1, .int x2] [.int y0] hi hl K = (((y0 : Int32) = 0 ∨ (y0 : Int32) = 1) ∧ K (some (.int y0)) hi hl) := rfl
set_option maxRecDepth 100000 in
theorem b_M_minute_0 {u : UV} {k : Nat} {a0 : Nat} {x1 : Int32} {l2 : Value} {l3 : Value} {l4 : Value} {l5 : Value} {l6 : Value} {hi : HI} {hl : HL} {K : Option Value → HI → HL → Prop} : vc u (k + 11) 151 0 [.ref a0, .int x1, l2, l3, l4, l5, l6] [] hi hl K = (kd a0 = 7 ∧ (kd (rf a0 0) = 8 ∧ vp_in 64 (ln (rf a0 0))) ∧ (kd a0 = 7 ∧ (kd (rf a0 0) = 8 ∧ vp_in 66 (ln (rf a0 0))) ∧ (¬ (hi (rf a0 0) (Int32.toNatClampNeg 64)) = (hi (rf a0 0) (Int32.toNatClampNeg 66)) → vc u k 151 34 [.ref a0, .int x1, .int 0, l3, l4, l5, l6] [] hi hl K) ∧ ((hi (rf a0 0) (Int32.toNatClampNeg 64)) = (hi (rf a0 0) (Int32.toNatClampNeg 66)) → vc u k 151 19 [.ref a0, .int x1, .int 0, l3, l4, l5, l6] [] hi hl K))) := rfl
set_option maxRecDepth 100000 in
theorem b_M_minute_19 {u : UV} {k : Nat} {a0 : Nat} {x1 : Int32} {x2 : Int32} {l3 : Value} {l4 : Value} {l5 : Value} {l6 : Value} {hi : HI} {hl : HL} {K : Option Value → HI → HL → Prop} : vc u (k + 4) 151 19 [.ref a0, .int x1, .int x2, l3, l4, l5, l6] [] hi hl K = ((kd a0 = 7 ∧ 7 < 8) ∧ Call u 128 [.ref a0, .int 0] hi hl (fun r hi2 hl2 => vc u k 151 25 [.ref a0, .int x1, .int x2, l3, l4, l5, l6] (r.toList ++ [.ref a0]) hi2 hl2 K)) := rfl
set_option maxRecDepth 100000 in
theorem b_M_minute_25 {u : UV} {k : Nat} {a0 : Nat} {x1 : Int32} {x2 : Int32} {l3 : Value} {l4 : Value} {l5 : Value} {l6 : Value} {y0 : Int32} {c1 : Nat} {hi : HI} {hl : HL} {K : Option Value → HI → HL → Prop} : vc u (k + 3) 151 25 [.ref a0, .int x1, .int x2, l3, l4, l5, l6] [.int y0, .ref c1] hi hl K = ((kd a0 = 7 ∧ 7 < 8) ∧ Call u 128 [.ref a0, .int 1] hi hl (fun r hi2 hl2 => vc u k 151 30 [.ref a0, .int x1, .int x2, l3, l4, l5, l6] (r.toList ++ [.int y0, .ref c1]) hi2 hl2 K)) := rfl
set_option maxRecDepth 100000 in
theorem b_M_minute_30 {u : UV} {k : Nat} {a0 : Nat} {x1 : Int32} {x2 : Int32} {l3 : Value} {l4 : Value} {l5 : Value} {l6 : Value} {y0 : Int32} {y1 : Int32} {c2 : Nat} {hi : HI} {hl : HL} {K : Option Value → HI → HL → Prop} : vc u (k + 2) 151 30 [.ref a0, .int x1, .int x2, l3, l4, l5, l6] [.int y0, .int y1, .ref c2] hi hl K = (kd c2 = 7 ∧ True ∧ vc u k 151 34 [.ref a0, .int x1, .int x2, l3, l4, l5, l6] [] (up2 hi c2 5 (y1 + y0)) hl K) := rfl
set_option maxRecDepth 100000 in
theorem b_M_minute_34 {u : UV} {k : Nat} {a0 : Nat} {x1 : Int32} {x2 : Int32} {l3 : Value} {l4 : Value} {l5 : Value} {l6 : Value} {hi : HI} {hl : HL} {K : Option Value → HI → HL → Prop} : vc u (k + 9) 151 34 [.ref a0, .int x1, .int x2, l3, l4, l5, l6] [] hi hl K = (kd a0 = 7 ∧ (kd (rf a0 0) = 8 ∧ vp_in 64 (ln (rf a0 0))) ∧ (kd a0 = 7 ∧ (kd (rf a0 0) = 8 ∧ vp_in 65 (ln (rf a0 0))) ∧ ((hi (rf a0 0) (Int32.toNatClampNeg 64)) < (hi (rf a0 0) (Int32.toNatClampNeg 65)) → vc u k 151 55 [.ref a0, .int x1, .int x2, l3, l4, l5, l6] [] hi hl K) ∧ (¬ (hi (rf a0 0) (Int32.toNatClampNeg 64)) < (hi (rf a0 0) (Int32.toNatClampNeg 65)) → vc u k 151 51 [.ref a0, .int x1, .int x2, l3, l4, l5, l6] [] hi hl K))) := rfl
set_option maxRecDepth 100000 in
theorem b_M_minute_51 {u : UV} {k : Nat} {a0 : Nat} {x1 : Int32} {x2 : Int32} {l3 : Value} {l4 : Value} {l5 : Value} {l6 : Value} {hi : HI} {hl : HL} {K : Option Value → HI → HL → Prop} : vc u (k + 2) 151 51 [.ref a0, .int x1, .int x2, l3, l4, l5, l6] [] hi hl K = (vc u k 151 56 [.ref a0, .int x1, .int x2, l3, l4, l5, l6] [.int 1] hi hl K) := rfl
set_option maxRecDepth 100000 in
theorem b_M_minute_55 {u : UV} {k : Nat} {a0 : Nat} {x1 : Int32} {x2 : Int32} {l3 : Value} {l4 : Value} {l5 : Value} {l6 : Value} {hi : HI} {hl : HL} {K : Option Value → HI → HL → Prop} : vc u (k + 1) 151 55 [.ref a0, .int x1, .int x2, l3, l4, l5, l6] [] hi hl K = (vc u k 151 56 [.ref a0, .int x1, .int x2, l3, l4, l5, l6] [.int 0] hi hl K) := rfl
set_option maxRecDepth 100000 in
theorem b_M_minute_56 {u : UV} {k : Nat} {a0 : Nat} {x1 : Int32} {x2 : Int32} {l3 : Value} {l4 : Value} {l5 : Value} {l6 : Value} {y0 : Int32} {hi : HI} {hl : HL} {K : Option Value → HI → HL → Prop} : vc u (k + 3) 151 56 [.ref a0, .int x1, .int x2, l3, l4, l5, l6] [.int y0] hi hl K = (Wp u 151 60 [.ref a0, .int x1, .int x2, .int y0, .int 0, l5, l6] [] hi hl K) := rfl
set_option maxRecDepth 100000 in
theorem b_M_minute_60 {u : UV} {k : Nat} {a0 : Nat} {x1 : Int32} {x2 : Int32} {x3 : Int32} {x4 : Int32} {l5 : Value} {l6 : Value} {hi : HI} {hl : HL} {K : Option Value → HI → HL → Prop} : vc u (k + 6) 151 60 [.ref a0, .int x1, .int x2, .int x3, .int x4, l5, l6] [] hi hl K = (kd a0 = 7 ∧ (kd (rf a0 0) = 8 ∧ vp_in 68 (ln (rf a0 0))) ∧ ((hi (rf a0 0) (Int32.toNatClampNeg 68)) ≤ x4 → vc u k 151 105 [.ref a0, .int x1, .int x2, .int x3, .int x4, l5, l6] [] hi hl K) ∧ (¬ (hi (rf a0 0) (Int32.toNatClampNeg 68)) ≤ x4 → vc u k 151 72 [.ref a0, .int x1, .int x2, .int x3, .int x4, l5, l6] [] hi hl K)) := rfl
set_option maxRecDepth 100000 in
theorem b_M_minute_72 {u : UV} {k : Nat} {a0 : Nat} {x1 : Int32} {x2 : Int32} {x3 : Int32} {x4 : Int32} {l5 : Value} {l6 : Value} {hi : HI} {hl : HL} {K : Option Value → HI → HL → Prop} : vc u (k + 3) 151 72 [.ref a0, .int x1, .int x2, .int x3, .int x4, l5, l6] [] hi hl K = ((x3 = 0 → vc u k 151 96 [.ref a0, .int x1, .int x2, .int x3, .int x4, l5, l6] [.int x2] hi hl K) ∧ (¬ x3 = 0 → vc u k 151 77 [.ref a0, .int x1, .int x2, .int x3, .int x4, l5, l6] [.int x2] hi hl K)) := rfl
set_option maxRecDepth 100000 in
theorem b_M_minute_77 {u : UV} {k : Nat} {a0 : Nat} {x1 : Int32} {x2 : Int32} {x3 : Int32} {x4 : Int32} {l5 : Value} {l6 : Value} {y0 : Int32} {hi : HI} {hl : HL} {K : Option Value → HI → HL → Prop} : vc u (k + 4) 151 77 [.ref a0, .int x1, .int x2, .int x3, .int x4, l5, l6] [.int y0] hi hl K = ((kd a0 = 7 ∧ 7 < 8) ∧ Call u 150 [.ref a0, .int x4, .int x1] hi hl (fun r hi2 hl2 => vc u k 151 84 [.ref a0, .int x1, .int x2, .int x3, .int x4, l5, l6] (r.toList ++ [.int y0]) hi2 hl2 K)) := rfl
set_option maxRecDepth 100000 in
theorem b_M_minute_84 {u : UV} {k : Nat} {a0 : Nat} {x1 : Int32} {x2 : Int32} {x3 : Int32} {x4 : Int32} {l5 : Value} {l6 : Value} {y0 : Int32} {y1 : Int32} {hi : HI} {hl : HL} {K : Option Value → HI → HL → Prop} : vc u (k + 1) 151 84 [.ref a0, .int x1, .int x2, .int x3, .int x4, l5, l6] [.int y0, .int y1] hi hl K = ((y0 = 0 → vc u k 151 96 [.ref a0, .int x1, .int x2, .int x3, .int x4, l5, l6] [.int y1] hi hl K) ∧ (¬ y0 = 0 → vc u k 151 87 [.ref a0, .int x1, .int x2, .int x3, .int x4, l5, l6] [.int y1] hi hl K)) := rfl
set_option maxRecDepth 100000 in
theorem b_M_minute_87 {u : UV} {k : Nat} {a0 : Nat} {x1 : Int32} {x2 : Int32} {x3 : Int32} {x4 : Int32} {l5 : Value} {l6 : Value} {y0 : Int32} {hi : HI} {hl : HL} {K : Option Value → HI → HL → Prop} : vc u (k + 3) 151 87 [.ref a0, .int x1, .int x2, .int x3, .int x4, l5, l6] [.int y0] hi hl K = ((kd a0 = 7 ∧ 7 < 8) ∧ Call u 148 [.ref a0, .int x4] hi hl (fun r hi2 hl2 => vc u k 151 93 [.ref a0, .int x1, .int x2, .int x3, .int x4, l5, l6] (r.toList ++ [.int y0]) hi2 hl2 K)) := rfl
set_option maxRecDepth 100000 in
theorem b_M_minute_93 {u : UV} {k : Nat} {a0 : Nat} {x1 : Int32} {x2 : Int32} {x3 : Int32} {x4 : Int32} {l5 : Value} {l6 : Value} {y0 : Int32} {y1 : Int32} {hi : HI} {hl : HL} {K : Option Value → HI → HL → Prop} : vc u (k + 1) 151 93 [.ref a0, .int x1, .int x2, .int x3, .int x4, l5, l6] [.int y0, .int y1] hi hl K = (vc u k 151 97 [.ref a0, .int x1, .int x2, .int x3, .int x4, l5, l6] [.int y0, .int y1] hi hl K) := rfl
set_option maxRecDepth 100000 in
theorem b_M_minute_96 {u : UV} {k : Nat} {a0 : Nat} {x1 : Int32} {x2 : Int32} {x3 : Int32} {x4 : Int32} {l5 : Value} {l6 : Value} {y0 : Int32} {hi : HI} {hl : HL} {K : Option Value → HI → HL → Prop} : vc u (k + 1) 151 96 [.ref a0, .int x1, .int x2, .int x3, .int x4, l5, l6] [.int y0] hi hl K = (vc u k 151 97 [.ref a0, .int x1, .int x2, .int x3, .int x4, l5, l6] [.int 0, .int y0] hi hl K) := rfl
set_option maxRecDepth 100000 in
theorem b_M_minute_97 {u : UV} {k : Nat} {a0 : Nat} {x1 : Int32} {x2 : Int32} {x3 : Int32} {x4 : Int32} {l5 : Value} {l6 : Value} {y0 : Int32} {y1 : Int32} {hi : HI} {hl : HL} {K : Option Value → HI → HL → Prop} : vc u (k + 4) 151 97 [.ref a0, .int x1, .int x2, .int x3, .int x4, l5, l6] [.int y0, .int y1] hi hl K = (Wp u 151 60 [.ref a0, .int x1, .int (y1 + y0), .int x3, .int (x4 + 1), l5, l6] [] hi hl K) := rfl
set_option maxRecDepth 100000 in
theorem b_M_minute_105 {u : UV} {k : Nat} {a0 : Nat} {x1 : Int32} {x2 : Int32} {x3 : Int32} {x4 : Int32} {l5 : Value} {l6 : Value} {hi : HI} {hl : HL} {K : Option Value → HI → HL → Prop} : vc u (k + 2) 151 105 [.ref a0, .int x1, .int x2, .int x3, .int x4, l5, l6] [] hi hl K = (Wp u 151 108 [.ref a0, .int x1, .int x2, .int x3, .int 0, l5, l6] [] hi hl K) := rfl
set_option maxRecDepth 100000 in
theorem b_M_minute_108 {u : UV} {k : Nat} {a0 : Nat} {x1 : Int32} {x2 : Int32} {x3 : Int32} {x4 : Int32} {l5 : Value} {l6 : Value} {hi : HI} {hl : HL} {K : Option Value → HI → HL → Prop} : vc u (k + 6) 151 108 [.ref a0, .int x1, .int x2, .int x3, .int x4, l5, l6] [] hi hl K = (kd a0 = 7 ∧ (kd (rf a0 0) = 8 ∧ vp_in 68 (ln (rf a0 0))) ∧ ((hi (rf a0 0) (Int32.toNatClampNeg 68)) ≤ x4 → vc u k 151 170 [.ref a0, .int x1, .int x2, .int x3, .int x4, l5, l6] [] hi hl K) ∧ (¬ (hi (rf a0 0) (Int32.toNatClampNeg 68)) ≤ x4 → vc u k 151 120 [.ref a0, .int x1, .int x2, .int x3, .int x4, l5, l6] [] hi hl K)) := rfl
set_option maxRecDepth 100000 in
theorem b_M_minute_120 {u : UV} {k : Nat} {a0 : Nat} {x1 : Int32} {x2 : Int32} {x3 : Int32} {x4 : Int32} {l5 : Value} {l6 : Value} {hi : HI} {hl : HL} {K : Option Value → HI → HL → Prop} : vc u (k + 2) 151 120 [.ref a0, .int x1, .int x2, .int x3, .int x4, l5, l6] [] hi hl K = ((x3 = 0 → vc u k 151 170 [.ref a0, .int x1, .int x2, .int x3, .int x4, l5, l6] [] hi hl K) ∧ (¬ x3 = 0 → vc u k 151 124 [.ref a0, .int x1, .int x2, .int x3, .int x4, l5, l6] [] hi hl K)) := rfl
set_option maxRecDepth 100000 in
theorem b_M_minute_124 {u : UV} {k : Nat} {a0 : Nat} {x1 : Int32} {x2 : Int32} {x3 : Int32} {x4 : Int32} {l5 : Value} {l6 : Value} {hi : HI} {hl : HL} {K : Option Value → HI → HL → Prop} : vc u (k + 3) 151 124 [.ref a0, .int x1, .int x2, .int x3, .int x4, l5, l6] [] hi hl K = ((kd a0 = 7 ∧ 7 < 8) ∧ Call u 139 [.ref a0, .int x4] hi hl (fun r hi2 hl2 => vc u k 151 130 [.ref a0, .int x1, .int x2, .int x3, .int x4, l5, l6] (r.toList ++ []) hi2 hl2 K)) := rfl
set_option maxRecDepth 100000 in
theorem b_M_minute_130 {u : UV} {k : Nat} {a0 : Nat} {x1 : Int32} {x2 : Int32} {x3 : Int32} {x4 : Int32} {l5 : Value} {l6 : Value} {y0 : Int32} {hi : HI} {hl : HL} {K : Option Value → HI → HL → Prop} : vc u (k + 3) 151 130 [.ref a0, .int x1, .int x2, .int x3, .int x4, l5, l6] [.int y0] hi hl K = (Wp u 151 135 [.ref a0, .int x1, .int x2, .int x3, .int x4, .int y0, .int 0] [] hi hl K) := rfl
set_option maxRecDepth 100000 in
theorem b_M_minute_135 {u : UV} {k : Nat} {a0 : Nat} {x1 : Int32} {x2 : Int32} {x3 : Int32} {x4 : Int32} {x5 : Int32} {x6 : Int32} {hi : HI} {hl : HL} {K : Option Value → HI → HL → Prop} : vc u (k + 3) 151 135 [.ref a0, .int x1, .int x2, .int x3, .int x4, .int x5, .int x6] [] hi hl K = ((x5 ≤ x6 → vc u k 151 164 [.ref a0, .int x1, .int x2, .int x3, .int x4, .int x5, .int x6] [] hi hl K) ∧ (¬ x5 ≤ x6 → vc u k 151 142 [.ref a0, .int x1, .int x2, .int x3, .int x4, .int x5, .int x6] [] hi hl K)) := rfl
set_option maxRecDepth 100000 in
theorem b_M_minute_142 {u : UV} {k : Nat} {a0 : Nat} {x1 : Int32} {x2 : Int32} {x3 : Int32} {x4 : Int32} {x5 : Int32} {x6 : Int32} {hi : HI} {hl : HL} {K : Option Value → HI → HL → Prop} : vc u (k + 4) 151 142 [.ref a0, .int x1, .int x2, .int x3, .int x4, .int x5, .int x6] [] hi hl K = ((kd a0 = 7 ∧ 7 < 8) ∧ Call u 150 [.ref a0, .int x4, .int x1] hi hl (fun r hi2 hl2 => vc u k 151 149 [.ref a0, .int x1, .int x2, .int x3, .int x4, .int x5, .int x6] (r.toList ++ []) hi2 hl2 K)) := rfl
set_option maxRecDepth 100000 in
theorem b_M_minute_149 {u : UV} {k : Nat} {a0 : Nat} {x1 : Int32} {x2 : Int32} {x3 : Int32} {x4 : Int32} {x5 : Int32} {x6 : Int32} {y0 : Int32} {hi : HI} {hl : HL} {K : Option Value → HI → HL → Prop} : vc u (k + 1) 151 149 [.ref a0, .int x1, .int x2, .int x3, .int x4, .int x5, .int x6] [.int y0] hi hl K = ((y0 = 0 → vc u k 151 164 [.ref a0, .int x1, .int x2, .int x3, .int x4, .int x5, .int x6] [] hi hl K) ∧ (¬ y0 = 0 → vc u k 151 152 [.ref a0, .int x1, .int x2, .int x3, .int x4, .int x5, .int x6] [] hi hl K)) := rfl
set_option maxRecDepth 100000 in
theorem b_M_minute_152 {u : UV} {k : Nat} {a0 : Nat} {x1 : Int32} {x2 : Int32} {x3 : Int32} {x4 : Int32} {x5 : Int32} {x6 : Int32} {hi : HI} {hl : HL} {K : Option Value → HI → HL → Prop} : vc u (k + 3) 151 152 [.ref a0, .int x1, .int x2, .int x3, .int x4, .int x5, .int x6] [] hi hl K = ((kd a0 = 7 ∧ 7 < 8) ∧ Call u 149 [.ref a0, .int x4] hi hl (fun r hi2 hl2 => vc u k 151 158 [.ref a0, .int x1, .int x2, .int x3, .int x4, .int x5, .int x6] (r.toList ++ []) hi2 hl2 K)) := rfl
set_option maxRecDepth 100000 in
theorem b_M_minute_158 {u : UV} {k : Nat} {a0 : Nat} {x1 : Int32} {x2 : Int32} {x3 : Int32} {x4 : Int32} {x5 : Int32} {x6 : Int32} {hi : HI} {hl : HL} {K : Option Value → HI → HL → Prop} : vc u (k + 2) 151 158 [.ref a0, .int x1, .int x2, .int x3, .int x4, .int x5, .int x6] [] hi hl K = (Wp u 151 135 [.ref a0, .int x1, .int x2, .int x3, .int x4, .int x5, .int (x6 + 1)] [] hi hl K) := rfl
set_option maxRecDepth 100000 in
theorem b_M_minute_164 {u : UV} {k : Nat} {a0 : Nat} {x1 : Int32} {x2 : Int32} {x3 : Int32} {x4 : Int32} {x5 : Int32} {x6 : Int32} {hi : HI} {hl : HL} {K : Option Value → HI → HL → Prop} : vc u (k + 2) 151 164 [.ref a0, .int x1, .int x2, .int x3, .int x4, .int x5, .int x6] [] hi hl K = (Wp u 151 108 [.ref a0, .int x1, .int x2, .int x3, .int (x4 + 1), .int x5, .int x6] [] hi hl K) := rfl
set_option maxRecDepth 100000 in
theorem b_M_minute_170 {u : UV} {k : Nat} {a0 : Nat} {x1 : Int32} {x2 : Int32} {x3 : Int32} {x4 : Int32} {l5 : Value} {l6 : Value} {hi : HI} {hl : HL} {K : Option Value → HI → HL → Prop} : vc u (k + 10) 151 170 [.ref a0, .int x1, .int x2, .int x3, .int x4, l5, l6] [] hi hl K = (kd a0 = 7 ∧ (kd (rf a0 0) = 8 ∧ vp_in 64 (ln (rf a0 0))) ∧ (kd (rf a0 0) = 8 ∧ vp_in 64 (ln (rf a0 0))) ∧ True ∧ K (some (.int x2)) (up2 hi (rf a0 0) (Int32.toNatClampNeg 64) ((hi (rf a0 0) (Int32.toNatClampNeg 64)) + 1)) hl) := rfl
set_option maxRecDepth 100000 in
theorem b_M_minutesGo_0 {u : UV} {k : Nat} {a0 : Nat} {x1 : Int32} {l2 : Value} {l3 : Value} {hi : HI} {hl : HL} {K : Option Value → HI → HL → Prop} : vc u (k + 4) 152 0 [.ref a0, .int x1, l2, l3] [] hi hl K = (Wp u 152 4 [.ref a0, .int x1, .int 0, .int 0] [] hi hl K) := rfl
set_option maxRecDepth 100000 in
theorem b_M_minutesGo_4 {u : UV} {k : Nat} {a0 : Nat} {x1 : Int32} {x2 : Int32} {x3 : Int32} {hi : HI} {hl : HL} {K : Option Value → HI → HL → Prop} : vc u (k + 3) 152 4 [.ref a0, .int x1, .int x2, .int x3] [] hi hl K = ((x1 ≤ x3 → vc u k 152 25 [.ref a0, .int x1, .int x2, .int x3] [] hi hl K) ∧ (¬ x1 ≤ x3 → vc u k 152 9 [.ref a0, .int x1, .int x2, .int x3] [] hi hl K)) := rfl
set_option maxRecDepth 100000 in
theorem b_M_minutesGo_9 {u : UV} {k : Nat} {a0 : Nat} {x1 : Int32} {x2 : Int32} {x3 : Int32} {hi : HI} {hl : HL} {K : Option Value → HI → HL → Prop} : vc u (k + 4) 152 9 [.ref a0, .int x1, .int x2, .int x3] [] hi hl K = ((kd a0 = 7 ∧ 7 < 8) ∧ Call u 151 [.ref a0, .int 511] hi hl (fun r hi2 hl2 => vc u k 152 17 [.ref a0, .int x1, .int x2, .int x3] (r.toList ++ [.int x2]) hi2 hl2 K)) := rfl
set_option maxRecDepth 100000 in
theorem b_M_minutesGo_17 {u : UV} {k : Nat} {a0 : Nat} {x1 : Int32} {x2 : Int32} {x3 : Int32} {y0 : Int32} {y1 : Int32} {hi : HI} {hl : HL} {K : Option Value → HI → HL → Prop} : vc u (k + 4) 152 17 [.ref a0, .int x1, .int x2, .int x3] [.int y0, .int y1] hi hl K = (Wp u 152 4 [.ref a0, .int x1, .int (y1 + y0), .int (x3 + 1)] [] hi hl K) := rfl
set_option maxRecDepth 100000 in
theorem b_M_minutesGo_25 {u : UV} {k : Nat} {a0 : Nat} {x1 : Int32} {x2 : Int32} {x3 : Int32} {hi : HI} {hl : HL} {K : Option Value → HI → HL → Prop} : vc u (k + 2) 152 25 [.ref a0, .int x1, .int x2, .int x3] [] hi hl K = (True ∧ K (some (.int x2)) hi hl) := rfl
set_option maxRecDepth 100000 in
theorem b_M_isTooLate_0 {u : UV} {k : Nat} {a0 : Nat} {x1 : Int32} {hi : HI} {hl : HL} {K : Option Value → HI → HL → Prop} : vc u (k + 8) 153 0 [.ref a0, .int x1] [] hi hl K = (kd a0 = 7 ∧ (kd (rf a0 0) = 8 ∧ vp_in 64 (ln (rf a0 0))) ∧ (((hi (rf a0 0) (Int32.toNatClampNeg 64)) + x1) ≤ 9999 → vc u k 153 19 [.ref a0, .int x1] [] hi hl K) ∧ (¬ ((hi (rf a0 0) (Int32.toNatClampNeg 64)) + x1) ≤ 9999 → vc u k 153 15 [.ref a0, .int x1] [] hi hl K)) := rfl
set_option maxRecDepth 100000 in
theorem b_M_isTooLate_15 {u : UV} {k : Nat} {a0 : Nat} {x1 : Int32} {hi : HI} {hl : HL} {K : Option Value → HI → HL → Prop} : vc u (k + 2) 153 15 [.ref a0, .int x1] [] hi hl K = (vc u k 153 20 [.ref a0, .int x1] [.int 1] hi hl K) := rfl
set_option maxRecDepth 100000 in
theorem b_M_isTooLate_19 {u : UV} {k : Nat} {a0 : Nat} {x1 : Int32} {hi : HI} {hl : HL} {K : Option Value → HI → HL → Prop} : vc u (k + 1) 153 19 [.ref a0, .int x1] [] hi hl K = (vc u k 153 20 [.ref a0, .int x1] [.int 0] hi hl K) := rfl
set_option maxRecDepth 100000 in
theorem b_M_isTooLate_20 {u : UV} {k : Nat} {a0 : Nat} {x1 : Int32} {y0 : Int32} {hi : HI} {hl : HL} {K : Option Value → HI → HL → Prop} : vc u (k + 1) 153 20 [.ref a0, .int x1] [.int y0] hi hl K = (((y0 : Int32) = 0 ∨ (y0 : Int32) = 1) ∧ K (some (.int y0)) hi hl) := rfl
set_option maxRecDepth 100000 in
theorem b_M_minutes_0 {u : UV} {k : Nat} {a0 : Nat} {x1 : Int32} {hi : HI} {hl : HL} {K : Option Value → HI → HL → Prop} : vc u (k + 4) 154 0 [.ref a0, .int x1] [] hi hl K = (Call u 119 [.int x1, .int 1, .int 200] hi hl (fun r hi2 hl2 => vc u k 154 8 [.ref a0, .int x1] (r.toList ++ []) hi2 hl2 K)) := rfl
set_option maxRecDepth 100000 in
theorem b_M_minutes_8 {u : UV} {k : Nat} {a0 : Nat} {x1 : Int32} {y0 : Int32} {hi : HI} {hl : HL} {K : Option Value → HI → HL → Prop} : vc u (k + 1) 154 8 [.ref a0, .int x1] [.int y0] hi hl K = ((¬ y0 = 0 → vc u k 154 18 [.ref a0, .int x1] [] hi hl K) ∧ (y0 = 0 → vc u k 154 11 [.ref a0, .int x1] [] hi hl K)) := rfl
set_option maxRecDepth 100000 in
theorem b_M_minutes_11 {u : UV} {k : Nat} {a0 : Nat} {x1 : Int32} {hi : HI} {hl : HL} {K : Option Value → HI → HL → Prop} : vc u (k + 3) 154 11 [.ref a0, .int x1] [] hi hl K = ((kd a0 = 7 ∧ 7 < 8) ∧ Call u 118 [.ref a0, .int (-1000000001)] hi hl (fun r hi2 hl2 => vc u k 154 17 [.ref a0, .int x1] (r.toList ++ []) hi2 hl2 K)) := rfl
set_option maxRecDepth 100000 in
theorem b_M_minutes_17 {u : UV} {k : Nat} {a0 : Nat} {x1 : Int32} {y0 : Int32} {hi : HI} {hl : HL} {K : Option Value → HI → HL → Prop} : vc u (k + 1) 154 17 [.ref a0, .int x1] [.int y0] hi hl K = (True ∧ K (some (.int y0)) hi hl) := rfl
set_option maxRecDepth 100000 in
theorem b_M_minutes_18 {u : UV} {k : Nat} {a0 : Nat} {x1 : Int32} {hi : HI} {hl : HL} {K : Option Value → HI → HL → Prop} : vc u (k + 3) 154 18 [.ref a0, .int x1] [] hi hl K = ((kd a0 = 7 ∧ 7 < 8) ∧ Call u 153 [.ref a0, .int x1] hi hl (fun r hi2 hl2 => vc u k 154 23 [.ref a0, .int x1] (r.toList ++ []) hi2 hl2 K)) := rfl
set_option maxRecDepth 100000 in
theorem b_M_minutes_23 {u : UV} {k : Nat} {a0 : Nat} {x1 : Int32} {y0 : Int32} {hi : HI} {hl : HL} {K : Option Value → HI → HL → Prop} : vc u (k + 1) 154 23 [.ref a0, .int x1] [.int y0] hi hl K = ((y0 = 0 → vc u k 154 35 [.ref a0, .int x1] [] hi hl K) ∧ (¬ y0 = 0 → vc u k 154 26 [.ref a0, .int x1] [] hi hl K)) := rfl
set_option maxRecDepth 100000 in
theorem b_M_minutes_26 {u : UV} {k : Nat} {a0 : Nat} {x1 : Int32} {hi : HI} {hl : HL} {K : Option Value → HI → HL → Prop} : vc u (k + 3) 154 26 [.ref a0, .int x1] [] hi hl K = ((kd a0 = 7 ∧ 7 < 8) ∧ Call u 118 [.ref a0, .int (-1000000005)] hi hl (fun r hi2 hl2 => vc u k 154 32 [.ref a0, .int x1] (r.toList ++ []) hi2 hl2 K)) := rfl
set_option maxRecDepth 100000 in
theorem b_M_minutes_32 {u : UV} {k : Nat} {a0 : Nat} {x1 : Int32} {y0 : Int32} {hi : HI} {hl : HL} {K : Option Value → HI → HL → Prop} : vc u (k + 1) 154 32 [.ref a0, .int x1] [.int y0] hi hl K = (vc u k 154 40 [.ref a0, .int x1] [.int y0] hi hl K) := rfl
set_option maxRecDepth 100000 in
theorem b_M_minutes_35 {u : UV} {k : Nat} {a0 : Nat} {x1 : Int32} {hi : HI} {hl : HL} {K : Option Value → HI → HL → Prop} : vc u (k + 3) 154 35 [.ref a0, .int x1] [] hi hl K = ((kd a0 = 7 ∧ 7 < 8) ∧ Call u 152 [.ref a0, .int x1] hi hl (fun r hi2 hl2 => vc u k 154 40 [.ref a0, .int x1] (r.toList ++ []) hi2 hl2 K)) := rfl
set_option maxRecDepth 100000 in
theorem b_M_minutes_40 {u : UV} {k : Nat} {a0 : Nat} {x1 : Int32} {y0 : Int32} {hi : HI} {hl : HL} {K : Option Value → HI → HL → Prop} : vc u (k + 1) 154 40 [.ref a0, .int x1] [.int y0] hi hl K = (True ∧ K (some (.int y0)) hi hl) := rfl
set_option maxRecDepth 100000 in
theorem b_M_rain_0 {u : UV} {k : Nat} {a0 : Nat} {l1 : Value} {l2 : Value} {l3 : Value} {hi : HI} {hl : HL} {K : Option Value → HI → HL → Prop} : vc u (k + 4) 155 0 [.ref a0, l1, l2, l3] [] hi hl K = (Wp u 155 4 [.ref a0, .int 0, .int 0, l3] [] hi hl K) := rfl
set_option maxRecDepth 100000 in
theorem b_M_rain_4 {u : UV} {k : Nat} {a0 : Nat} {x1 : Int32} {x2 : Int32} {l3 : Value} {hi : HI} {hl : HL} {K : Option Value → HI → HL → Prop} : vc u (k + 3) 155 4 [.ref a0, .int x1, .int x2, l3] [] hi hl K = (((64 : Int32) ≤ x2 → vc u k 155 43 [.ref a0, .int x1, .int x2, l3] [] hi hl K) ∧ (¬ (64 : Int32) ≤ x2 → vc u k 155 10 [.ref a0, .int x1, .int x2, l3] [] hi hl K)) := rfl
set_option maxRecDepth 100000 in
theorem b_M_rain_10 {u : UV} {k : Nat} {a0 : Nat} {x1 : Int32} {x2 : Int32} {l3 : Value} {hi : HI} {hl : HL} {K : Option Value → HI → HL → Prop} : vc u (k + 25) 155 10 [.ref a0, .int x1, .int x2, l3] [] hi hl K = (kd a0 = 7 ∧ (kd (rf a0 0) = 8 ∧ vp_in (0 + x2) (ln (rf a0 0))) ∧ ¬ (5 : Int32) = 0 ∧ kd a0 = 7 ∧ (kd (rf a0 0) = 8 ∧ vp_in (0 + x2) (ln (rf a0 0))) ∧ (kd (rf a0 0) = 8 ∧ vp_in (0 + x2) (ln (rf a0 0))) ∧ Wp u 155 4 [.ref a0, .int (x1 + ((hi (rf a0 0) (Int32.toNatClampNeg (0 + x2))) / 5)), .int (x2 + 1), .int ((hi (rf a0 0) (Int32.toNatClampNeg (0 + x2))) / 5)] [] (up2 hi (rf a0 0) (Int32.toNatClampNeg (0 + x2)) ((hi (rf a0 0) (Int32.toNatClampNeg (0 + x2))) - ((hi (rf a0 0) (Int32.toNatClampNeg (0 + x2))) / 5))) hl K) := rfl
set_option maxRecDepth 100000 in
theorem b_M_rain_43 {u : UV} {k : Nat} {a0 : Nat} {x1 : Int32} {x2 : Int32} {l3 : Value} {hi : HI} {hl : HL} {K : Option Value → HI → HL → Prop} : vc u (k + 2) 155 43 [.ref a0, .int x1, .int x2, l3] [] hi hl K = (Wp u 155 45 [.ref a0, .int x1, .int 0, l3] [] hi hl K) := rfl
set_option maxRecDepth 100000 in
theorem b_M_rain_45 {u : UV} {k : Nat} {a0 : Nat} {x1 : Int32} {x2 : Int32} {l3 : Value} {hi : HI} {hl : HL} {K : Option Value → HI → HL → Prop} : vc u (k + 6) 155 45 [.ref a0, .int x1, .int x2, l3] [] hi hl K = (kd a0 = 7 ∧ (kd (rf a0 0) = 8 ∧ vp_in 68 (ln (rf a0 0))) ∧ ((hi (rf a0 0) (Int32.toNatClampNeg 68)) ≤ x2 → vc u k 155 112 [.ref a0, .int x1, .int x2, l3] [] hi hl K) ∧ (¬ (hi (rf a0 0) (Int32.toNatClampNeg 68)) ≤ x2 → vc u k 155 56 [.ref a0, .int x1, .int x2, l3] [] hi hl K)) := rfl
set_option maxRecDepth 100000 in
theorem b_M_rain_56 {u : UV} {k : Nat} {a0 : Nat} {x1 : Int32} {x2 : Int32} {l3 : Value} {hi : HI} {hl : HL} {K : Option Value → HI → HL → Prop} : vc u (k + 4) 155 56 [.ref a0, .int x1, .int x2, l3] [] hi hl K = ((kd a0 = 7 ∧ 7 < 8) ∧ Call u 133 [.ref a0, .int x2, .int 4] hi hl (fun r hi2 hl2 => vc u k 155 62 [.ref a0, .int x1, .int x2, l3] (r.toList ++ []) hi2 hl2 K)) := rfl
set_option maxRecDepth 100000 in
theorem b_M_rain_62 {u : UV} {k : Nat} {a0 : Nat} {x1 : Int32} {x2 : Int32} {l3 : Value} {y0 : Int32} {hi : HI} {hl : HL} {K : Option Value → HI → HL → Prop} : vc u (k + 8) 155 62 [.ref a0, .int x1, .int x2, l3] [.int y0] hi hl K = (¬ (10 : Int32) = 0 ∧ kd a0 = 7 ∧ Call u 132 [.int x2, .int 4] hi hl (fun r hi2 hl2 => vc u k 155 75 [.ref a0, .int x1, .int x2, .int (y0 / 10)] (r.toList ++ [.ref (rf a0 0)]) hi2 hl2 K)) := rfl
set_option maxRecDepth 100000 in
theorem b_M_rain_75 {u : UV} {k : Nat} {a0 : Nat} {x1 : Int32} {x2 : Int32} {x3 : Int32} {y0 : Int32} {c1 : Nat} {hi : HI} {hl : HL} {K : Option Value → HI → HL → Prop} : vc u (k + 10) 155 75 [.ref a0, .int x1, .int x2, .int x3] [.int y0, .ref c1] hi hl K = ((kd c1 = 8 ∧ vp_in y0 (ln c1)) ∧ (kd c1 = 8 ∧ vp_in y0 (ln c1)) ∧ kd a0 = 7 ∧ Call u 132 [.int x2, .int 5] (up2 hi c1 (Int32.toNatClampNeg y0) ((hi c1 (Int32.toNatClampNeg y0)) - x3)) hl (fun r hi2 hl2 => vc u k 155 89 [.ref a0, .int x1, .int x2, .int x3] (r.toList ++ [.ref (rf a0 0)]) hi2 hl2 K)) := rfl
set_option maxRecDepth 100000 in
theorem b_M_rain_89 {u : UV} {k : Nat} {a0 : Nat} {x1 : Int32} {x2 : Int32} {x3 : Int32} {y0 : Int32} {c1 : Nat} {hi : HI} {hl : HL} {K : Option Value → HI → HL → Prop} : vc u (k + 6) 155 89 [.ref a0, .int x1, .int x2, .int x3] [.int y0, .ref c1] hi hl K = ((kd c1 = 8 ∧ vp_in y0 (ln c1)) ∧ (kd a0 = 7 ∧ 7 < 8) ∧ Call u 133 [.ref a0, .int x2, .int 5] hi hl (fun r hi2 hl2 => vc u k 155 97 [.ref a0, .int x1, .int x2, .int x3] (r.toList ++ [.int (hi c1 (Int32.toNatClampNeg y0)), .int y0, .ref c1]) hi2 hl2 K)) := rfl
set_option maxRecDepth 100000 in
theorem b_M_rain_97 {u : UV} {k : Nat} {a0 : Nat} {x1 : Int32} {x2 : Int32} {x3 : Int32} {y0 : Int32} {y1 : Int32} {y2 : Int32} {c3 : Nat} {hi : HI} {hl : HL} {K : Option Value → HI → HL → Prop} : vc u (k + 10) 155 97 [.ref a0, .int x1, .int x2, .int x3] [.int y0, .int y1, .int y2, .ref c3] hi hl K = (¬ (10 : Int32) = 0 ∧ (kd c3 = 8 ∧ vp_in y2 (ln c3)) ∧ Wp u 155 45 [.ref a0, .int (x1 + x3), .int (x2 + 1), .int x3] [] (up2 hi c3 (Int32.toNatClampNeg y2) (y1 - (y0 / 10))) hl K) := rfl
set_option maxRecDepth 100000 in
theorem b_M_rain_112 {u : UV} {k : Nat} {a0 : Nat} {x1 : Int32} {x2 : Int32} {l3 : Value} {hi : HI} {hl : HL} {K : Option Value → HI → HL → Prop} : vc u (k + 2) 155 112 [.ref a0, .int x1, .int x2, l3] [] hi hl K = (True ∧ K (some (.int x1)) hi hl) := rfl
set_option maxRecDepth 100000 in
theorem b_M_doneOnes_0 {u : UV} {k : Nat} {a0 : Nat} {l1 : Value} {l2 : Value} {hi : HI} {hl : HL} {K : Option Value → HI → HL → Prop} : vc u (k + 4) 156 0 [.ref a0, l1, l2] [] hi hl K = (Wp u 156 4 [.ref a0, .int 0, .int 0] [] hi hl K) := rfl
set_option maxRecDepth 100000 in
theorem b_M_doneOnes_4 {u : UV} {k : Nat} {a0 : Nat} {x1 : Int32} {x2 : Int32} {hi : HI} {hl : HL} {K : Option Value → HI → HL → Prop} : vc u (k + 6) 156 4 [.ref a0, .int x1, .int x2] [] hi hl K = (kd a0 = 7 ∧ (kd (rf a0 0) = 8 ∧ vp_in 68 (ln (rf a0 0))) ∧ ((hi (rf a0 0) (Int32.toNatClampNeg 68)) ≤ x2 → vc u k 156 31 [.ref a0, .int x1, .int x2] [] hi hl K) ∧ (¬ (hi (rf a0 0) (Int32.toNatClampNeg 68)) ≤ x2 → vc u k 156 15 [.ref a0, .int x1, .int x2] [] hi hl K)) := rfl
set_option maxRecDepth 100000 in
theorem b_M_doneOnes_15 {u : UV} {k : Nat} {a0 : Nat} {x1 : Int32} {x2 : Int32} {hi : HI} {hl : HL} {K : Option Value → HI → HL → Prop} : vc u (k + 5) 156 15 [.ref a0, .int x1, .int x2] [] hi hl K = ((kd a0 = 7 ∧ 7 < 8) ∧ Call u 133 [.ref a0, .int x2, .int 7] hi hl (fun r hi2 hl2 => vc u k 156 23 [.ref a0, .int x1, .int x2] (r.toList ++ [.int x1]) hi2 hl2 K)) := rfl
set_option maxRecDepth 100000 in
theorem b_M_doneOnes_23 {u : UV} {k : Nat} {a0 : Nat} {x1 : Int32} {x2 : Int32} {y0 : Int32} {y1 : Int32} {hi : HI} {hl : HL} {K : Option Value → HI → HL → Prop} : vc u (k + 4) 156 23 [.ref a0, .int x1, .int x2] [.int y0, .int y1] hi hl K = (Wp u 156 4 [.ref a0, .int (y1 + y0), .int (x2 + 1)] [] hi hl K) := rfl
set_option maxRecDepth 100000 in
theorem b_M_doneOnes_31 {u : UV} {k : Nat} {a0 : Nat} {x1 : Int32} {x2 : Int32} {hi : HI} {hl : HL} {K : Option Value → HI → HL → Prop} : vc u (k + 2) 156 31 [.ref a0, .int x1, .int x2] [] hi hl K = (True ∧ K (some (.int x1)) hi hl) := rfl
set_option maxRecDepth 100000 in
theorem b_M_day_0 {u : UV} {k : Nat} {a0 : Nat} {l1 : Value} {l2 : Value} {hi : HI} {hl : HL} {K : Option Value → HI → HL → Prop} : vc u (k + 2) 157 0 [.ref a0, l1, l2] [] hi hl K = ((kd a0 = 7 ∧ 7 < 8) ∧ Call u 156 [.ref a0] hi hl (fun r hi2 hl2 => vc u k 157 4 [.ref a0, l1, l2] (r.toList ++ []) hi2 hl2 K)) := rfl
set_option maxRecDepth 100000 in
theorem b_M_day_4 {u : UV} {k : Nat} {a0 : Nat} {l1 : Value} {l2 : Value} {y0 : Int32} {hi : HI} {hl : HL} {K : Option Value → HI → HL → Prop} : vc u (k + 8) 157 4 [.ref a0, l1, l2] [.int y0] hi hl K = (kd a0 = 7 ∧ (kd (rf a0 0) = 8 ∧ vp_in 64 (ln (rf a0 0))) ∧ Wp u 157 15 [.ref a0, .int y0, .int 0] [] (up2 hi (rf a0 0) (Int32.toNatClampNeg 64) 0) hl K) := rfl
set_option maxRecDepth 100000 in
theorem b_M_day_15 {u : UV} {k : Nat} {a0 : Nat} {x1 : Int32} {x2 : Int32} {hi : HI} {hl : HL} {K : Option Value → HI → HL → Prop} : vc u (k + 6) 157 15 [.ref a0, .int x1, .int x2] [] hi hl K = (kd a0 = 7 ∧ (kd (rf a0 0) = 8 ∧ vp_in 68 (ln (rf a0 0))) ∧ ((hi (rf a0 0) (Int32.toNatClampNeg 68)) ≤ x2 → vc u k 157 67 [.ref a0, .int x1, .int x2] [] hi hl K) ∧ (¬ (hi (rf a0 0) (Int32.toNatClampNeg 68)) ≤ x2 → vc u k 157 26 [.ref a0, .int x1, .int x2] [] hi hl K)) := rfl
set_option maxRecDepth 100000 in
theorem b_M_day_26 {u : UV} {k : Nat} {a0 : Nat} {x1 : Int32} {x2 : Int32} {hi : HI} {hl : HL} {K : Option Value → HI → HL → Prop} : vc u (k + 5) 157 26 [.ref a0, .int x1, .int x2] [] hi hl K = (kd a0 = 7 ∧ Call u 132 [.int x2, .int 2] hi hl (fun r hi2 hl2 => vc u k 157 35 [.ref a0, .int x1, .int x2] (r.toList ++ [.ref (rf a0 0)]) hi2 hl2 K)) := rfl
set_option maxRecDepth 100000 in
theorem b_M_day_35 {u : UV} {k : Nat} {a0 : Nat} {x1 : Int32} {x2 : Int32} {y0 : Int32} {c1 : Nat} {hi : HI} {hl : HL} {K : Option Value → HI → HL → Prop} : vc u (k + 7) 157 35 [.ref a0, .int x1, .int x2] [.int y0, .ref c1] hi hl K = ((kd c1 = 8 ∧ vp_in y0 (ln c1)) ∧ kd a0 = 7 ∧ Call u 132 [.int x2, .int 6] (up2 hi c1 (Int32.toNatClampNeg y0) 0) hl (fun r hi2 hl2 => vc u k 157 47 [.ref a0, .int x1, .int x2] (r.toList ++ [.ref (rf a0 0)]) hi2 hl2 K)) := rfl
set_option maxRecDepth 100000 in
theorem b_M_day_47 {u : UV} {k : Nat} {a0 : Nat} {x1 : Int32} {x2 : Int32} {y0 : Int32} {c1 : Nat} {hi : HI} {hl : HL} {K : Option Value → HI → HL → Prop} : vc u (k + 7) 157 47 [.ref a0, .int x1, .int x2] [.int y0, .ref c1] hi hl K = ((kd c1 = 8 ∧ vp_in y0 (ln c1)) ∧ kd a0 = 7 ∧ Call u 132 [.int x2, .int 7] (up2 hi c1 (Int32.toNatClampNeg y0) 0) hl (fun r hi2 hl2 => vc u k 157 59 [.ref a0, .int x1, .int x2] (r.toList ++ [.ref (rf a0 0)]) hi2 hl2 K)) := rfl
set_option maxRecDepth 100000 in
theorem b_M_day_59 {u : UV} {k : Nat} {a0 : Nat} {x1 : Int32} {x2 : Int32} {y0 : Int32} {c1 : Nat} {hi : HI} {hl : HL} {K : Option Value → HI → HL → Prop} : vc u (k + 4) 157 59 [.ref a0, .int x1, .int x2] [.int y0, .ref c1] hi hl K = ((kd c1 = 8 ∧ vp_in y0 (ln c1)) ∧ Wp u 157 15 [.ref a0, .int x1, .int (x2 + 1)] [] (up2 hi c1 (Int32.toNatClampNeg y0) 0) hl K) := rfl
set_option maxRecDepth 100000 in
theorem b_M_day_67 {u : UV} {k : Nat} {a0 : Nat} {x1 : Int32} {x2 : Int32} {hi : HI} {hl : HL} {K : Option Value → HI → HL → Prop} : vc u (k + 2) 157 67 [.ref a0, .int x1, .int x2] [] hi hl K = (True ∧ K (some (.int x1)) hi hl) := rfl
set_option maxRecDepth 100000 in
theorem b_M_now_0 {u : UV} {k : Nat} {a0 : Nat} {x1 : Int32} {hi : HI} {hl : HL} {K : Option Value → HI → HL → Prop} : vc u (k + 4) 158 0 [.ref a0, .int x1] [] hi hl K = (Call u 119 [.int x1, .int 0, .int 4] hi hl (fun r hi2 hl2 => vc u k 158 6 [.ref a0, .int x1] (r.toList ++ []) hi2 hl2 K)) := rfl
set_option maxRecDepth 100000 in
theorem b_M_now_6 {u : UV} {k : Nat} {a0 : Nat} {x1 : Int32} {y0 : Int32} {hi : HI} {hl : HL} {K : Option Value → HI → HL → Prop} : vc u (k + 1) 158 6 [.ref a0, .int x1] [.int y0] hi hl K = ((¬ y0 = 0 → vc u k 158 16 [.ref a0, .int x1] [] hi hl K) ∧ (y0 = 0 → vc u k 158 9 [.ref a0, .int x1] [] hi hl K)) := rfl
set_option maxRecDepth 100000 in
theorem b_M_now_9 {u : UV} {k : Nat} {a0 : Nat} {x1 : Int32} {hi : HI} {hl : HL} {K : Option Value → HI → HL → Prop} : vc u (k + 3) 158 9 [.ref a0, .int x1] [] hi hl K = ((kd a0 = 7 ∧ 7 < 8) ∧ Call u 118 [.ref a0, .int (-1000000001)] hi hl (fun r hi2 hl2 => vc u k 158 15 [.ref a0, .int x1] (r.toList ++ []) hi2 hl2 K)) := rfl
set_option maxRecDepth 100000 in
theorem b_M_now_15 {u : UV} {k : Nat} {a0 : Nat} {x1 : Int32} {y0 : Int32} {hi : HI} {hl : HL} {K : Option Value → HI → HL → Prop} : vc u (k + 1) 158 15 [.ref a0, .int x1] [.int y0] hi hl K = (True ∧ K (some (.int y0)) hi hl) := rfl
set_option maxRecDepth 100000 in
theorem b_M_now_16 {u : UV} {k : Nat} {a0 : Nat} {x1 : Int32} {hi : HI} {hl : HL} {K : Option Value → HI → HL → Prop} : vc u (k + 3) 158 16 [.ref a0, .int x1] [] hi hl K = ((¬ x1 = 4 → vc u k 158 28 [.ref a0, .int x1] [] hi hl K) ∧ (x1 = 4 → vc u k 158 21 [.ref a0, .int x1] [] hi hl K)) := rfl
set_option maxRecDepth 100000 in
theorem b_M_now_21 {u : UV} {k : Nat} {a0 : Nat} {x1 : Int32} {hi : HI} {hl : HL} {K : Option Value → HI → HL → Prop} : vc u (k + 2) 158 21 [.ref a0, .int x1] [] hi hl K = ((kd a0 = 7 ∧ 7 < 8) ∧ Call u 156 [.ref a0] hi hl (fun r hi2 hl2 => vc u k 158 25 [.ref a0, .int x1] (r.toList ++ []) hi2 hl2 K)) := rfl
set_option maxRecDepth 100000 in
theorem b_M_now_25 {u : UV} {k : Nat} {a0 : Nat} {x1 : Int32} {y0 : Int32} {hi : HI} {hl : HL} {K : Option Value → HI → HL → Prop} : vc u (k + 1) 158 25 [.ref a0, .int x1] [.int y0] hi hl K = (vc u k 158 37 [.ref a0, .int x1] [.int y0] hi hl K) := rfl
set_option maxRecDepth 100000 in
theorem b_M_now_28 {u : UV} {k : Nat} {a0 : Nat} {x1 : Int32} {hi : HI} {hl : HL} {K : Option Value → HI → HL → Prop} : vc u (k + 6) 158 28 [.ref a0, .int x1] [] hi hl K = (kd a0 = 7 ∧ (kd (rf a0 0) = 8 ∧ vp_in (64 + x1) (ln (rf a0 0))) ∧ vc u k 158 37 [.ref a0, .int x1] [.int (hi (rf a0 0) (Int32.toNatClampNeg (64 + x1)))] hi hl K) := rfl
set_option maxRecDepth 100000 in
theorem b_M_now_37 {u : UV} {k : Nat} {a0 : Nat} {x1 : Int32} {y0 : Int32} {hi : HI} {hl : HL} {K : Option Value → HI → HL → Prop} : vc u (k + 1) 158 37 [.ref a0, .int x1] [.int y0] hi hl K = (True ∧ K (some (.int y0)) hi hl) := rfl
set_option maxRecDepth 100000 in
theorem b_M_refuses_0 {u : UV} {k : Nat} {a0 : Nat} {x1 : Int32} {x2 : Int32} {x3 : Int32} {hi : HI} {hl : HL} {K : Option Value → HI → HL → Prop} : vc u (k + 3) 159 0 [.ref a0, .int x1, .int x2, .int x3] [] hi hl K = ((kd a0 = 7 ∧ 7 < 8) ∧ Call u 131 [.ref a0, .int x1] hi hl (fun r hi2 hl2 => vc u k 159 5 [.ref a0, .int x1, .int x2, .int x3] (r.toList ++ []) hi2 hl2 K)) := rfl
set_option maxRecDepth 100000 in
theorem b_M_refuses_5 {u : UV} {k : Nat} {a0 : Nat} {x1 : Int32} {x2 : Int32} {x3 : Int32} {y0 : Int32} {hi : HI} {hl : HL} {K : Option Value → HI → HL → Prop} : vc u (k + 1) 159 5 [.ref a0, .int x1, .int x2, .int x3] [.int y0] hi hl K = ((y0 = 0 → vc u k 159 19 [.ref a0, .int x1, .int x2, .int x3] [] hi hl K) ∧ (¬ y0 = 0 → vc u k 159 8 [.ref a0, .int x1, .int x2, .int x3] [] hi hl K)) := rfl
set_option maxRecDepth 100000 in
theorem b_M_refuses_8 {u : UV} {k : Nat} {a0 : Nat} {x1 : Int32} {x2 : Int32} {x3 : Int32} {hi : HI} {hl : HL} {K : Option Value → HI → HL → Prop} : vc u (k + 4) 159 8 [.ref a0, .int x1, .int x2, .int x3] [] hi hl K = (Call u 119 [.int x2, .int x3, .int 200] hi hl (fun r hi2 hl2 => vc u k 159 16 [.ref a0, .int x1, .int x2, .int x3] (r.toList ++ []) hi2 hl2 K)) := rfl
set_option maxRecDepth 100000 in
theorem b_M_refuses_16 {u : UV} {k : Nat} {a0 : Nat} {x1 : Int32} {x2 : Int32} {x3 : Int32} {y0 : Int32} {hi : HI} {hl : HL} {K : Option Value → HI → HL → Prop} : vc u (k + 1) 159 16 [.ref a0, .int x1, .int x2, .int x3] [.int y0] hi hl K = ((¬ y0 = 0 → vc u k 159 24 [.ref a0, .int x1, .int x2, .int x3] [] hi hl K) ∧ (y0 = 0 → vc u k 159 19 [.ref a0, .int x1, .int x2, .int x3] [] hi hl K)) := rfl
set_option maxRecDepth 100000 in
theorem b_M_refuses_19 {u : UV} {k : Nat} {a0 : Nat} {x1 : Int32} {x2 : Int32} {x3 : Int32} {hi : HI} {hl : HL} {K : Option Value → HI → HL → Prop} : vc u (k + 2) 159 19 [.ref a0, .int x1, .int x2, .int x3] [] hi hl K = (vc u k 159 38 [.ref a0, .int x1, .int x2, .int x3] [.int (-1000000001)] hi hl K) := rfl
set_option maxRecDepth 100000 in
theorem b_M_refuses_24 {u : UV} {k : Nat} {a0 : Nat} {x1 : Int32} {x2 : Int32} {x3 : Int32} {hi : HI} {hl : HL} {K : Option Value → HI → HL → Prop} : vc u (k + 3) 159 24 [.ref a0, .int x1, .int x2, .int x3] [] hi hl K = ((kd a0 = 7 ∧ 7 < 8) ∧ Call u 153 [.ref a0, .int x2] hi hl (fun r hi2 hl2 => vc u k 159 29 [.ref a0, .int x1, .int x2, .int x3] (r.toList ++ []) hi2 hl2 K)) := rfl
set_option maxRecDepth 100000 in
theorem b_M_refuses_29 {u : UV} {k : Nat} {a0 : Nat} {x1 : Int32} {x2 : Int32} {x3 : Int32} {y0 : Int32} {hi : HI} {hl : HL} {K : Option Value → HI → HL → Prop} : vc u (k + 1) 159 29 [.ref a0, .int x1, .int x2, .int x3] [.int y0] hi hl K = ((y0 = 0 → vc u k 159 37 [.ref a0, .int x1, .int x2, .int x3] [] hi hl K) ∧ (¬ y0 = 0 → vc u k 159 32 [.ref a0, .int x1, .int x2, .int x3] [] hi hl K)) := rfl
set_option maxRecDepth 100000 in
theorem b_M_refuses_32 {u : UV} {k : Nat} {a0 : Nat} {x1 : Int32} {x2 : Int32} {x3 : Int32} {hi : HI} {hl : HL} {K : Option Value → HI → HL → Prop} : vc u (k + 2) 159 32 [.ref a0, .int x1, .int x2, .int x3] [] hi hl K = (vc u k 159 38 [.ref a0, .int x1, .int x2, .int x3] [.int (-1000000005)] hi hl K) := rfl
set_option maxRecDepth 100000 in
theorem b_M_refuses_37 {u : UV} {k : Nat} {a0 : Nat} {x1 : Int32} {x2 : Int32} {x3 : Int32} {hi : HI} {hl : HL} {K : Option Value → HI → HL → Prop} : vc u (k + 1) 159 37 [.ref a0, .int x1, .int x2, .int x3] [] hi hl K = (vc u k 159 38 [.ref a0, .int x1, .int x2, .int x3] [.int 0] hi hl K) := rfl
set_option maxRecDepth 100000 in
theorem b_M_refuses_38 {u : UV} {k : Nat} {a0 : Nat} {x1 : Int32} {x2 : Int32} {x3 : Int32} {y0 : Int32} {hi : HI} {hl : HL} {K : Option Value → HI → HL → Prop} : vc u (k + 1) 159 38 [.ref a0, .int x1, .int x2, .int x3] [.int y0] hi hl K = (True ∧ K (some (.int y0)) hi hl) := rfl
set_option maxRecDepth 100000 in
theorem b_M_on_0 {u : UV} {k : Nat} {a0 : Nat} {x1 : Int32} {x2 : Int32} {l3 : Value} {l4 : Value} {hi : HI} {hl : HL} {K : Option Value → HI → HL → Prop} : vc u (k + 5) 160 0 [.ref a0, .int x1, .int x2, l3, l4] [] hi hl K = ((kd a0 = 7 ∧ 7 < 8) ∧ Call u 159 [.ref a0, .int x1, .int x2, .int 0] hi hl (fun r hi2 hl2 => vc u k 160 7 [.ref a0, .int x1, .int x2, l3, l4] (r.toList ++ []) hi2 hl2 K)) := rfl
set_option maxRecDepth 100000 in
theorem b_M_on_7 {u : UV} {k : Nat} {a0 : Nat} {x1 : Int32} {x2 : Int32} {l3 : Value} {l4 : Value} {y0 : Int32} {hi : HI} {hl : HL} {K : Option Value → HI → HL → Prop} : vc u (k + 3) 160 7 [.ref a0, .int x1, .int x2, l3, l4] [.int y0] hi hl K = ((y0 = 0 → vc u k 160 18 [.ref a0, .int x1, .int x2, .int y0, l4] [] hi hl K) ∧ (¬ y0 = 0 → vc u k 160 12 [.ref a0, .int x1, .int x2, .int y0, l4] [] hi hl K)) := rfl
set_option maxRecDepth 100000 in
theorem b_M_on_12 {u : UV} {k : Nat} {a0 : Nat} {x1 : Int32} {x2 : Int32} {x3 : Int32} {l4 : Value} {hi : HI} {hl : HL} {K : Option Value → HI → HL → Prop} : vc u (k + 3) 160 12 [.ref a0, .int x1, .int x2, .int x3, l4] [] hi hl K = ((kd a0 = 7 ∧ 7 < 8) ∧ Call u 118 [.ref a0, .int x3] hi hl (fun r hi2 hl2 => vc u k 160 17 [.ref a0, .int x1, .int x2, .int x3, l4] (r.toList ++ []) hi2 hl2 K)) := rfl
set_option maxRecDepth 100000 in
theorem b_M_on_17 {u : UV} {k : Nat} {a0 : Nat} {x1 : Int32} {x2 : Int32} {x3 : Int32} {l4 : Value} {y0 : Int32} {hi : HI} {hl : HL} {K : Option Value → HI → HL → Prop} : vc u (k + 1) 160 17 [.ref a0, .int x1, .int x2, .int x3, l4] [.int y0] hi hl K = (True ∧ K (some (.int y0)) hi hl) := rfl
set_option maxRecDepth 100000 in
theorem b_M_on_18 {u : UV} {k : Nat} {a0 : Nat} {x1 : Int32} {x2 : Int32} {x3 : Int32} {l4 : Value} {hi : HI} {hl : HL} {K : Option Value → HI → HL → Prop} : vc u (k + 5) 160 18 [.ref a0, .int x1, .int x2, .int x3, l4] [] hi hl K = (kd a0 = 7 ∧ kd a0 = 7 ∧ Call u 121 [.ref (rf a0 0), .ref (rf a0 2)] hi hl (fun r hi2 hl2 => vc u k 160 29 [.ref a0, .int x1, .int x2, .int x3, l4] (r.toList ++ []) hi2 hl2 K)) := rfl
set_option maxRecDepth 100000 in
theorem b_M_on_29 {u : UV} {k : Nat} {a0 : Nat} {x1 : Int32} {x2 : Int32} {x3 : Int32} {l4 : Value} {hi : HI} {hl : HL} {K : Option Value → HI → HL → Prop} : vc u (k + 3) 160 29 [.ref a0, .int x1, .int x2, .int x3, l4] [] hi hl K = ((kd a0 = 7 ∧ 7 < 8) ∧ Call u 152 [.ref a0, .int x2] hi hl (fun r hi2 hl2 => vc u k 160 34 [.ref a0, .int x1, .int x2, .int x3, l4] (r.toList ++ []) hi2 hl2 K)) := rfl
set_option maxRecDepth 100000 in
theorem b_M_on_34 {u : UV} {k : Nat} {a0 : Nat} {x1 : Int32} {x2 : Int32} {x3 : Int32} {l4 : Value} {y0 : Int32} {hi : HI} {hl : HL} {K : Option Value → HI → HL → Prop} : vc u (k + 4) 160 34 [.ref a0, .int x1, .int x2, .int x3, l4] [.int y0] hi hl K = (((0 : Int32) ≤ y0 → vc u k 160 46 [.ref a0, .int x1, .int x2, .int x3, .int y0] [.ref a0] hi hl K) ∧ (¬ (0 : Int32) ≤ y0 → vc u k 160 42 [.ref a0, .int x1, .int x2, .int x3, .int y0] [.ref a0] hi hl K)) := rfl
set_option maxRecDepth 100000 in
theorem b_M_on_42 {u : UV} {k : Nat} {a0 : Nat} {x1 : Int32} {x2 : Int32} {x3 : Int32} {x4 : Int32} {c0 : Nat} {hi : HI} {hl : HL} {K : Option Value → HI → HL → Prop} : vc u (k + 2) 160 42 [.ref a0, .int x1, .int x2, .int x3, .int x4] [.ref c0] hi hl K = (vc u k 160 52 [.ref a0, .int x1, .int x2, .int x3, .int x4] [.int 0, .ref c0] hi hl K) := rfl
set_option maxRecDepth 100000 in
theorem b_M_on_46 {u : UV} {k : Nat} {a0 : Nat} {x1 : Int32} {x2 : Int32} {x3 : Int32} {x4 : Int32} {c0 : Nat} {hi : HI} {hl : HL} {K : Option Value → HI → HL → Prop} : vc u (k + 4) 160 46 [.ref a0, .int x1, .int x2, .int x3, .int x4] [.ref c0] hi hl K = ((kd a0 = 7 ∧ 7 < 8) ∧ Call u 133 [.ref a0, .int x1, .int 4] hi hl (fun r hi2 hl2 => vc u k 160 52 [.ref a0, .int x1, .int x2, .int x3, .int x4] (r.toList ++ [.ref c0]) hi2 hl2 K)) := rfl
set_option maxRecDepth 100000 in
theorem b_M_on_52 {u : UV} {k : Nat} {a0 : Nat} {x1 : Int32} {x2 : Int32} {x3 : Int32} {x4 : Int32} {y0 : Int32} {c1 : Nat} {hi : HI} {hl : HL} {K : Option Value → HI → HL → Prop} : vc u (k + 1) 160 52 [.ref a0, .int x1, .int x2, .int x3, .int x4] [.int y0, .ref c1] hi hl K = ((kd c1 = 7 ∧ 7 < 8) ∧ Call u 122 [.ref c1, .int y0] hi hl (fun r hi2 hl2 => vc u k 160 55 [.ref a0, .int x1, .int x2, .int x3, .int x4] (r.toList ++ []) hi2 hl2 K)) := rfl
set_option maxRecDepth 100000 in
theorem b_M_on_55 {u : UV} {k : Nat} {a0 : Nat} {x1 : Int32} {x2 : Int32} {x3 : Int32} {x4 : Int32} {y0 : Int32} {hi : HI} {hl : HL} {K : Option Value → HI → HL → Prop} : vc u (k + 1) 160 55 [.ref a0, .int x1, .int x2, .int x3, .int x4] [.int y0] hi hl K = (True ∧ K (some (.int y0)) hi hl) := rfl
set_option maxRecDepth 100000 in
theorem b_M_where_0 {u : UV} {k : Nat} {a0 : Nat} {x1 : Int32} {x2 : Int32} {l3 : Value} {l4 : Value} {hi : HI} {hl : HL} {K : Option Value → HI → HL → Prop} : vc u (k + 5) 161 0 [.ref a0, .int x1, .int x2, l3, l4] [] hi hl K = ((kd a0 = 7 ∧ 7 < 8) ∧ Call u 159 [.ref a0, .int x1, .int x2, .int 0] hi hl (fun r hi2 hl2 => vc u k 161 7 [.ref a0, .int x1, .int x2, l3, l4] (r.toList ++ []) hi2 hl2 K)) := rfl
set_option maxRecDepth 100000 in
theorem b_M_where_7 {u : UV} {k : Nat} {a0 : Nat} {x1 : Int32} {x2 : Int32} {l3 : Value} {l4 : Value} {y0 : Int32} {hi : HI} {hl : HL} {K : Option Value → HI → HL → Prop} : vc u (k + 3) 161 7 [.ref a0, .int x1, .int x2, l3, l4] [.int y0] hi hl K = ((y0 = 0 → vc u k 161 18 [.ref a0, .int x1, .int x2, .int y0, l4] [] hi hl K) ∧ (¬ y0 = 0 → vc u k 161 12 [.ref a0, .int x1, .int x2, .int y0, l4] [] hi hl K)) := rfl
set_option maxRecDepth 100000 in
theorem b_M_where_12 {u : UV} {k : Nat} {a0 : Nat} {x1 : Int32} {x2 : Int32} {x3 : Int32} {l4 : Value} {hi : HI} {hl : HL} {K : Option Value → HI → HL → Prop} : vc u (k + 3) 161 12 [.ref a0, .int x1, .int x2, .int x3, l4] [] hi hl K = ((kd a0 = 7 ∧ 7 < 8) ∧ Call u 118 [.ref a0, .int x3] hi hl (fun r hi2 hl2 => vc u k 161 17 [.ref a0, .int x1, .int x2, .int x3, l4] (r.toList ++ []) hi2 hl2 K)) := rfl
set_option maxRecDepth 100000 in
theorem b_M_where_17 {u : UV} {k : Nat} {a0 : Nat} {x1 : Int32} {x2 : Int32} {x3 : Int32} {l4 : Value} {y0 : Int32} {hi : HI} {hl : HL} {K : Option Value → HI → HL → Prop} : vc u (k + 1) 161 17 [.ref a0, .int x1, .int x2, .int x3, l4] [.int y0] hi hl K = (True ∧ K (some (.int y0)) hi hl) := rfl
set_option maxRecDepth 100000 in
theorem b_M_where_18 {u : UV} {k : Nat} {a0 : Nat} {x1 : Int32} {x2 : Int32} {x3 : Int32} {l4 : Value} {hi : HI} {hl : HL} {K : Option Value → HI → HL → Prop} : vc u (k + 5) 161 18 [.ref a0, .int x1, .int x2, .int x3, l4] [] hi hl K = (kd a0 = 7 ∧ kd a0 = 7 ∧ Call u 121 [.ref (rf a0 0), .ref (rf a0 2)] hi hl (fun r hi2 hl2 => vc u k 161 29 [.ref a0, .int x1, .int x2, .int x3, l4] (r.toList ++ []) hi2 hl2 K)) := rfl
set_option maxRecDepth 100000 in
theorem b_M_where_29 {u : UV} {k : Nat} {a0 : Nat} {x1 : Int32} {x2 : Int32} {x3 : Int32} {l4 : Value} {hi : HI} {hl : HL} {K : Option Value → HI → HL → Prop} : vc u (k + 3) 161 29 [.ref a0, .int x1, .int x2, .int x3, l4] [] hi hl K = ((kd a0 = 7 ∧ 7 < 8) ∧ Call u 152 [.ref a0, .int x2] hi hl (fun r hi2 hl2 => vc u k 161 34 [.ref a0, .int x1, .int x2, .int x3, l4] (r.toList ++ []) hi2 hl2 K)) := rfl
set_option maxRecDepth 100000 in
theorem b_M_where_34 {u : UV} {k : Nat} {a0 : Nat} {x1 : Int32} {x2 : Int32} {x3 : Int32} {l4 : Value} {y0 : Int32} {hi : HI} {hl : HL} {K : Option Value → HI → HL → Prop} : vc u (k + 4) 161 34 [.ref a0, .int x1, .int x2, .int x3, l4] [.int y0] hi hl K = (((0 : Int32) ≤ y0 → vc u k 161 46 [.ref a0, .int x1, .int x2, .int x3, .int y0] [.ref a0] hi hl K) ∧ (¬ (0 : Int32) ≤ y0 → vc u k 161 42 [.ref a0, .int x1, .int x2, .int x3, .int y0] [.ref a0] hi hl K)) := rfl
set_option maxRecDepth 100000 in
theorem b_M_where_42 {u : UV} {k : Nat} {a0 : Nat} {x1 : Int32} {x2 : Int32} {x3 : Int32} {x4 : Int32} {c0 : Nat} {hi : HI} {hl : HL} {K : Option Value → HI → HL → Prop} : vc u (k + 2) 161 42 [.ref a0, .int x1, .int x2, .int x3, .int x4] [.ref c0] hi hl K = (vc u k 161 62 [.ref a0, .int x1, .int x2, .int x3, .int x4] [.int 0, .ref c0] hi hl K) := rfl
set_option maxRecDepth 100000 in
theorem b_M_where_46 {u : UV} {k : Nat} {a0 : Nat} {x1 : Int32} {x2 : Int32} {x3 : Int32} {x4 : Int32} {c0 : Nat} {hi : HI} {hl : HL} {K : Option Value → HI → HL → Prop} : vc u (k + 5) 161 46 [.ref a0, .int x1, .int x2, .int x3, .int x4] [.ref c0] hi hl K = ((kd a0 = 7 ∧ 7 < 8) ∧ Call u 133 [.ref a0, .int x1, .int 1] hi hl (fun r hi2 hl2 => vc u k 161 54 [.ref a0, .int x1, .int x2, .int x3, .int x4] (r.toList ++ [.int 10, .ref c0]) hi2 hl2 K)) := rfl
set_option maxRecDepth 100000 in
theorem b_M_where_54 {u : UV} {k : Nat} {a0 : Nat} {x1 : Int32} {x2 : Int32} {x3 : Int32} {x4 : Int32} {y0 : Int32} {y1 : Int32} {c2 : Nat} {hi : HI} {hl : HL} {K : Option Value → HI → HL → Prop} : vc u (k + 5) 161 54 [.ref a0, .int x1, .int x2, .int x3, .int x4] [.int y0, .int y1, .ref c2] hi hl K = ((kd a0 = 7 ∧ 7 < 8) ∧ Call u 133 [.ref a0, .int x1, .int 2] hi hl (fun r hi2 hl2 => vc u k 161 61 [.ref a0, .int x1, .int x2, .int x3, .int x4] (r.toList ++ [.int (y1 * y0), .ref c2]) hi2 hl2 K)) := rfl
set_option maxRecDepth 100000 in
theorem b_M_where_61 {u : UV} {k : Nat} {a0 : Nat} {x1 : Int32} {x2 : Int32} {x3 : Int32} {x4 : Int32} {y0 : Int32} {y1 : Int32} {c2 : Nat} {hi : HI} {hl : HL} {K : Option Value → HI → HL → Prop} : vc u (k + 1) 161 61 [.ref a0, .int x1, .int x2, .int x3, .int x4] [.int y0, .int y1, .ref c2] hi hl K = (vc u k 161 62 [.ref a0, .int x1, .int x2, .int x3, .int x4] [.int (y1 + y0), .ref c2] hi hl K) := rfl
set_option maxRecDepth 100000 in
theorem b_M_where_62 {u : UV} {k : Nat} {a0 : Nat} {x1 : Int32} {x2 : Int32} {x3 : Int32} {x4 : Int32} {y0 : Int32} {c1 : Nat} {hi : HI} {hl : HL} {K : Option Value → HI → HL → Prop} : vc u (k + 1) 161 62 [.ref a0, .int x1, .int x2, .int x3, .int x4] [.int y0, .ref c1] hi hl K = ((kd c1 = 7 ∧ 7 < 8) ∧ Call u 122 [.ref c1, .int y0] hi hl (fun r hi2 hl2 => vc u k 161 65 [.ref a0, .int x1, .int x2, .int x3, .int x4] (r.toList ++ []) hi2 hl2 K)) := rfl
set_option maxRecDepth 100000 in
theorem b_M_where_65 {u : UV} {k : Nat} {a0 : Nat} {x1 : Int32} {x2 : Int32} {x3 : Int32} {x4 : Int32} {y0 : Int32} {hi : HI} {hl : HL} {K : Option Value → HI → HL → Prop} : vc u (k + 1) 161 65 [.ref a0, .int x1, .int x2, .int x3, .int x4] [.int y0] hi hl K = (True ∧ K (some (.int y0)) hi hl) := rfl
set_option maxRecDepth 100000 in
theorem b_M_done_0 {u : UV} {k : Nat} {a0 : Nat} {x1 : Int32} {l2 : Value} {l3 : Value} {hi : HI} {hl : HL} {K : Option Value → HI → HL → Prop} : vc u (k + 5) 162 0 [.ref a0, .int x1, l2, l3] [] hi hl K = ((kd a0 = 7 ∧ 7 < 8) ∧ Call u 159 [.ref a0, .int x1, .int 200, .int 0] hi hl (fun r hi2 hl2 => vc u k 162 9 [.ref a0, .int x1, l2, l3] (r.toList ++ []) hi2 hl2 K)) := rfl
set_option maxRecDepth 100000 in
theorem b_M_done_9 {u : UV} {k : Nat} {a0 : Nat} {x1 : Int32} {l2 : Value} {l3 : Value} {y0 : Int32} {hi : HI} {hl : HL} {K : Option Value → HI → HL → Prop} : vc u (k + 3) 162 9 [.ref a0, .int x1, l2, l3] [.int y0] hi hl K = ((y0 = 0 → vc u k 162 20 [.ref a0, .int x1, .int y0, l3] [] hi hl K) ∧ (¬ y0 = 0 → vc u k 162 14 [.ref a0, .int x1, .int y0, l3] [] hi hl K)) := rfl
set_option maxRecDepth 100000 in
theorem b_M_done_14 {u : UV} {k : Nat} {a0 : Nat} {x1 : Int32} {x2 : Int32} {l3 : Value} {hi : HI} {hl : HL} {K : Option Value → HI → HL → Prop} : vc u (k + 3) 162 14 [.ref a0, .int x1, .int x2, l3] [] hi hl K = ((kd a0 = 7 ∧ 7 < 8) ∧ Call u 118 [.ref a0, .int x2] hi hl (fun r hi2 hl2 => vc u k 162 19 [.ref a0, .int x1, .int x2, l3] (r.toList ++ []) hi2 hl2 K)) := rfl
set_option maxRecDepth 100000 in
theorem b_M_done_19 {u : UV} {k : Nat} {a0 : Nat} {x1 : Int32} {x2 : Int32} {l3 : Value} {y0 : Int32} {hi : HI} {hl : HL} {K : Option Value → HI → HL → Prop} : vc u (k + 1) 162 19 [.ref a0, .int x1, .int x2, l3] [.int y0] hi hl K = (True ∧ K (some (.int y0)) hi hl) := rfl
set_option maxRecDepth 100000 in
theorem b_M_done_20 {u : UV} {k : Nat} {a0 : Nat} {x1 : Int32} {x2 : Int32} {l3 : Value} {hi : HI} {hl : HL} {K : Option Value → HI → HL → Prop} : vc u (k + 5) 162 20 [.ref a0, .int x1, .int x2, l3] [] hi hl K = (kd a0 = 7 ∧ kd a0 = 7 ∧ Call u 121 [.ref (rf a0 0), .ref (rf a0 2)] hi hl (fun r hi2 hl2 => vc u k 162 31 [.ref a0, .int x1, .int x2, l3] (r.toList ++ []) hi2 hl2 K)) := rfl
set_option maxRecDepth 100000 in
theorem b_M_done_31 {u : UV} {k : Nat} {a0 : Nat} {x1 : Int32} {x2 : Int32} {l3 : Value} {hi : HI} {hl : HL} {K : Option Value → HI → HL → Prop} : vc u (k + 2) 162 31 [.ref a0, .int x1, .int x2, l3] [] hi hl K = (Wp u 162 33 [.ref a0, .int x1, .int x2, .int 0] [] hi hl K) := rfl
set_option maxRecDepth 100000 in
theorem b_M_done_33 {u : UV} {k : Nat} {a0 : Nat} {x1 : Int32} {x2 : Int32} {x3 : Int32} {hi : HI} {hl : HL} {K : Option Value → HI → HL → Prop} : vc u (k + 3) 162 33 [.ref a0, .int x1, .int x2, .int x3] [] hi hl K = (((200 : Int32) < x3 → vc u k 162 71 [.ref a0, .int x1, .int x2, .int x3] [] hi hl K) ∧ (¬ (200 : Int32) < x3 → vc u k 162 40 [.ref a0, .int x1, .int x2, .int x3] [] hi hl K)) := rfl
set_option maxRecDepth 100000 in
theorem b_M_done_40 {u : UV} {k : Nat} {a0 : Nat} {x1 : Int32} {x2 : Int32} {x3 : Int32} {hi : HI} {hl : HL} {K : Option Value → HI → HL → Prop} : vc u (k + 4) 162 40 [.ref a0, .int x1, .int x2, .int x3] [] hi hl K = ((kd a0 = 7 ∧ 7 < 8) ∧ Call u 133 [.ref a0, .int x1, .int 7] hi hl (fun r hi2 hl2 => vc u k 162 47 [.ref a0, .int x1, .int x2, .int x3] (r.toList ++ []) hi2 hl2 K)) := rfl
set_option maxRecDepth 100000 in
theorem b_M_done_47 {u : UV} {k : Nat} {a0 : Nat} {x1 : Int32} {x2 : Int32} {x3 : Int32} {y0 : Int32} {hi : HI} {hl : HL} {K : Option Value → HI → HL → Prop} : vc u (k + 1) 162 47 [.ref a0, .int x1, .int x2, .int x3] [.int y0] hi hl K = ((¬ y0 = 0 → vc u k 162 71 [.ref a0, .int x1, .int x2, .int x3] [] hi hl K) ∧ (y0 = 0 → vc u k 162 50 [.ref a0, .int x1, .int x2, .int x3] [] hi hl K)) := rfl
set_option maxRecDepth 100000 in
theorem b_M_done_50 {u : UV} {k : Nat} {a0 : Nat} {x1 : Int32} {x2 : Int32} {x3 : Int32} {hi : HI} {hl : HL} {K : Option Value → HI → HL → Prop} : vc u (k + 4) 162 50 [.ref a0, .int x1, .int x2, .int x3] [] hi hl K = ((kd a0 = 7 ∧ 7 < 8) ∧ Call u 151 [.ref a0, .int 511] hi hl (fun r hi2 hl2 => vc u k 162 58 [.ref a0, .int x1, .int x2, .int x3] (r.toList ++ [.int x3]) hi2 hl2 K)) := rfl
set_option maxRecDepth 100000 in
theorem b_M_done_58 {u : UV} {k : Nat} {a0 : Nat} {x1 : Int32} {x2 : Int32} {x3 : Int32} {y0 : Int32} {y1 : Int32} {hi : HI} {hl : HL} {K : Option Value → HI → HL → Prop} : vc u (k + 1) 162 58 [.ref a0, .int x1, .int x2, .int x3] [.int y0, .int y1] hi hl K = (((0 : Int32) ≤ y0 → vc u k 162 65 [.ref a0, .int x1, .int x2, .int x3] [.int y1] hi hl K) ∧ (¬ (0 : Int32) ≤ y0 → vc u k 162 61 [.ref a0, .int x1, .int x2, .int x3] [.int y1] hi hl K)) := rfl
set_option maxRecDepth 100000 in
theorem b_M_done_61 {u : UV} {k : Nat} {a0 : Nat} {x1 : Int32} {x2 : Int32} {x3 : Int32} {y0 : Int32} {hi : HI} {hl : HL} {K : Option Value → HI → HL → Prop} : vc u (k + 2) 162 61 [.ref a0, .int x1, .int x2, .int x3] [.int y0] hi hl K = (vc u k 162 66 [.ref a0, .int x1, .int x2, .int x3] [.int 0, .int y0] hi hl K) := rfl
set_option maxRecDepth 100000 in
theorem b_M_done_65 {u : UV} {k : Nat} {a0 : Nat} {x1 : Int32} {x2 : Int32} {x3 : Int32} {y0 : Int32} {hi : HI} {hl : HL} {K : Option Value → HI → HL → Prop} : vc u (k + 1) 162 65 [.ref a0, .int x1, .int x2, .int x3] [.int y0] hi hl K = (vc u k 162 66 [.ref a0, .int x1, .int x2, .int x3] [.int 1, .int y0] hi hl K) := rfl
set_option maxRecDepth 100000 in
theorem b_M_done_66 {u : UV} {k : Nat} {a0 : Nat} {x1 : Int32} {x2 : Int32} {x3 : Int32} {y0 : Int32} {y1 : Int32} {hi : HI} {hl : HL} {K : Option Value → HI → HL → Prop} : vc u (k + 3) 162 66 [.ref a0, .int x1, .int x2, .int x3] [.int y0, .int y1] hi hl K = (Wp u 162 33 [.ref a0, .int x1, .int x2, .int (y1 + y0)] [] hi hl K) := rfl
set_option maxRecDepth 100000 in
theorem b_M_done_71 {u : UV} {k : Nat} {a0 : Nat} {x1 : Int32} {x2 : Int32} {x3 : Int32} {hi : HI} {hl : HL} {K : Option Value → HI → HL → Prop} : vc u (k + 3) 162 71 [.ref a0, .int x1, .int x2, .int x3] [] hi hl K = ((kd a0 = 7 ∧ 7 < 8) ∧ Call u 122 [.ref a0, .int x3] hi hl (fun r hi2 hl2 => vc u k 162 76 [.ref a0, .int x1, .int x2, .int x3] (r.toList ++ []) hi2 hl2 K)) := rfl
set_option maxRecDepth 100000 in
theorem b_M_done_76 {u : UV} {k : Nat} {a0 : Nat} {x1 : Int32} {x2 : Int32} {x3 : Int32} {y0 : Int32} {hi : HI} {hl : HL} {K : Option Value → HI → HL → Prop} : vc u (k + 2) 162 76 [.ref a0, .int x1, .int x2, .int x3] [.int y0] hi hl K = ((y0 ≤ 200 → vc u k 162 91 [.ref a0, .int x1, .int x2, .int x3] [] hi hl K) ∧ (¬ y0 ≤ 200 → vc u k 162 82 [.ref a0, .int x1, .int x2, .int x3] [] hi hl K)) := rfl
set_option maxRecDepth 100000 in
theorem b_M_done_82 {u : UV} {k : Nat} {a0 : Nat} {x1 : Int32} {x2 : Int32} {x3 : Int32} {hi : HI} {hl : HL} {K : Option Value → HI → HL → Prop} : vc u (k + 3) 162 82 [.ref a0, .int x1, .int x2, .int x3] [] hi hl K = ((kd a0 = 7 ∧ 7 < 8) ∧ Call u 118 [.ref a0, .int (-1000000004)] hi hl (fun r hi2 hl2 => vc u k 162 88 [.ref a0, .int x1, .int x2, .int x3] (r.toList ++ []) hi2 hl2 K)) := rfl
set_option maxRecDepth 100000 in
theorem b_M_done_88 {u : UV} {k : Nat} {a0 : Nat} {x1 : Int32} {x2 : Int32} {x3 : Int32} {y0 : Int32} {hi : HI} {hl : HL} {K : Option Value → HI → HL → Prop} : vc u (k + 1) 162 88 [.ref a0, .int x1, .int x2, .int x3] [.int y0] hi hl K = (vc u k 162 92 [.ref a0, .int x1, .int x2, .int x3] [.int y0] hi hl K) := rfl
set_option maxRecDepth 100000 in
theorem b_M_done_91 {u : UV} {k : Nat} {a0 : Nat} {x1 : Int32} {x2 : Int32} {x3 : Int32} {hi : HI} {hl : HL} {K : Option Value → HI → HL → Prop} : vc u (k + 1) 162 91 [.ref a0, .int x1, .int x2, .int x3] [] hi hl K = (vc u k 162 92 [.ref a0, .int x1, .int x2, .int x3] [.int x3] hi hl K) := rfl
set_option maxRecDepth 100000 in
theorem b_M_done_92 {u : UV} {k : Nat} {a0 : Nat} {x1 : Int32} {x2 : Int32} {x3 : Int32} {y0 : Int32} {hi : HI} {hl : HL} {K : Option Value → HI → HL → Prop} : vc u (k + 1) 162 92 [.ref a0, .int x1, .int x2, .int x3] [.int y0] hi hl K = (True ∧ K (some (.int y0)) hi hl) := rfl
set_option maxRecDepth 100000 in
theorem b_M_isSomebodyAtWork_0 {u : UV} {k : Nat} {a0 : Nat} {x1 : Int32} {l2 : Value} {l3 : Value} {hi : HI} {hl : HL} {K : Option Value → HI → HL → Prop} : vc u (k + 4) 163 0 [.ref a0, .int x1, l2, l3] [] hi hl K = (Wp u 163 4 [.ref a0, .int x1, .int 0, .int 0] [] hi hl K) := rfl
set_option maxRecDepth 100000 in
theorem b_M_isSomebodyAtWork_4 {u : UV} {k : Nat} {a0 : Nat} {x1 : Int32} {x2 : Int32} {x3 : Int32} {hi : HI} {hl : HL} {K : Option Value → HI → HL → Prop} : vc u (k + 6) 163 4 [.ref a0, .int x1, .int x2, .int x3] [] hi hl K = (kd a0 = 7 ∧ (kd (rf a0 0) = 8 ∧ vp_in 68 (ln (rf a0 0))) ∧ ((hi (rf a0 0) (Int32.toNatClampNeg 68)) ≤ x3 → vc u k 163 40 [.ref a0, .int x1, .int x2, .int x3] [] hi hl K) ∧ (¬ (hi (rf a0 0) (Int32.toNatClampNeg 68)) ≤ x3 → vc u k 163 15 [.ref a0, .int x1, .int x2, .int x3] [] hi hl K)) := rfl
set_option maxRecDepth 100000 in
theorem b_M_isSomebodyAtWork_15 {u : UV} {k : Nat} {a0 : Nat} {x1 : Int32} {x2 : Int32} {x3 : Int32} {hi : HI} {hl : HL} {K : Option Value → HI → HL → Prop} : vc u (k + 2) 163 15 [.ref a0, .int x1, .int x2, .int x3] [] hi hl K = ((¬ x2 = 0 → vc u k 163 28 [.ref a0, .int x1, .int x2, .int x3] [] hi hl K) ∧ (x2 = 0 → vc u k 163 19 [.ref a0, .int x1, .int x2, .int x3] [] hi hl K)) := rfl
set_option maxRecDepth 100000 in
theorem b_M_isSomebodyAtWork_19 {u : UV} {k : Nat} {a0 : Nat} {x1 : Int32} {x2 : Int32} {x3 : Int32} {hi : HI} {hl : HL} {K : Option Value → HI → HL → Prop} : vc u (k + 4) 163 19 [.ref a0, .int x1, .int x2, .int x3] [] hi hl K = ((kd a0 = 7 ∧ 7 < 8) ∧ Call u 150 [.ref a0, .int x3, .int x1] hi hl (fun r hi2 hl2 => vc u k 163 25 [.ref a0, .int x1, .int x2, .int x3] (r.toList ++ []) hi2 hl2 K)) := rfl
set_option maxRecDepth 100000 in
theorem b_M_isSomebodyAtWork_25 {u : UV} {k : Nat} {a0 : Nat} {x1 : Int32} {x2 : Int32} {x3 : Int32} {y0 : Int32} {hi : HI} {hl : HL} {K : Option Value → HI → HL → Prop} : vc u (k + 1) 163 25 [.ref a0, .int x1, .int x2, .int x3] [.int y0] hi hl K = ((y0 = 0 → vc u k 163 32 [.ref a0, .int x1, .int x2, .int x3] [] hi hl K) ∧ (¬ y0 = 0 → vc u k 163 28 [.ref a0, .int x1, .int x2, .int x3] [] hi hl K)) := rfl
set_option maxRecDepth 100000 in
theorem b_M_isSomebodyAtWork_28 {u : UV} {k : Nat} {a0 : Nat} {x1 : Int32} {x2 : Int32} {x3 : Int32} {hi : HI} {hl : HL} {K : Option Value → HI → HL → Prop} : vc u (k + 2) 163 28 [.ref a0, .int x1, .int x2, .int x3] [] hi hl K = (vc u k 163 33 [.ref a0, .int x1, .int x2, .int x3] [.int 1] hi hl K) := rfl
set_option maxRecDepth 100000 in
theorem b_M_isSomebodyAtWork_32 {u : UV} {k : Nat} {a0 : Nat} {x1 : Int32} {x2 : Int32} {x3 : Int32} {hi : HI} {hl : HL} {K : Option Value → HI → HL → Prop} : vc u (k + 1) 163 32 [.ref a0, .int x1, .int x2, .int x3] [] hi hl K = (vc u k 163 33 [.ref a0, .int x1, .int x2, .int x3] [.int 0] hi hl K) := rfl
set_option maxRecDepth 100000 in
theorem b_M_isSomebodyAtWork_33 {u : UV} {k : Nat} {a0 : Nat} {x1 : Int32} {x2 : Int32} {x3 : Int32} {y0 : Int32} {hi : HI} {hl : HL} {K : Option Value → HI → HL → Prop} : vc u (k + 3) 163 33 [.ref a0, .int x1, .int x2, .int x3] [.int y0] hi hl K = (Wp u 163 4 [.ref a0, .int x1, .int y0, .int (x3 + 1)] [] hi hl K) := rfl
set_option maxRecDepth 100000 in
theorem b_M_isSomebodyAtWork_40 {u : UV} {k : Nat} {a0 : Nat} {x1 : Int32} {x2 : Int32} {x3 : Int32} {hi : HI} {hl : HL} {K : Option Value → HI → HL → Prop} : vc u (k + 2) 163 40 [.ref a0, .int x1, .int x2, .int x3] [] hi hl K = (((x2 : Int32) = 0 ∨ (x2 : Int32) = 1) ∧ K (some (.int x2)) hi hl) := rfl
set_option maxRecDepth 100000 in
theorem b_M_goesToTheEnd_0 {u : UV} {k : Nat} {a0 : Nat} {x1 : Int32} {l2 : Value} {l3 : Value} {hi : HI} {hl : HL} {K : Option Value → HI → HL → Prop} : vc u (k + 4) 164 0 [.ref a0, .int x1, l2, l3] [] hi hl K = (Wp u 164 4 [.ref a0, .int x1, .int 0, .int 0] [] hi hl K) := rfl
set_option maxRecDepth 100000 in
theorem b_M_goesToTheEnd_4 {u : UV} {k : Nat} {a0 : Nat} {x1 : Int32} {x2 : Int32} {x3 : Int32} {hi : HI} {hl : HL} {K : Option Value → HI → HL → Prop} : vc u (k + 3) 164 4 [.ref a0, .int x1, .int x2, .int x3] [] hi hl K = (((200 : Int32) ≤ x3 → vc u k 164 37 [.ref a0, .int x1, .int x2, .int x3] [] hi hl K) ∧ (¬ (200 : Int32) ≤ x3 → vc u k 164 11 [.ref a0, .int x1, .int x2, .int x3] [] hi hl K)) := rfl
set_option maxRecDepth 100000 in
theorem b_M_goesToTheEnd_11 {u : UV} {k : Nat} {a0 : Nat} {x1 : Int32} {x2 : Int32} {x3 : Int32} {hi : HI} {hl : HL} {K : Option Value → HI → HL → Prop} : vc u (k + 2) 164 11 [.ref a0, .int x1, .int x2, .int x3] [] hi hl K = ((x2 < 0 → vc u k 164 37 [.ref a0, .int x1, .int x2, .int x3] [] hi hl K) ∧ (¬ x2 < 0 → vc u k 164 15 [.ref a0, .int x1, .int x2, .int x3] [] hi hl K)) := rfl
set_option maxRecDepth 100000 in
theorem b_M_goesToTheEnd_15 {u : UV} {k : Nat} {a0 : Nat} {x1 : Int32} {x2 : Int32} {x3 : Int32} {hi : HI} {hl : HL} {K : Option Value → HI → HL → Prop} : vc u (k + 3) 164 15 [.ref a0, .int x1, .int x2, .int x3] [] hi hl K = ((kd a0 = 7 ∧ 7 < 8) ∧ Call u 163 [.ref a0, .int x1] hi hl (fun r hi2 hl2 => vc u k 164 20 [.ref a0, .int x1, .int x2, .int x3] (r.toList ++ []) hi2 hl2 K)) := rfl
set_option maxRecDepth 100000 in
theorem b_M_goesToTheEnd_20 {u : UV} {k : Nat} {a0 : Nat} {x1 : Int32} {x2 : Int32} {x3 : Int32} {y0 : Int32} {hi : HI} {hl : HL} {K : Option Value → HI → HL → Prop} : vc u (k + 1) 164 20 [.ref a0, .int x1, .int x2, .int x3] [.int y0] hi hl K = ((y0 = 0 → vc u k 164 37 [.ref a0, .int x1, .int x2, .int x3] [] hi hl K) ∧ (¬ y0 = 0 → vc u k 164 23 [.ref a0, .int x1, .int x2, .int x3] [] hi hl K)) := rfl
set_option maxRecDepth 100000 in
theorem b_M_goesToTheEnd_23 {u : UV} {k : Nat} {a0 : Nat} {x1 : Int32} {x2 : Int32} {x3 : Int32} {hi : HI} {hl : HL} {K : Option Value → HI → HL → Prop} : vc u (k + 4) 164 23 [.ref a0, .int x1, .int x2, .int x3] [] hi hl K = ((kd a0 = 7 ∧ 7 < 8) ∧ Call u 151 [.ref a0, .int x1] hi hl (fun r hi2 hl2 => vc u k 164 29 [.ref a0, .int x1, .int x2, .int x3] (r.toList ++ [.int x2]) hi2 hl2 K)) := rfl
set_option maxRecDepth 100000 in
theorem b_M_goesToTheEnd_29 {u : UV} {k : Nat} {a0 : Nat} {x1 : Int32} {x2 : Int32} {x3 : Int32} {y0 : Int32} {y1 : Int32} {hi : HI} {hl : HL} {K : Option Value → HI → HL → Prop} : vc u (k + 4) 164 29 [.ref a0, .int x1, .int x2, .int x3] [.int y0, .int y1] hi hl K = (Wp u 164 4 [.ref a0, .int x1, .int (y1 + y0), .int (x3 + 1)] [] hi hl K) := rfl
set_option maxRecDepth 100000 in
theorem b_M_goesToTheEnd_37 {u : UV} {k : Nat} {a0 : Nat} {x1 : Int32} {x2 : Int32} {x3 : Int32} {hi : HI} {hl : HL} {K : Option Value → HI → HL → Prop} : vc u (k + 1) 164 37 [.ref a0, .int x1, .int x2, .int x3] [] hi hl K = (mR 164 = none ∧ K none hi hl) := rfl
set_option maxRecDepth 100000 in
theorem b_M_bundleWith_0 {u : UV} {k : Nat} {a0 : Nat} {x1 : Int32} {x2 : Int32} {hi : HI} {hl : HL} {K : Option Value → HI → HL → Prop} : vc u (k + 3) 165 0 [.ref a0, .int x1, .int x2] [] hi hl K = ((kd a0 = 7 ∧ 7 < 8) ∧ Call u 164 [.ref a0, .int x2] hi hl (fun r hi2 hl2 => vc u k 165 5 [.ref a0, .int x1, .int x2] (r.toList ++ []) hi2 hl2 K)) := rfl
set_option maxRecDepth 100000 in
theorem b_M_bundleWith_5 {u : UV} {k : Nat} {a0 : Nat} {x1 : Int32} {x2 : Int32} {hi : HI} {hl : HL} {K : Option Value → HI → HL → Prop} : vc u (k + 5) 165 5 [.ref a0, .int x1, .int x2] [] hi hl K = ((kd a0 = 7 ∧ 7 < 8) ∧ Call u 133 [.ref a0, .int x1, .int 4] hi hl (fun r hi2 hl2 => vc u k 165 12 [.ref a0, .int x1, .int x2] (r.toList ++ [.ref a0]) hi2 hl2 K)) := rfl
set_option maxRecDepth 100000 in
theorem b_M_bundleWith_12 {u : UV} {k : Nat} {a0 : Nat} {x1 : Int32} {x2 : Int32} {y0 : Int32} {c1 : Nat} {hi : HI} {hl : HL} {K : Option Value → HI → HL → Prop} : vc u (k + 1) 165 12 [.ref a0, .int x1, .int x2] [.int y0, .ref c1] hi hl K = ((kd c1 = 7 ∧ 7 < 8) ∧ Call u 122 [.ref c1, .int y0] hi hl (fun r hi2 hl2 => vc u k 165 15 [.ref a0, .int x1, .int x2] (r.toList ++ []) hi2 hl2 K)) := rfl
set_option maxRecDepth 100000 in
theorem b_M_bundleWith_15 {u : UV} {k : Nat} {a0 : Nat} {x1 : Int32} {x2 : Int32} {y0 : Int32} {hi : HI} {hl : HL} {K : Option Value → HI → HL → Prop} : vc u (k + 1) 165 15 [.ref a0, .int x1, .int x2] [.int y0] hi hl K = (True ∧ K (some (.int y0)) hi hl) := rfl
set_option maxRecDepth 100000 in
theorem b_M_after_0 {u : UV} {k : Nat} {a0 : Nat} {hi : HI} {hl : HL} {K : Option Value → HI → HL → Prop} : vc u (k + 3) 166 0 [.ref a0] [] hi hl K = ((kd a0 = 7 ∧ 7 < 8) ∧ Call u 153 [.ref a0, .int 200] hi hl (fun r hi2 hl2 => vc u k 166 7 [.ref a0] (r.toList ++ []) hi2 hl2 K)) := rfl
set_option maxRecDepth 100000 in
theorem b_M_after_7 {u : UV} {k : Nat} {a0 : Nat} {y0 : Int32} {hi : HI} {hl : HL} {K : Option Value → HI → HL → Prop} : vc u (k + 1) 166 7 [.ref a0] [.int y0] hi hl K = ((y0 = 0 → vc u k 166 17 [.ref a0] [] hi hl K) ∧ (¬ y0 = 0 → vc u k 166 10 [.ref a0] [] hi hl K)) := rfl
set_option maxRecDepth 100000 in
theorem b_M_after_10 {u : UV} {k : Nat} {a0 : Nat} {hi : HI} {hl : HL} {K : Option Value → HI → HL → Prop} : vc u (k + 3) 166 10 [.ref a0] [] hi hl K = ((kd a0 = 7 ∧ 7 < 8) ∧ Call u 118 [.ref a0, .int (-1000000005)] hi hl (fun r hi2 hl2 => vc u k 166 16 [.ref a0] (r.toList ++ []) hi2 hl2 K)) := rfl
set_option maxRecDepth 100000 in
theorem b_M_after_16 {u : UV} {k : Nat} {a0 : Nat} {y0 : Int32} {hi : HI} {hl : HL} {K : Option Value → HI → HL → Prop} : vc u (k + 1) 166 16 [.ref a0] [.int y0] hi hl K = (True ∧ K (some (.int y0)) hi hl) := rfl
set_option maxRecDepth 100000 in
theorem b_M_after_17 {u : UV} {k : Nat} {a0 : Nat} {hi : HI} {hl : HL} {K : Option Value → HI → HL → Prop} : vc u (k + 5) 166 17 [.ref a0] [] hi hl K = (kd a0 = 7 ∧ kd a0 = 7 ∧ Call u 121 [.ref (rf a0 0), .ref (rf a0 2)] hi hl (fun r hi2 hl2 => vc u k 166 28 [.ref a0] (r.toList ++ []) hi2 hl2 K)) := rfl
set_option maxRecDepth 100000 in
theorem b_M_after_28 {u : UV} {k : Nat} {a0 : Nat} {hi : HI} {hl : HL} {K : Option Value → HI → HL → Prop} : vc u (k + 3) 166 28 [.ref a0] [] hi hl K = ((kd a0 = 7 ∧ 7 < 8) ∧ Call u 164 [.ref a0, .int 511] hi hl (fun r hi2 hl2 => vc u k 166 35 [.ref a0] (r.toList ++ []) hi2 hl2 K)) := rfl
set_option maxRecDepth 100000 in
theorem b_M_after_35 {u : UV} {k : Nat} {a0 : Nat} {hi : HI} {hl : HL} {K : Option Value → HI → HL → Prop} : vc u (k + 5) 166 35 [.ref a0] [] hi hl K = ((kd a0 = 7 ∧ 7 < 8) ∧ Call u 126 [.ref a0, .int 0, .int 64] hi hl (fun r hi2 hl2 => vc u k 166 43 [.ref a0] (r.toList ++ [.ref a0]) hi2 hl2 K)) := rfl
set_option maxRecDepth 100000 in
theorem b_M_after_43 {u : UV} {k : Nat} {a0 : Nat} {y0 : Int32} {c1 : Nat} {hi : HI} {hl : HL} {K : Option Value → HI → HL → Prop} : vc u (k + 1) 166 43 [.ref a0] [.int y0, .ref c1] hi hl K = ((kd c1 = 7 ∧ 7 < 8) ∧ Call u 122 [.ref c1, .int y0] hi hl (fun r hi2 hl2 => vc u k 166 46 [.ref a0] (r.toList ++ []) hi2 hl2 K)) := rfl
set_option maxRecDepth 100000 in
theorem b_M_after_46 {u : UV} {k : Nat} {a0 : Nat} {y0 : Int32} {hi : HI} {hl : HL} {K : Option Value → HI → HL → Prop} : vc u (k + 1) 166 46 [.ref a0] [.int y0] hi hl K = (True ∧ K (some (.int y0)) hi hl) := rfl
set_option maxRecDepth 100000 in
theorem b_M_most_0 {u : UV} {k : Nat} {a0 : Nat} {l1 : Value} {l2 : Value} {hi : HI} {hl : HL} {K : Option Value → HI → HL → Prop} : vc u (k + 3) 167 0 [.ref a0, l1, l2] [] hi hl K = ((kd a0 = 7 ∧ 7 < 8) ∧ Call u 153 [.ref a0, .int 200] hi hl (fun r hi2 hl2 => vc u k 167 7 [.ref a0, l1, l2] (r.toList ++ []) hi2 hl2 K)) := rfl
set_option maxRecDepth 100000 in
theorem b_M_most_7 {u : UV} {k : Nat} {a0 : Nat} {l1 : Value} {l2 : Value} {y0 : Int32} {hi : HI} {hl : HL} {K : Option Value → HI → HL → Prop} : vc u (k + 1) 167 7 [.ref a0, l1, l2] [.int y0] hi hl K = ((y0 = 0 → vc u k 167 17 [.ref a0, l1, l2] [] hi hl K) ∧ (¬ y0 = 0 → vc u k 167 10 [.ref a0, l1, l2] [] hi hl K)) := rfl
set_option maxRecDepth 100000 in
theorem b_M_most_10 {u : UV} {k : Nat} {a0 : Nat} {l1 : Value} {l2 : Value} {hi : HI} {hl : HL} {K : Option Value → HI → HL → Prop} : vc u (k + 3) 167 10 [.ref a0, l1, l2] [] hi hl K = ((kd a0 = 7 ∧ 7 < 8) ∧ Call u 118 [.ref a0, .int (-1000000005)] hi hl (fun r hi2 hl2 => vc u k 167 16 [.ref a0, l1, l2] (r.toList ++ []) hi2 hl2 K)) := rfl
set_option maxRecDepth 100000 in
theorem b_M_most_16 {u : UV} {k : Nat} {a0 : Nat} {l1 : Value} {l2 : Value} {y0 : Int32} {hi : HI} {hl : HL} {K : Option Value → HI → HL → Prop} : vc u (k + 1) 167 16 [.ref a0, l1, l2] [.int y0] hi hl K = (True ∧ K (some (.int y0)) hi hl) := rfl
set_option maxRecDepth 100000 in
theorem b_M_most_17 {u : UV} {k : Nat} {a0 : Nat} {l1 : Value} {l2 : Value} {hi : HI} {hl : HL} {K : Option Value → HI → HL → Prop} : vc u (k + 5) 167 17 [.ref a0, l1, l2] [] hi hl K = (kd a0 = 7 ∧ kd a0 = 7 ∧ Call u 121 [.ref (rf a0 0), .ref (rf a0 2)] hi hl (fun r hi2 hl2 => vc u k 167 28 [.ref a0, l1, l2] (r.toList ++ []) hi2 hl2 K)) := rfl
set_option maxRecDepth 100000 in
theorem b_M_most_28 {u : UV} {k : Nat} {a0 : Nat} {l1 : Value} {l2 : Value} {hi : HI} {hl : HL} {K : Option Value → HI → HL → Prop} : vc u (k + 3) 167 28 [.ref a0, l1, l2] [] hi hl K = ((kd a0 = 7 ∧ 7 < 8) ∧ Call u 164 [.ref a0, .int 511] hi hl (fun r hi2 hl2 => vc u k 167 35 [.ref a0, l1, l2] (r.toList ++ []) hi2 hl2 K)) := rfl
set_option maxRecDepth 100000 in
theorem b_M_most_35 {u : UV} {k : Nat} {a0 : Nat} {l1 : Value} {l2 : Value} {hi : HI} {hl : HL} {K : Option Value → HI → HL → Prop} : vc u (k + 4) 167 35 [.ref a0, l1, l2] [] hi hl K = (Wp u 167 39 [.ref a0, .int (-1), .int 0] [] hi hl K) := rfl
set_option maxRecDepth 100000 in
theorem b_M_most_39 {u : UV} {k : Nat} {a0 : Nat} {x1 : Int32} {x2 : Int32} {hi : HI} {hl : HL} {K : Option Value → HI → HL → Prop} : vc u (k + 6) 167 39 [.ref a0, .int x1, .int x2] [] hi hl K = (kd a0 = 7 ∧ (kd (rf a0 0) = 8 ∧ vp_in 68 (ln (rf a0 0))) ∧ ((hi (rf a0 0) (Int32.toNatClampNeg 68)) ≤ x2 → vc u k 167 81 [.ref a0, .int x1, .int x2] [] hi hl K) ∧ (¬ (hi (rf a0 0) (Int32.toNatClampNeg 68)) ≤ x2 → vc u k 167 50 [.ref a0, .int x1, .int x2] [] hi hl K)) := rfl
set_option maxRecDepth 100000 in
theorem b_M_most_50 {u : UV} {k : Nat} {a0 : Nat} {x1 : Int32} {x2 : Int32} {hi : HI} {hl : HL} {K : Option Value → HI → HL → Prop} : vc u (k + 2) 167 50 [.ref a0, .int x1, .int x2] [] hi hl K = ((x1 < 0 → vc u k 167 69 [.ref a0, .int x1, .int x2] [] hi hl K) ∧ (¬ x1 < 0 → vc u k 167 54 [.ref a0, .int x1, .int x2] [] hi hl K)) := rfl
set_option maxRecDepth 100000 in
theorem b_M_most_54 {u : UV} {k : Nat} {a0 : Nat} {x1 : Int32} {x2 : Int32} {hi : HI} {hl : HL} {K : Option Value → HI → HL → Prop} : vc u (k + 4) 167 54 [.ref a0, .int x1, .int x2] [] hi hl K = ((kd a0 = 7 ∧ 7 < 8) ∧ Call u 133 [.ref a0, .int x2, .int 4] hi hl (fun r hi2 hl2 => vc u k 167 60 [.ref a0, .int x1, .int x2] (r.toList ++ []) hi2 hl2 K)) := rfl
set_option maxRecDepth 100000 in
theorem b_M_most_60 {u : UV} {k : Nat} {a0 : Nat} {x1 : Int32} {x2 : Int32} {y0 : Int32} {hi : HI} {hl : HL} {K : Option Value → HI → HL → Prop} : vc u (k + 4) 167 60 [.ref a0, .int x1, .int x2] [.int y0] hi hl K = ((kd a0 = 7 ∧ 7 < 8) ∧ Call u 133 [.ref a0, .int x1, .int 4] hi hl (fun r hi2 hl2 => vc u k 167 66 [.ref a0, .int x1, .int x2] (r.toList ++ [.int y0]) hi2 hl2 K)) := rfl
set_option maxRecDepth 100000 in
theorem b_M_most_66 {u : UV} {k : Nat} {a0 : Nat} {x1 : Int32} {x2 : Int32} {y0 : Int32} {y1 : Int32} {hi : HI} {hl : HL} {K : Option Value → HI → HL → Prop} : vc u (k + 1) 167 66 [.ref a0, .int x1, .int x2] [.int y0, .int y1] hi hl K = ((y1 ≤ y0 → vc u k 167 73 [.ref a0, .int x1, .int x2] [] hi hl K) ∧ (¬ y1 ≤ y0 → vc u k 167 69 [.ref a0, .int x1, .int x2] [] hi hl K)) := rfl
set_option maxRecDepth 100000 in
theorem b_M_most_69 {u : UV} {k : Nat} {a0 : Nat} {x1 : Int32} {x2 : Int32} {hi : HI} {hl : HL} {K : Option Value → HI → HL → Prop} : vc u (k + 2) 167 69 [.ref a0, .int x1, .int x2] [] hi hl K = (vc u k 167 74 [.ref a0, .int x1, .int x2] [.int x2] hi hl K) := rfl
set_option maxRecDepth 100000 in
theorem b_M_most_73 {u : UV} {k : Nat} {a0 : Nat} {x1 : Int32} {x2 : Int32} {hi : HI} {hl : HL} {K : Option Value → HI → HL → Prop} : vc u (k + 1) 167 73 [.ref a0, .int x1, .int x2] [] hi hl K = (vc u k 167 74 [.ref a0, .int x1, .int x2] [.int x1] hi hl K) := rfl
set_option maxRecDepth 100000 in
theorem b_M_most_74 {u : UV} {k : Nat} {a0 : Nat} {x1 : Int32} {x2 : Int32} {y0 : Int32} {hi : HI} {hl : HL} {K : Option Value → HI → HL → Prop} : vc u (k + 3) 167 74 [.ref a0, .int x1, .int x2] [.int y0] hi hl K = (Wp u 167 39 [.ref a0, .int y0, .int (x2 + 1)] [] hi hl K) := rfl
set_option maxRecDepth 100000 in
theorem b_M_most_81 {u : UV} {k : Nat} {a0 : Nat} {x1 : Int32} {x2 : Int32} {hi : HI} {hl : HL} {K : Option Value → HI → HL → Prop} : vc u (k + 3) 167 81 [.ref a0, .int x1, .int x2] [] hi hl K = ((kd a0 = 7 ∧ 7 < 8) ∧ Call u 122 [.ref a0, .int x1] hi hl (fun r hi2 hl2 => vc u k 167 86 [.ref a0, .int x1, .int x2] (r.toList ++ []) hi2 hl2 K)) := rfl
set_option maxRecDepth 100000 in
theorem b_M_most_86 {u : UV} {k : Nat} {a0 : Nat} {x1 : Int32} {x2 : Int32} {y0 : Int32} {hi : HI} {hl : HL} {K : Option Value → HI → HL → Prop} : vc u (k + 3) 167 86 [.ref a0, .int x1, .int x2] [.int y0] hi hl K = (((0 : Int32) ≤ y0 → vc u k 167 100 [.ref a0, .int x1, .int y0] [] hi hl K) ∧ (¬ (0 : Int32) ≤ y0 → vc u k 167 91 [.ref a0, .int x1, .int y0] [] hi hl K)) := rfl
set_option maxRecDepth 100000 in
theorem b_M_most_91 {u : UV} {k : Nat} {a0 : Nat} {x1 : Int32} {x2 : Int32} {hi : HI} {hl : HL} {K : Option Value → HI → HL → Prop} : vc u (k + 3) 167 91 [.ref a0, .int x1, .int x2] [] hi hl K = ((kd a0 = 7 ∧ 7 < 8) ∧ Call u 118 [.ref a0, .int (-1000000004)] hi hl (fun r hi2 hl2 => vc u k 167 97 [.ref a0, .int x1, .int x2] (r.toList ++ []) hi2 hl2 K)) := rfl
set_option maxRecDepth 100000 in
theorem b_M_most_97 {u : UV} {k : Nat} {a0 : Nat} {x1 : Int32} {x2 : Int32} {y0 : Int32} {hi : HI} {hl : HL} {K : Option Value → HI → HL → Prop} : vc u (k + 1) 167 97 [.ref a0, .int x1, .int x2] [.int y0] hi hl K = (vc u k 167 101 [.ref a0, .int x1, .int x2] [.int y0] hi hl K) := rfl
set_option maxRecDepth 100000 in
theorem b_M_most_100 {u : UV} {k : Nat} {a0 : Nat} {x1 : Int32} {x2 : Int32} {hi : HI} {hl : HL} {K : Option Value → HI → HL → Prop} : vc u (k + 1) 167 100 [.ref a0, .int x1, .int x2] [] hi hl K = (vc u k 167 101 [.ref a0, .int x1, .int x2] [.int x2] hi hl K) := rfl
set_option maxRecDepth 100000 in
theorem b_M_most_101 {u : UV} {k : Nat} {a0 : Nat} {x1 : Int32} {x2 : Int32} {y0 : Int32} {hi : HI} {hl : HL} {K : Option Value → HI → HL → Prop} : vc u (k + 1) 167 101 [.ref a0, .int x1, .int x2] [.int y0] hi hl K = (True ∧ K (some (.int y0)) hi hl) := rfl
set_option maxRecDepth 100000 in
theorem b_M_meet_0 {u : UV} {k : Nat} {a0 : Nat} {x1 : Int32} {x2 : Int32} {l3 : Value} {hi : HI} {hl : HL} {K : Option Value → HI → HL → Prop} : vc u (k + 3) 168 0 [.ref a0, .int x1, .int x2, l3] [] hi hl K = ((kd a0 = 7 ∧ 7 < 8) ∧ Call u 131 [.ref a0, .int x1] hi hl (fun r hi2 hl2 => vc u k 168 5 [.ref a0, .int x1, .int x2, l3] (r.toList ++ []) hi2 hl2 K)) := rfl
set_option maxRecDepth 100000 in
theorem b_M_meet_5 {u : UV} {k : Nat} {a0 : Nat} {x1 : Int32} {x2 : Int32} {l3 : Value} {y0 : Int32} {hi : HI} {hl : HL} {K : Option Value → HI → HL → Prop} : vc u (k + 1) 168 5 [.ref a0, .int x1, .int x2, l3] [.int y0] hi hl K = ((y0 = 0 → vc u k 168 21 [.ref a0, .int x1, .int x2, l3] [] hi hl K) ∧ (¬ y0 = 0 → vc u k 168 8 [.ref a0, .int x1, .int x2, l3] [] hi hl K)) := rfl
set_option maxRecDepth 100000 in
theorem b_M_meet_8 {u : UV} {k : Nat} {a0 : Nat} {x1 : Int32} {x2 : Int32} {l3 : Value} {hi : HI} {hl : HL} {K : Option Value → HI → HL → Prop} : vc u (k + 3) 168 8 [.ref a0, .int x1, .int x2, l3] [] hi hl K = ((kd a0 = 7 ∧ 7 < 8) ∧ Call u 131 [.ref a0, .int x2] hi hl (fun r hi2 hl2 => vc u k 168 13 [.ref a0, .int x1, .int x2, l3] (r.toList ++ []) hi2 hl2 K)) := rfl
set_option maxRecDepth 100000 in
theorem b_M_meet_13 {u : UV} {k : Nat} {a0 : Nat} {x1 : Int32} {x2 : Int32} {l3 : Value} {y0 : Int32} {hi : HI} {hl : HL} {K : Option Value → HI → HL → Prop} : vc u (k + 1) 168 13 [.ref a0, .int x1, .int x2, l3] [.int y0] hi hl K = ((y0 = 0 → vc u k 168 21 [.ref a0, .int x1, .int x2, l3] [] hi hl K) ∧ (¬ y0 = 0 → vc u k 168 16 [.ref a0, .int x1, .int x2, l3] [] hi hl K)) := rfl
set_option maxRecDepth 100000 in
theorem b_M_meet_16 {u : UV} {k : Nat} {a0 : Nat} {x1 : Int32} {x2 : Int32} {l3 : Value} {hi : HI} {hl : HL} {K : Option Value → HI → HL → Prop} : vc u (k + 3) 168 16 [.ref a0, .int x1, .int x2, l3] [] hi hl K = ((¬ x1 = x2 → vc u k 168 28 [.ref a0, .int x1, .int x2, l3] [] hi hl K) ∧ (x1 = x2 → vc u k 168 21 [.ref a0, .int x1, .int x2, l3] [] hi hl K)) := rfl
set_option maxRecDepth 100000 in
theorem b_M_meet_21 {u : UV} {k : Nat} {a0 : Nat} {x1 : Int32} {x2 : Int32} {l3 : Value} {hi : HI} {hl : HL} {K : Option Value → HI → HL → Prop} : vc u (k + 3) 168 21 [.ref a0, .int x1, .int x2, l3] [] hi hl K = ((kd a0 = 7 ∧ 7 < 8) ∧ Call u 118 [.ref a0, .int (-1000000001)] hi hl (fun r hi2 hl2 => vc u k 168 27 [.ref a0, .int x1, .int x2, l3] (r.toList ++ []) hi2 hl2 K)) := rfl
set_option maxRecDepth 100000 in
theorem b_M_meet_27 {u : UV} {k : Nat} {a0 : Nat} {x1 : Int32} {x2 : Int32} {l3 : Value} {y0 : Int32} {hi : HI} {hl : HL} {K : Option Value → HI → HL → Prop} : vc u (k + 1) 168 27 [.ref a0, .int x1, .int x2, l3] [.int y0] hi hl K = (True ∧ K (some (.int y0)) hi hl) := rfl
set_option maxRecDepth 100000 in
theorem b_M_meet_28 {u : UV} {k : Nat} {a0 : Nat} {x1 : Int32} {x2 : Int32} {l3 : Value} {hi : HI} {hl : HL} {K : Option Value → HI → HL → Prop} : vc u (k + 3) 168 28 [.ref a0, .int x1, .int x2, l3] [] hi hl K = ((kd a0 = 7 ∧ 7 < 8) ∧ Call u 153 [.ref a0, .int 200] hi hl (fun r hi2 hl2 => vc u k 168 35 [.ref a0, .int x1, .int x2, l3] (r.toList ++ []) hi2 hl2 K)) := rfl
set_option maxRecDepth 100000 in
theorem b_M_meet_35 {u : UV} {k : Nat} {a0 : Nat} {x1 : Int32} {x2 : Int32} {l3 : Value} {y0 : Int32} {hi : HI} {hl : HL} {K : Option Value → HI → HL → Prop} : vc u (k + 1) 168 35 [.ref a0, .int x1, .int x2, l3] [.int y0] hi hl K = ((y0 = 0 → vc u k 168 45 [.ref a0, .int x1, .int x2, l3] [] hi hl K) ∧ (¬ y0 = 0 → vc u k 168 38 [.ref a0, .int x1, .int x2, l3] [] hi hl K)) := rfl
set_option maxRecDepth 100000 in
theorem b_M_meet_38 {u : UV} {k : Nat} {a0 : Nat} {x1 : Int32} {x2 : Int32} {l3 : Value} {hi : HI} {hl : HL} {K : Option Value → HI → HL → Prop} : vc u (k + 3) 168 38 [.ref a0, .int x1, .int x2, l3] [] hi hl K = ((kd a0 = 7 ∧ 7 < 8) ∧ Call u 118 [.ref a0, .int (-1000000005)] hi hl (fun r hi2 hl2 => vc u k 168 44 [.ref a0, .int x1, .int x2, l3] (r.toList ++ []) hi2 hl2 K)) := rfl
set_option maxRecDepth 100000 in
theorem b_M_meet_44 {u : UV} {k : Nat} {a0 : Nat} {x1 : Int32} {x2 : Int32} {l3 : Value} {y0 : Int32} {hi : HI} {hl : HL} {K : Option Value → HI → HL → Prop} : vc u (k + 1) 168 44 [.ref a0, .int x1, .int x2, l3] [.int y0] hi hl K = (True ∧ K (some (.int y0)) hi hl) := rfl
set_option maxRecDepth 100000 in
theorem b_M_meet_45 {u : UV} {k : Nat} {a0 : Nat} {x1 : Int32} {x2 : Int32} {l3 : Value} {hi : HI} {hl : HL} {K : Option Value → HI → HL → Prop} : vc u (k + 5) 168 45 [.ref a0, .int x1, .int x2, l3] [] hi hl K = (kd a0 = 7 ∧ kd a0 = 7 ∧ Call u 121 [.ref (rf a0 0), .ref (rf a0 2)] hi hl (fun r hi2 hl2 => vc u k 168 56 [.ref a0, .int x1, .int x2, l3] (r.toList ++ []) hi2 hl2 K)) := rfl
set_option maxRecDepth 100000 in
theorem b_M_meet_56 {u : UV} {k : Nat} {a0 : Nat} {x1 : Int32} {x2 : Int32} {l3 : Value} {hi : HI} {hl : HL} {K : Option Value → HI → HL → Prop} : vc u (k + 2) 168 56 [.ref a0, .int x1, .int x2, l3] [] hi hl K = (Wp u 168 58 [.ref a0, .int x1, .int x2, .int 0] [] hi hl K) := rfl
set_option maxRecDepth 100000 in
theorem b_M_meet_58 {u : UV} {k : Nat} {a0 : Nat} {x1 : Int32} {x2 : Int32} {x3 : Int32} {hi : HI} {hl : HL} {K : Option Value → HI → HL → Prop} : vc u (k + 3) 168 58 [.ref a0, .int x1, .int x2, .int x3] [] hi hl K = (((200 : Int32) < x3 → vc u k 168 99 [.ref a0, .int x1, .int x2, .int x3] [] hi hl K) ∧ (¬ (200 : Int32) < x3 → vc u k 168 65 [.ref a0, .int x1, .int x2, .int x3] [] hi hl K)) := rfl
set_option maxRecDepth 100000 in
theorem b_M_meet_65 {u : UV} {k : Nat} {a0 : Nat} {x1 : Int32} {x2 : Int32} {x3 : Int32} {hi : HI} {hl : HL} {K : Option Value → HI → HL → Prop} : vc u (k + 3) 168 65 [.ref a0, .int x1, .int x2, .int x3] [] hi hl K = ((kd a0 = 7 ∧ 7 < 8) ∧ Call u 140 [.ref a0, .int x1] hi hl (fun r hi2 hl2 => vc u k 168 70 [.ref a0, .int x1, .int x2, .int x3] (r.toList ++ []) hi2 hl2 K)) := rfl
set_option maxRecDepth 100000 in
theorem b_M_meet_70 {u : UV} {k : Nat} {a0 : Nat} {x1 : Int32} {x2 : Int32} {x3 : Int32} {y0 : Int32} {hi : HI} {hl : HL} {K : Option Value → HI → HL → Prop} : vc u (k + 3) 168 70 [.ref a0, .int x1, .int x2, .int x3] [.int y0] hi hl K = ((kd a0 = 7 ∧ 7 < 8) ∧ Call u 140 [.ref a0, .int x2] hi hl (fun r hi2 hl2 => vc u k 168 75 [.ref a0, .int x1, .int x2, .int x3] (r.toList ++ [.int y0]) hi2 hl2 K)) := rfl
set_option maxRecDepth 100000 in
theorem b_M_meet_75 {u : UV} {k : Nat} {a0 : Nat} {x1 : Int32} {x2 : Int32} {x3 : Int32} {y0 : Int32} {y1 : Int32} {hi : HI} {hl : HL} {K : Option Value → HI → HL → Prop} : vc u (k + 1) 168 75 [.ref a0, .int x1, .int x2, .int x3] [.int y0, .int y1] hi hl K = ((y1 = y0 → vc u k 168 99 [.ref a0, .int x1, .int x2, .int x3] [] hi hl K) ∧ (¬ y1 = y0 → vc u k 168 78 [.ref a0, .int x1, .int x2, .int x3] [] hi hl K)) := rfl
set_option maxRecDepth 100000 in
theorem b_M_meet_78 {u : UV} {k : Nat} {a0 : Nat} {x1 : Int32} {x2 : Int32} {x3 : Int32} {hi : HI} {hl : HL} {K : Option Value → HI → HL → Prop} : vc u (k + 4) 168 78 [.ref a0, .int x1, .int x2, .int x3] [] hi hl K = ((kd a0 = 7 ∧ 7 < 8) ∧ Call u 151 [.ref a0, .int 511] hi hl (fun r hi2 hl2 => vc u k 168 86 [.ref a0, .int x1, .int x2, .int x3] (r.toList ++ [.int x3]) hi2 hl2 K)) := rfl
set_option maxRecDepth 100000 in
theorem b_M_meet_86 {u : UV} {k : Nat} {a0 : Nat} {x1 : Int32} {x2 : Int32} {x3 : Int32} {y0 : Int32} {y1 : Int32} {hi : HI} {hl : HL} {K : Option Value → HI → HL → Prop} : vc u (k + 1) 168 86 [.ref a0, .int x1, .int x2, .int x3] [.int y0, .int y1] hi hl K = (((0 : Int32) ≤ y0 → vc u k 168 93 [.ref a0, .int x1, .int x2, .int x3] [.int y1] hi hl K) ∧ (¬ (0 : Int32) ≤ y0 → vc u k 168 89 [.ref a0, .int x1, .int x2, .int x3] [.int y1] hi hl K)) := rfl
set_option maxRecDepth 100000 in
theorem b_M_meet_89 {u : UV} {k : Nat} {a0 : Nat} {x1 : Int32} {x2 : Int32} {x3 : Int32} {y0 : Int32} {hi : HI} {hl : HL} {K : Option Value → HI → HL → Prop} : vc u (k + 2) 168 89 [.ref a0, .int x1, .int x2, .int x3] [.int y0] hi hl K = (vc u k 168 94 [.ref a0, .int x1, .int x2, .int x3] [.int 0, .int y0] hi hl K) := rfl
set_option maxRecDepth 100000 in
theorem b_M_meet_93 {u : UV} {k : Nat} {a0 : Nat} {x1 : Int32} {x2 : Int32} {x3 : Int32} {y0 : Int32} {hi : HI} {hl : HL} {K : Option Value → HI → HL → Prop} : vc u (k + 1) 168 93 [.ref a0, .int x1, .int x2, .int x3] [.int y0] hi hl K = (vc u k 168 94 [.ref a0, .int x1, .int x2, .int x3] [.int 1, .int y0] hi hl K) := rfl
set_option maxRecDepth 100000 in
theorem b_M_meet_94 {u : UV} {k : Nat} {a0 : Nat} {x1 : Int32} {x2 : Int32} {x3 : Int32} {y0 : Int32} {y1 : Int32} {hi : HI} {hl : HL} {K : Option Value → HI → HL → Prop} : vc u (k + 3) 168 94 [.ref a0, .int x1, .int x2, .int x3] [.int y0, .int y1] hi hl K = (Wp u 168 58 [.ref a0, .int x1, .int x2, .int (y1 + y0)] [] hi hl K) := rfl
set_option maxRecDepth 100000 in
theorem b_M_meet_99 {u : UV} {k : Nat} {a0 : Nat} {x1 : Int32} {x2 : Int32} {x3 : Int32} {hi : HI} {hl : HL} {K : Option Value → HI → HL → Prop} : vc u (k + 3) 168 99 [.ref a0, .int x1, .int x2, .int x3] [] hi hl K = ((kd a0 = 7 ∧ 7 < 8) ∧ Call u 122 [.ref a0, .int x3] hi hl (fun r hi2 hl2 => vc u k 168 104 [.ref a0, .int x1, .int x2, .int x3] (r.toList ++ []) hi2 hl2 K)) := rfl
set_option maxRecDepth 100000 in
theorem b_M_meet_104 {u : UV} {k : Nat} {a0 : Nat} {x1 : Int32} {x2 : Int32} {x3 : Int32} {y0 : Int32} {hi : HI} {hl : HL} {K : Option Value → HI → HL → Prop} : vc u (k + 2) 168 104 [.ref a0, .int x1, .int x2, .int x3] [.int y0] hi hl K = ((y0 ≤ 200 → vc u k 168 119 [.ref a0, .int x1, .int x2, .int x3] [] hi hl K) ∧ (¬ y0 ≤ 200 → vc u k 168 110 [.ref a0, .int x1, .int x2, .int x3] [] hi hl K)) := rfl
set_option maxRecDepth 100000 in
theorem b_M_meet_110 {u : UV} {k : Nat} {a0 : Nat} {x1 : Int32} {x2 : Int32} {x3 : Int32} {hi : HI} {hl : HL} {K : Option Value → HI → HL → Prop} : vc u (k + 3) 168 110 [.ref a0, .int x1, .int x2, .int x3] [] hi hl K = ((kd a0 = 7 ∧ 7 < 8) ∧ Call u 118 [.ref a0, .int (-1000000004)] hi hl (fun r hi2 hl2 => vc u k 168 116 [.ref a0, .int x1, .int x2, .int x3] (r.toList ++ []) hi2 hl2 K)) := rfl
set_option maxRecDepth 100000 in
theorem b_M_meet_116 {u : UV} {k : Nat} {a0 : Nat} {x1 : Int32} {x2 : Int32} {x3 : Int32} {y0 : Int32} {hi : HI} {hl : HL} {K : Option Value → HI → HL → Prop} : vc u (k + 1) 168 116 [.ref a0, .int x1, .int x2, .int x3] [.int y0] hi hl K = (vc u k 168 120 [.ref a0, .int x1, .int x2, .int x3] [.int y0] hi hl K) := rfl
set_option maxRecDepth 100000 in
theorem b_M_meet_119 {u : UV} {k : Nat} {a0 : Nat} {x1 : Int32} {x2 : Int32} {x3 : Int32} {hi : HI} {hl : HL} {K : Option Value → HI → HL → Prop} : vc u (k + 1) 168 119 [.ref a0, .int x1, .int x2, .int x3] [] hi hl K = (vc u k 168 120 [.ref a0, .int x1, .int x2, .int x3] [.int x3] hi hl K) := rfl
set_option maxRecDepth 100000 in
theorem b_M_meet_120 {u : UV} {k : Nat} {a0 : Nat} {x1 : Int32} {x2 : Int32} {x3 : Int32} {y0 : Int32} {hi : HI} {hl : HL} {K : Option Value → HI → HL → Prop} : vc u (k + 1) 168 120 [.ref a0, .int x1, .int x2, .int x3] [.int y0] hi hl K = (True ∧ K (some (.int y0)) hi hl) := rfl
set_option maxRecDepth 100000 in
theorem b_M_begin_0 {u : UV} {k : Nat} {a0 : Nat} {x1 : Int32} {l2 : Value} {l3 : Value} {l4 : Value} {l5 : Value} {l6 : Value} {hi : HI} {hl : HL} {K : Option Value → HI → HL → Prop} : vc u (k + 5) 169 0 [.ref a0, .int x1, l2, l3, l4, l5, l6] [] hi hl K = ((kd a0 = 7 ∧ 7 < 8) ∧ Call u 159 [.ref a0, .int x1, .int 200, .int 0] hi hl (fun r hi2 hl2 => vc u k 169 9 [.ref a0, .int x1, l2, l3, l4, l5, l6] (r.toList ++ []) hi2 hl2 K)) := rfl
set_option maxRecDepth 100000 in
theorem b_M_begin_9 {u : UV} {k : Nat} {a0 : Nat} {x1 : Int32} {l2 : Value} {l3 : Value} {l4 : Value} {l5 : Value} {l6 : Value} {y0 : Int32} {hi : HI} {hl : HL} {K : Option Value → HI → HL → Prop} : vc u (k + 3) 169 9 [.ref a0, .int x1, l2, l3, l4, l5, l6] [.int y0] hi hl K = ((y0 = 0 → vc u k 169 20 [.ref a0, .int x1, .int y0, l3, l4, l5, l6] [] hi hl K) ∧ (¬ y0 = 0 → vc u k 169 14 [.ref a0, .int x1, .int y0, l3, l4, l5, l6] [] hi hl K)) := rfl
set_option maxRecDepth 100000 in
theorem b_M_begin_14 {u : UV} {k : Nat} {a0 : Nat} {x1 : Int32} {x2 : Int32} {l3 : Value} {l4 : Value} {l5 : Value} {l6 : Value} {hi : HI} {hl : HL} {K : Option Value → HI → HL → Prop} : vc u (k + 3) 169 14 [.ref a0, .int x1, .int x2, l3, l4, l5, l6] [] hi hl K = ((kd a0 = 7 ∧ 7 < 8) ∧ Call u 118 [.ref a0, .int x2] hi hl (fun r hi2 hl2 => vc u k 169 19 [.ref a0, .int x1, .int x2, l3, l4, l5, l6] (r.toList ++ []) hi2 hl2 K)) := rfl
set_option maxRecDepth 100000 in
theorem b_M_begin_19 {u : UV} {k : Nat} {a0 : Nat} {x1 : Int32} {x2 : Int32} {l3 : Value} {l4 : Value} {l5 : Value} {l6 : Value} {y0 : Int32} {hi : HI} {hl : HL} {K : Option Value → HI → HL → Prop} : vc u (k + 1) 169 19 [.ref a0, .int x1, .int x2, l3, l4, l5, l6] [.int y0] hi hl K = (True ∧ K (some (.int y0)) hi hl) := rfl
set_option maxRecDepth 100000 in
theorem b_M_begin_20 {u : UV} {k : Nat} {a0 : Nat} {x1 : Int32} {x2 : Int32} {l3 : Value} {l4 : Value} {l5 : Value} {l6 : Value} {hi : HI} {hl : HL} {K : Option Value → HI → HL → Prop} : vc u (k + 5) 169 20 [.ref a0, .int x1, .int x2, l3, l4, l5, l6] [] hi hl K = (kd a0 = 7 ∧ kd a0 = 7 ∧ Call u 121 [.ref (rf a0 0), .ref (rf a0 2)] hi hl (fun r hi2 hl2 => vc u k 169 31 [.ref a0, .int x1, .int x2, l3, l4, l5, l6] (r.toList ++ []) hi2 hl2 K)) := rfl
set_option maxRecDepth 100000 in
theorem b_M_begin_31 {u : UV} {k : Nat} {a0 : Nat} {x1 : Int32} {x2 : Int32} {l3 : Value} {l4 : Value} {l5 : Value} {l6 : Value} {hi : HI} {hl : HL} {K : Option Value → HI → HL → Prop} : vc u (k + 6) 169 31 [.ref a0, .int x1, .int x2, l3, l4, l5, l6] [] hi hl K = (Wp u 169 39 [.ref a0, .int x1, .int x2, .int 0, .int (-1), .int 0, l6] [] hi hl K) := rfl
set_option maxRecDepth 100000 in
theorem b_M_begin_39 {u : UV} {k : Nat} {a0 : Nat} {x1 : Int32} {x2 : Int32} {x3 : Int32} {x4 : Int32} {x5 : Int32} {l6 : Value} {hi : HI} {hl : HL} {K : Option Value → HI → HL → Prop} : vc u (k + 3) 169 39 [.ref a0, .int x1, .int x2, .int x3, .int x4, .int x5, l6] [] hi hl K = (((8 : Int32) ≤ x5 → vc u k 169 132 [.ref a0, .int x1, .int x2, .int x3, .int x4, .int x5, l6] [] hi hl K) ∧ (¬ (8 : Int32) ≤ x5 → vc u k 169 46 [.ref a0, .int x1, .int x2, .int x3, .int x4, .int x5, l6] [] hi hl K)) := rfl
set_option maxRecDepth 100000 in
theorem b_M_begin_46 {u : UV} {k : Nat} {a0 : Nat} {x1 : Int32} {x2 : Int32} {x3 : Int32} {x4 : Int32} {x5 : Int32} {l6 : Value} {hi : HI} {hl : HL} {K : Option Value → HI → HL → Prop} : vc u (k + 5) 169 46 [.ref a0, .int x1, .int x2, .int x3, .int x4, .int x5, l6] [] hi hl K = (kd a0 = 7 ∧ Call u 132 [.int x1, .int 1] hi hl (fun r hi2 hl2 => vc u k 169 55 [.ref a0, .int x1, .int x2, .int x3, .int x4, .int x5, l6] (r.toList ++ [.ref (rf a0 0)]) hi2 hl2 K)) := rfl
set_option maxRecDepth 100000 in
theorem b_M_begin_55 {u : UV} {k : Nat} {a0 : Nat} {x1 : Int32} {x2 : Int32} {x3 : Int32} {x4 : Int32} {x5 : Int32} {l6 : Value} {y0 : Int32} {c1 : Nat} {hi : HI} {hl : HL} {K : Option Value → HI → HL → Prop} : vc u (k + 7) 169 55 [.ref a0, .int x1, .int x2, .int x3, .int x4, .int x5, l6] [.int y0, .ref c1] hi hl K = ((kd c1 = 8 ∧ vp_in y0 (ln c1)) ∧ kd a0 = 7 ∧ Call u 132 [.int x1, .int 2] (up2 hi c1 (Int32.toNatClampNeg y0) x5) hl (fun r hi2 hl2 => vc u k 169 67 [.ref a0, .int x1, .int x2, .int x3, .int x4, .int x5, l6] (r.toList ++ [.ref (rf a0 0)]) hi2 hl2 K)) := rfl
set_option maxRecDepth 100000 in
theorem b_M_begin_67 {u : UV} {k : Nat} {a0 : Nat} {x1 : Int32} {x2 : Int32} {x3 : Int32} {x4 : Int32} {x5 : Int32} {l6 : Value} {y0 : Int32} {c1 : Nat} {hi : HI} {hl : HL} {K : Option Value → HI → HL → Prop} : vc u (k + 7) 169 67 [.ref a0, .int x1, .int x2, .int x3, .int x4, .int x5, l6] [.int y0, .ref c1] hi hl K = ((kd c1 = 8 ∧ vp_in y0 (ln c1)) ∧ kd a0 = 7 ∧ Call u 132 [.int x1, .int 6] (up2 hi c1 (Int32.toNatClampNeg y0) 0) hl (fun r hi2 hl2 => vc u k 169 79 [.ref a0, .int x1, .int x2, .int x3, .int x4, .int x5, l6] (r.toList ++ [.ref (rf a0 0)]) hi2 hl2 K)) := rfl
set_option maxRecDepth 100000 in
theorem b_M_begin_79 {u : UV} {k : Nat} {a0 : Nat} {x1 : Int32} {x2 : Int32} {x3 : Int32} {x4 : Int32} {x5 : Int32} {l6 : Value} {y0 : Int32} {c1 : Nat} {hi : HI} {hl : HL} {K : Option Value → HI → HL → Prop} : vc u (k + 7) 169 79 [.ref a0, .int x1, .int x2, .int x3, .int x4, .int x5, l6] [.int y0, .ref c1] hi hl K = ((kd c1 = 8 ∧ vp_in y0 (ln c1)) ∧ kd a0 = 7 ∧ Call u 132 [.int x1, .int 7] (up2 hi c1 (Int32.toNatClampNeg y0) 0) hl (fun r hi2 hl2 => vc u k 169 91 [.ref a0, .int x1, .int x2, .int x3, .int x4, .int x5, l6] (r.toList ++ [.ref (rf a0 0)]) hi2 hl2 K)) := rfl
set_option maxRecDepth 100000 in
theorem b_M_begin_91 {u : UV} {k : Nat} {a0 : Nat} {x1 : Int32} {x2 : Int32} {x3 : Int32} {x4 : Int32} {x5 : Int32} {l6 : Value} {y0 : Int32} {c1 : Nat} {hi : HI} {hl : HL} {K : Option Value → HI → HL → Prop} : vc u (k + 6) 169 91 [.ref a0, .int x1, .int x2, .int x3, .int x4, .int x5, l6] [.int y0, .ref c1] hi hl K = ((kd c1 = 8 ∧ vp_in y0 (ln c1)) ∧ (kd a0 = 7 ∧ 7 < 8) ∧ Call u 165 [.ref a0, .int x1, .int 511] (up2 hi c1 (Int32.toNatClampNeg y0) 0) hl (fun r hi2 hl2 => vc u k 169 101 [.ref a0, .int x1, .int x2, .int x3, .int x4, .int x5, l6] (r.toList ++ []) hi2 hl2 K)) := rfl
set_option maxRecDepth 100000 in
theorem b_M_begin_101 {u : UV} {k : Nat} {a0 : Nat} {x1 : Int32} {x2 : Int32} {x3 : Int32} {x4 : Int32} {x5 : Int32} {l6 : Value} {y0 : Int32} {hi : HI} {hl : HL} {K : Option Value → HI → HL → Prop} : vc u (k + 4) 169 101 [.ref a0, .int x1, .int x2, .int x3, .int x4, .int x5, l6] [.int y0] hi hl K = ((y0 ≤ x4 → vc u k 169 115 [.ref a0, .int x1, .int x2, .int x3, .int x4, .int x5, .int y0] [] hi hl K) ∧ (¬ y0 ≤ x4 → vc u k 169 110 [.ref a0, .int x1, .int x2, .int x3, .int x4, .int x5, .int y0] [] hi hl K)) := rfl
set_option maxRecDepth 100000 in
theorem b_M_begin_110 {u : UV} {k : Nat} {a0 : Nat} {x1 : Int32} {x2 : Int32} {x3 : Int32} {x4 : Int32} {x5 : Int32} {x6 : Int32} {hi : HI} {hl : HL} {K : Option Value → HI → HL → Prop} : vc u (k + 2) 169 110 [.ref a0, .int x1, .int x2, .int x3, .int x4, .int x5, .int x6] [] hi hl K = (vc u k 169 116 [.ref a0, .int x1, .int x2, .int x3, .int x4, .int x5, .int x6] [.int x5] hi hl K) := rfl
set_option maxRecDepth 100000 in
theorem b_M_begin_115 {u : UV} {k : Nat} {a0 : Nat} {x1 : Int32} {x2 : Int32} {x3 : Int32} {x4 : Int32} {x5 : Int32} {x6 : Int32} {hi : HI} {hl : HL} {K : Option Value → HI → HL → Prop} : vc u (k + 1) 169 115 [.ref a0, .int x1, .int x2, .int x3, .int x4, .int x5, .int x6] [] hi hl K = (vc u k 169 116 [.ref a0, .int x1, .int x2, .int x3, .int x4, .int x5, .int x6] [.int x3] hi hl K) := rfl
set_option maxRecDepth 100000 in
theorem b_M_begin_116 {u : UV} {k : Nat} {a0 : Nat} {x1 : Int32} {x2 : Int32} {x3 : Int32} {x4 : Int32} {x5 : Int32} {x6 : Int32} {y0 : Int32} {hi : HI} {hl : HL} {K : Option Value → HI → HL → Prop} : vc u (k + 7) 169 116 [.ref a0, .int x1, .int x2, .int x3, .int x4, .int x5, .int x6] [.int y0] hi hl K = (Wp u 169 39 [.ref a0, .int x1, .int x2, .int y0, .int (if (x4 : Int32) < (x6 : Int32) then x6 else x4), .int (x5 + 1), .int x6] [] hi hl K) := rfl
set_option maxRecDepth 100000 in
theorem b_M_begin_132 {u : UV} {k : Nat} {a0 : Nat} {x1 : Int32} {x2 : Int32} {x3 : Int32} {x4 : Int32} {x5 : Int32} {l6 : Value} {hi : HI} {hl : HL} {K : Option Value → HI → HL → Prop} : vc u (k + 2) 169 132 [.ref a0, .int x1, .int x2, .int x3, .int x4, .int x5, l6] [] hi hl K = (True ∧ K (some (.int x3)) hi hl) := rfl
