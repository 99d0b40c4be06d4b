/-! L5.blkL -/
set_option maxRecDepth 100000 in
theorem b_Law_law_18 {u : UV} {k : Nat} {a0 : Nat} {a1 : Nat} {a2 : Nat} {x3 : Int32} {hi : HI} {hl : HL} {K : Option Value → HI → HL → Prop} : vc u (k + 6) 228 18 [.ref a0, .ref a1, .ref a2, .int x3] [] hi hl K = (a0 = 99 ∧ (((Int32.ofNat (xN u)) - 6) < x3 → vc u k 228 1600 [.ref a0, .ref a1, .ref a2, .int x3] [] hi hl K) ∧ (¬ ((Int32.ofNat (xN u)) - 6) < x3 → vc u k 228 27 [.ref a0, .ref a1, .ref a2, .int x3] [] hi hl K)) := id rfl
set_option maxRecDepth 100000 in
theorem b_Law_law_27 {u : UV} {k : Nat} {a0 : Nat} {a1 : Nat} {a2 : Nat} {x3 : Int32} {hi : HI} {hl : HL} {K : Option Value → HI → HL → Prop} : vc u (k + 6) 228 27 [.ref a0, .ref a1, .ref a2, .int x3] [] hi hl K = ((a0 = 99 ∧ vp_in x3 (xN u)) ∧ (¬ (((xX u (Int32.toNatClampNeg x3)) &&& 63) : Int32) = 0 ∧ ¬ (((xX u (Int32.toNatClampNeg x3)) &&& 63) : Int32) = 1 ∧ ¬ (((xX u (Int32.toNatClampNeg x3)) &&& 63) : Int32) = 2 ∧ ¬ (((xX u (Int32.toNatClampNeg x3)) &&& 63) : Int32) = 3 ∧ ¬ (((xX u (Int32.toNatClampNeg x3)) &&& 63) : Int32) = 4 ∧ ¬ (((xX u (Int32.toNatClampNeg x3)) &&& 63) : Int32) = 5 ∧ ¬ (((xX u (Int32.toNatClampNeg x3)) &&& 63) : Int32) = 6 ∧ ¬ (((xX u (Int32.toNatClampNeg x3)) &&& 63) : Int32) = 7 ∧ ¬ (((xX u (Int32.toNatClampNeg x3)) &&& 63) : Int32) = 8 ∧ ¬ (((xX u (Int32.toNatClampNeg x3)) &&& 63) : Int32) = 9 ∧ ¬ (((xX u (Int32.toNatClampNeg x3)) &&& 63) : Int32) = 10 ∧ ¬ (((xX u (Int32.toNatClampNeg x3)) &&& 63) : Int32) = 11 ∧ ¬ (((xX u (Int32.toNatClampNeg x3)) &&& 63) : Int32) = 12 ∧ ¬ (((xX u (Int32.toNatClampNeg x3)) &&& 63) : Int32) = 13 ∧ ¬ (((xX u (Int32.toNatClampNeg x3)) &&& 63) : Int32) = 14 ∧ ¬ (((xX u (Int32.toNatClampNeg x3)) &&& 63) : Int32) = 15 ∧ ¬ (((xX u (Int32.toNatClampNeg x3)) &&& 63) : Int32) = 16 ∧ ¬ (((xX u (Int32.toNatClampNeg x3)) &&& 63) : Int32) = 17 ∧ ¬ (((xX u (Int32.toNatClampNeg x3)) &&& 63) : Int32) = 18 ∧ ¬ (((xX u (Int32.toNatClampNeg x3)) &&& 63) : Int32) = 19 ∧ ¬ (((xX u (Int32.toNatClampNeg x3)) &&& 63) : Int32) = 20 ∧ ¬ (((xX u (Int32.toNatClampNeg x3)) &&& 63) : Int32) = 21 ∧ ¬ (((xX u (Int32.toNatClampNeg x3)) &&& 63) : Int32) = 22 ∧ ¬ (((xX u (Int32.toNatClampNeg x3)) &&& 63) : Int32) = 23 ∧ ¬ (((xX u (Int32.toNatClampNeg x3)) &&& 63) : Int32) = 24 ∧ ¬ (((xX u (Int32.toNatClampNeg x3)) &&& 63) : Int32) = 25 ∧ ¬ (((xX u (Int32.toNatClampNeg x3)) &&& 63) : Int32) = 26 ∧ ¬ (((xX u (Int32.toNatClampNeg x3)) &&& 63) : Int32) = 27 ∧ ¬ (((xX u (Int32.toNatClampNeg x3)) &&& 63) : Int32) = 28 ∧ ¬ (((xX u (Int32.toNatClampNeg x3)) &&& 63) : Int32) = 29 ∧ ¬ (((xX u (Int32.toNatClampNeg x3)) &&& 63) : Int32) = 30 ∧ ¬ (((xX u (Int32.toNatClampNeg x3)) &&& 63) : Int32) = 31 ∧ ¬ (((xX u (Int32.toNatClampNeg x3)) &&& 63) : Int32) = 32 ∧ ¬ (((xX u (Int32.toNatClampNeg x3)) &&& 63) : Int32) = 33 ∧ ¬ (((xX u (Int32.toNatClampNeg x3)) &&& 63) : Int32) = 34 ∧ ¬ (((xX u (Int32.toNatClampNeg x3)) &&& 63) : Int32) = 35 ∧ ¬ (((xX u (Int32.toNatClampNeg x3)) &&& 63) : Int32) = 36 ∧ ¬ (((xX u (Int32.toNatClampNeg x3)) &&& 63) : Int32) = 37 ∧ ¬ (((xX u (Int32.toNatClampNeg x3)) &&& 63) : Int32) = 38 ∧ ¬ (((xX u (Int32.toNatClampNeg x3)) &&& 63) : Int32) = 39 ∧ ¬ (((xX u (Int32.toNatClampNeg x3)) &&& 63) : Int32) = 40 ∧ ¬ (((xX u (Int32.toNatClampNeg x3)) &&& 63) : Int32) = 41 ∧ ¬ (((xX u (Int32.toNatClampNeg x3)) &&& 63) : Int32) = 42 ∧ ¬ (((xX u (Int32.toNatClampNeg x3)) &&& 63) : Int32) = 43 ∧ ¬ (((xX u (Int32.toNatClampNeg x3)) &&& 63) : Int32) = 44 ∧ ¬ (((xX u (Int32.toNatClampNeg x3)) &&& 63) : Int32) = 45 ∧ ¬ (((xX u (Int32.toNatClampNeg x3)) &&& 63) : Int32) = 46 ∧ ¬ (((xX u (Int32.toNatClampNeg x3)) &&& 63) : Int32) = 47 ∧ True → vc u k 228 1594 [.ref a0, .ref a1, .ref a2, .int x3] [] hi hl K) ∧ ((((xX u (Int32.toNatClampNeg x3)) &&& 63) : Int32) = 0 → vc u k 228 240 [.ref a0, .ref a1, .ref a2, .int x3] [] hi hl K) ∧ ((((xX u (Int32.toNatClampNeg x3)) &&& 63) : Int32) = 1 → vc u k 228 283 [.ref a0, .ref a1, .ref a2, .int x3] [] hi hl K) ∧ ((((xX u (Int32.toNatClampNeg x3)) &&& 63) : Int32) = 2 → vc u k 228 316 [.ref a0, .ref a1, .ref a2, .int x3] [] hi hl K) ∧ ((((xX u (Int32.toNatClampNeg x3)) &&& 63) : Int32) = 3 → vc u k 228 339 [.ref a0, .ref a1, .ref a2, .int x3] [] hi hl K) ∧ ((((xX u (Int32.toNatClampNeg x3)) &&& 63) : Int32) = 4 → vc u k 228 362 [.ref a0, .ref a1, .ref a2, .int x3] [] hi hl K) ∧ ((((xX u (Int32.toNatClampNeg x3)) &&& 63) : Int32) = 5 → vc u k 228 395 [.ref a0, .ref a1, .ref a2, .int x3] [] hi hl K) ∧ ((((xX u (Int32.toNatClampNeg x3)) &&& 63) : Int32) = 6 → vc u k 228 438 [.ref a0, .ref a1, .ref a2, .int x3] [] hi hl K) ∧ ((((xX u (Int32.toNatClampNeg x3)) &&& 63) : Int32) = 7 → vc u k 228 471 [.ref a0, .ref a1, .ref a2, .int x3] [] hi hl K) ∧ ((((xX u (Int32.toNatClampNeg x3)) &&& 63) : Int32) = 8 → vc u k 228 514 [.ref a0, .ref a1, .ref a2, .int x3] [] hi hl K) ∧ ((((xX u (Int32.toNatClampNeg x3)) &&& 63) : Int32) = 9 → vc u k 228 547 [.ref a0, .ref a1, .ref a2, .int x3] [] hi hl K) ∧ ((((xX u (Int32.toNatClampNeg x3)) &&& 63) : Int32) = 10 → vc u k 228 580 [.ref a0, .ref a1, .ref a2, .int x3] [] hi hl K) ∧ ((((xX u (Int32.toNatClampNeg x3)) &&& 63) : Int32) = 11 → vc u k 228 613 [.ref a0, .ref a1, .ref a2, .int x3] [] hi hl K) ∧ ((((xX u (Int32.toNatClampNeg x3)) &&& 63) : Int32) = 12 → vc u k 228 636 [.ref a0, .ref a1, .ref a2, .int x3] [] hi hl K) ∧ ((((xX u (Int32.toNatClampNeg x3)) &&& 63) : Int32) = 13 → vc u k 228 659 [.ref a0, .ref a1, .ref a2, .int x3] [] hi hl K) ∧ ((((xX u (Int32.toNatClampNeg x3)) &&& 63) : Int32) = 14 → vc u k 228 672 [.ref a0, .ref a1, .ref a2, .int x3] [] hi hl K) ∧ ((((xX u (Int32.toNatClampNeg x3)) &&& 63) : Int32) = 15 → vc u k 228 685 [.ref a0, .ref a1, .ref a2, .int x3] [] hi hl K) ∧ ((((xX u (Int32.toNatClampNeg x3)) &&& 63) : Int32) = 16 → vc u k 228 708 [.ref a0, .ref a1, .ref a2, .int x3] [] hi hl K) ∧ ((((xX u (Int32.toNatClampNeg x3)) &&& 63) : Int32) = 17 → vc u k 228 741 [.ref a0, .ref a1, .ref a2, .int x3] [] hi hl K) ∧ ((((xX u (Int32.toNatClampNeg x3)) &&& 63) : Int32) = 18 → vc u k 228 774 [.ref a0, .ref a1, .ref a2, .int x3] [] hi hl K) ∧ ((((xX u (Int32.toNatClampNeg x3)) &&& 63) : Int32) = 19 → vc u k 228 797 [.ref a0, .ref a1, .ref a2, .int x3] [] hi hl K) ∧ ((((xX u (Int32.toNatClampNeg x3)) &&& 63) : Int32) = 20 → vc u k 228 810 [.ref a0, .ref a1, .ref a2, .int x3] [] hi hl K) ∧ ((((xX u (Int32.toNatClampNeg x3)) &&& 63) : Int32) = 21 → vc u k 228 823 [.ref a0, .ref a1, .ref a2, .int x3] [] hi hl K) ∧ ((((xX u (Int32.toNatClampNeg x3)) &&& 63) : Int32) = 22 → vc u k 228 856 [.ref a0, .ref a1, .ref a2, .int x3] [] hi hl K) ∧ ((((xX u (Int32.toNatClampNeg x3)) &&& 63) : Int32) = 23 → vc u k 228 879 [.ref a0, .ref a1, .ref a2, .int x3] [] hi hl K) ∧ ((((xX u (Int32.toNatClampNeg x3)) &&& 63) : Int32) = 24 → vc u k 228 902 [.ref a0, .ref a1, .ref a2, .int x3] [] hi hl K) ∧ ((((xX u (Int32.toNatClampNeg x3)) &&& 63) : Int32) = 25 → vc u k 228 925 [.ref a0, .ref a1, .ref a2, .int x3] [] hi hl K) ∧ ((((xX u (Int32.toNatClampNeg x3)) &&& 63) : Int32) = 26 → vc u k 228 948 [.ref a0, .ref a1, .ref a2, .int x3] [] hi hl K) ∧ ((((xX u (Int32.toNatClampNeg x3)) &&& 63) : Int32) = 27 → vc u k 228 971 [.ref a0, .ref a1, .ref a2, .int x3] [] hi hl K) ∧ ((((xX u (Int32.toNatClampNeg x3)) &&& 63) : Int32) = 28 → vc u k 228 994 [.ref a0, .ref a1, .ref a2, .int x3] [] hi hl K) ∧ ((((xX u (Int32.toNatClampNeg x3)) &&& 63) : Int32) = 29 → vc u k 228 1037 [.ref a0, .ref a1, .ref a2, .int x3] [] hi hl K) ∧ ((((xX u (Int32.toNatClampNeg x3)) &&& 63) : Int32) = 30 → vc u k 228 1060 [.ref a0, .ref a1, .ref a2, .int x3] [] hi hl K) ∧ ((((xX u (Int32.toNatClampNeg x3)) &&& 63) : Int32) = 31 → vc u k 228 1083 [.ref a0, .ref a1, .ref a2, .int x3] [] hi hl K) ∧ ((((xX u (Int32.toNatClampNeg x3)) &&& 63) : Int32) = 32 → vc u k 228 1096 [.ref a0, .ref a1, .ref a2, .int x3] [] hi hl K) ∧ ((((xX u (Int32.toNatClampNeg x3)) &&& 63) : Int32) = 33 → vc u k 228 1119 [.ref a0, .ref a1, .ref a2, .int x3] [] hi hl K) ∧ ((((xX u (Int32.toNatClampNeg x3)) &&& 63) : Int32) = 34 → vc u k 228 1172 [.ref a0, .ref a1, .ref a2, .int x3] [] hi hl K) ∧ ((((xX u (Int32.toNatClampNeg x3)) &&& 63) : Int32) = 35 → vc u k 228 1205 [.ref a0, .ref a1, .ref a2, .int x3] [] hi hl K) ∧ ((((xX u (Int32.toNatClampNeg x3)) &&& 63) : Int32) = 36 → vc u k 228 1218 [.ref a0, .ref a1, .ref a2, .int x3] [] hi hl K) ∧ ((((xX u (Int32.toNatClampNeg x3)) &&& 63) : Int32) = 37 → vc u k 228 1231 [.ref a0, .ref a1, .ref a2, .int x3] [] hi hl K) ∧ ((((xX u (Int32.toNatClampNeg x3)) &&& 63) : Int32) = 38 → vc u k 228 1274 [.ref a0, .ref a1, .ref a2, .int x3] [] hi hl K) ∧ ((((xX u (Int32.toNatClampNeg x3)) &&& 63) : Int32) = 39 → vc u k 228 1347 [.ref a0, .ref a1, .ref a2, .int x3] [] hi hl K) ∧ ((((xX u (Int32.toNatClampNeg x3)) &&& 63) : Int32) = 40 → vc u k 228 1410 [.ref a0, .ref a1, .ref a2, .int x3] [] hi hl K) ∧ ((((xX u (Int32.toNatClampNeg x3)) &&& 63) : Int32) = 41 → vc u k 228 1443 [.ref a0, .ref a1, .ref a2, .int x3] [] hi hl K) ∧ ((((xX u (Int32.toNatClampNeg x3)) &&& 63) : Int32) = 42 → vc u k 228 1476 [.ref a0, .ref a1, .ref a2, .int x3] [] hi hl K) ∧ ((((xX u (Int32.toNatClampNeg x3)) &&& 63) : Int32) = 43 → vc u k 228 1509 [.ref a0, .ref a1, .ref a2, .int x3] [] hi hl K) ∧ ((((xX u (Int32.toNatClampNeg x3)) &&& 63) : Int32) = 44 → vc u k 228 1522 [.ref a0, .ref a1, .ref a2, .int x3] [] hi hl K) ∧ ((((xX u (Int32.toNatClampNeg x3)) &&& 63) : Int32) = 45 → vc u k 228 1535 [.ref a0, .ref a1, .ref a2, .int x3] [] hi hl K) ∧ ((((xX u (Int32.toNatClampNeg x3)) &&& 63) : Int32) = 46 → vc u k 228 1548 [.ref a0, .ref a1, .ref a2, .int x3] [] hi hl K) ∧ ((((xX u (Int32.toNatClampNeg x3)) &&& 63) : Int32) = 47 → vc u k 228 1571 [.ref a0, .ref a1, .ref a2, .int x3] [] hi hl K) ∧ True) := id rfl
set_option maxRecDepth 100000 in
theorem b_Law_law_240 {u : UV} {k : Nat} {a0 : Nat} {a1 : Nat} {a2 : Nat} {x3 : Int32} {hi : HI} {hl : HL} {K : Option Value → HI → HL → Prop} : vc u (k + 17) 228 240 [.ref a0, .ref a1, .ref a2, .int x3] [] hi hl K = ((a0 = 99 ∧ vp_in (x3 + 1) (xN u)) ∧ (a0 = 99 ∧ vp_in (x3 + 2) (xN u)) ∧ (a0 = 99 ∧ vp_in (x3 + 3) (xN u)) ∧ (kd a1 = 6 ∧ 6 < 8) ∧ Call u 54 [.ref a1, .int (xX u (Int32.toNatClampNeg (x3 + 1))), .int (xX u (Int32.toNatClampNeg (x3 + 2))), .int (xX u (Int32.toNatClampNeg (x3 + 3)))] hi hl (fun r hi2 hl2 => vc u k 228 259 [.ref a0, .ref a1, .ref a2, .int x3] (r.toList ++ []) hi2 hl2 K)) := id rfl
set_option maxRecDepth 100000 in
theorem b_Law_law_259 {u : UV} {k : Nat} {a0 : Nat} {a1 : Nat} {a2 : Nat} {x3 : Int32} {y0 : Int32} {hi : HI} {hl : HL} {K : Option Value → HI → HL → Prop} : vc u (k + 18) 228 259 [.ref a0, .ref a1, .ref a2, .int x3] [.int y0] hi hl K = ((a0 = 99 ∧ vp_in (x3 + 1) (xN u)) ∧ (a0 = 99 ∧ vp_in (x3 + 2) (xN u)) ∧ (a0 = 99 ∧ vp_in (x3 + 3) (xN u)) ∧ (kd a2 = 7 ∧ 7 < 8) ∧ Call u 124 [.ref a2, .int (xX u (Int32.toNatClampNeg (x3 + 1))), .int (xX u (Int32.toNatClampNeg (x3 + 2))), .int (xX u (Int32.toNatClampNeg (x3 + 3)))] hi hl (fun r hi2 hl2 => vc u k 228 279 [.ref a0, .ref a1, .ref a2, .int x3] (r.toList ++ []) hi2 hl2 K)) := id rfl
set_option maxRecDepth 100000 in
theorem b_Law_law_279 {u : UV} {k : Nat} {a0 : Nat} {a1 : Nat} {a2 : Nat} {x3 : Int32} {y0 : Int32} {hi : HI} {hl : HL} {K : Option Value → HI → HL → Prop} : vc u (k + 2) 228 279 [.ref a0, .ref a1, .ref a2, .int x3] [.int y0] hi hl K = (vc u k 228 1594 [.ref a0, .ref a1, .ref a2, .int x3] [] hi hl K) := id rfl
set_option maxRecDepth 100000 in
theorem b_Law_law_283 {u : UV} {k : Nat} {a0 : Nat} {a1 : Nat} {a2 : Nat} {x3 : Int32} {hi : HI} {hl : HL} {K : Option Value → HI → HL → Prop} : vc u (k + 12) 228 283 [.ref a0, .ref a1, .ref a2, .int x3] [] hi hl K = ((a0 = 99 ∧ vp_in (x3 + 1) (xN u)) ∧ (a0 = 99 ∧ vp_in (x3 + 2) (xN u)) ∧ (kd a1 = 6 ∧ 6 < 8) ∧ Call u 55 [.ref a1, .int (xX u (Int32.toNatClampNeg (x3 + 1))), .int (xX u (Int32.toNatClampNeg (x3 + 2)))] hi hl (fun r hi2 hl2 => vc u k 228 297 [.ref a0, .ref a1, .ref a2, .int x3] (r.toList ++ []) hi2 hl2 K)) := id rfl
set_option maxRecDepth 100000 in
theorem b_Law_law_297 {u : UV} {k : Nat} {a0 : Nat} {a1 : Nat} {a2 : Nat} {x3 : Int32} {y0 : Int32} {hi : HI} {hl : HL} {K : Option Value → HI → HL → Prop} : vc u (k + 13) 228 297 [.ref a0, .ref a1, .ref a2, .int x3] [.int y0] hi hl K = ((a0 = 99 ∧ vp_in (x3 + 1) (xN u)) ∧ (a0 = 99 ∧ vp_in (x3 + 2) (xN u)) ∧ (kd a2 = 7 ∧ 7 < 8) ∧ Call u 125 [.ref a2, .int (xX u (Int32.toNatClampNeg (x3 + 1))), .int (xX u (Int32.toNatClampNeg (x3 + 2)))] hi hl (fun r hi2 hl2 => vc u k 228 312 [.ref a0, .ref a1, .ref a2, .int x3] (r.toList ++ []) hi2 hl2 K)) := id rfl
set_option maxRecDepth 100000 in
theorem b_Law_law_312 {u : UV} {k : Nat} {a0 : Nat} {a1 : Nat} {a2 : Nat} {x3 : Int32} {y0 : Int32} {hi : HI} {hl : HL} {K : Option Value → HI → HL → Prop} : vc u (k + 2) 228 312 [.ref a0, .ref a1, .ref a2, .int x3] [.int y0] hi hl K = (vc u k 228 1594 [.ref a0, .ref a1, .ref a2, .int x3] [] hi hl K) := id rfl
set_option maxRecDepth 100000 in
theorem b_Law_law_316 {u : UV} {k : Nat} {a0 : Nat} {a1 : Nat} {a2 : Nat} {x3 : Int32} {hi : HI} {hl : HL} {K : Option Value → HI → HL → Prop} : vc u (k + 7) 228 316 [.ref a0, .ref a1, .ref a2, .int x3] [] hi hl K = ((a0 = 99 ∧ vp_in (x3 + 1) (xN u)) ∧ (kd a1 = 6 ∧ 6 < 8) ∧ Call u 56 [.ref a1, .int (xX u (Int32.toNatClampNeg (x3 + 1)))] hi hl (fun r hi2 hl2 => vc u k 228 325 [.ref a0, .ref a1, .ref a2, .int x3] (r.toList ++ []) hi2 hl2 K)) := id rfl
set_option maxRecDepth 100000 in
theorem b_Law_law_325 {u : UV} {k : Nat} {a0 : Nat} {a1 : Nat} {a2 : Nat} {x3 : Int32} {y0 : Int32} {hi : HI} {hl : HL} {K : Option Value → HI → HL → Prop} : vc u (k + 8) 228 325 [.ref a0, .ref a1, .ref a2, .int x3] [.int y0] hi hl K = ((a0 = 99 ∧ vp_in (x3 + 1) (xN u)) ∧ (kd a2 = 7 ∧ 7 < 8) ∧ Call u 127 [.ref a2, .int (xX u (Int32.toNatClampNeg (x3 + 1)))] hi hl (fun r hi2 hl2 => vc u k 228 335 [.ref a0, .ref a1, .ref a2, .int x3] (r.toList ++ []) hi2 hl2 K)) := id rfl
set_option maxRecDepth 100000 in
theorem b_Law_law_335 {u : UV} {k : Nat} {a0 : Nat} {a1 : Nat} {a2 : Nat} {x3 : Int32} {y0 : Int32} {hi : HI} {hl : HL} {K : Option Value → HI → HL → Prop} : vc u (k + 2) 228 335 [.ref a0, .ref a1, .ref a2, .int x3] [.int y0] hi hl K = (vc u k 228 1594 [.ref a0, .ref a1, .ref a2, .int x3] [] hi hl K) := id rfl
set_option maxRecDepth 100000 in
theorem b_Law_law_339 {u : UV} {k : Nat} {a0 : Nat} {a1 : Nat} {a2 : Nat} {x3 : Int32} {hi : HI} {hl : HL} {K : Option Value → HI → HL → Prop} : vc u (k + 7) 228 339 [.ref a0, .ref a1, .ref a2, .int x3] [] hi hl K = ((a0 = 99 ∧ vp_in (x3 + 1) (xN u)) ∧ (kd a1 = 6 ∧ 6 < 8) ∧ Call u 57 [.ref a1, .int (xX u (Int32.toNatClampNeg (x3 + 1)))] hi hl (fun r hi2 hl2 => vc u k 228 348 [.ref a0, .ref a1, .ref a2, .int x3] (r.toList ++ []) hi2 hl2 K)) := id rfl
set_option maxRecDepth 100000 in
theorem b_Law_law_348 {u : UV} {k : Nat} {a0 : Nat} {a1 : Nat} {a2 : Nat} {x3 : Int32} {y0 : Int32} {hi : HI} {hl : HL} {K : Option Value → HI → HL → Prop} : vc u (k + 8) 228 348 [.ref a0, .ref a1, .ref a2, .int x3] [.int y0] hi hl K = ((a0 = 99 ∧ vp_in (x3 + 1) (xN u)) ∧ (kd a2 = 7 ∧ 7 < 8) ∧ Call u 129 [.ref a2, .int (xX u (Int32.toNatClampNeg (x3 + 1)))] hi hl (fun r hi2 hl2 => vc u k 228 358 [.ref a0, .ref a1, .ref a2, .int x3] (r.toList ++ []) hi2 hl2 K)) := id rfl
set_option maxRecDepth 100000 in
theorem b_Law_law_358 {u : UV} {k : Nat} {a0 : Nat} {a1 : Nat} {a2 : Nat} {x3 : Int32} {y0 : Int32} {hi : HI} {hl : HL} {K : Option Value → HI → HL → Prop} : vc u (k + 2) 228 358 [.ref a0, .ref a1, .ref a2, .int x3] [.int y0] hi hl K = (vc u k 228 1594 [.ref a0, .ref a1, .ref a2, .int x3] [] hi hl K) := id rfl
set_option maxRecDepth 100000 in
theorem b_Law_law_362 {u : UV} {k : Nat} {a0 : Nat} {a1 : Nat} {a2 : Nat} {x3 : Int32} {hi : HI} {hl : HL} {K : Option Value → HI → HL → Prop} : vc u (k + 12) 228 362 [.ref a0, .ref a1, .ref a2, .int x3] [] hi hl K = ((a0 = 99 ∧ vp_in (x3 + 1) (xN u)) ∧ (a0 = 99 ∧ vp_in (x3 + 2) (xN u)) ∧ (kd a1 = 6 ∧ 6 < 8) ∧ Call u 58 [.ref a1, .int (xX u (Int32.toNatClampNeg (x3 + 1))), .int (xX u (Int32.toNatClampNeg (x3 + 2)))] hi hl (fun r hi2 hl2 => vc u k 228 376 [.ref a0, .ref a1, .ref a2, .int x3] (r.toList ++ []) hi2 hl2 K)) := id rfl
set_option maxRecDepth 100000 in
theorem b_Law_law_376 {u : UV} {k : Nat} {a0 : Nat} {a1 : Nat} {a2 : Nat} {x3 : Int32} {y0 : Int32} {hi : HI} {hl : HL} {K : Option Value → HI → HL → Prop} : vc u (k + 13) 228 376 [.ref a0, .ref a1, .ref a2, .int x3] [.int y0] hi hl K = ((a0 = 99 ∧ vp_in (x3 + 1) (xN u)) ∧ (a0 = 99 ∧ vp_in (x3 + 2) (xN u)) ∧ (kd a2 = 7 ∧ 7 < 8) ∧ Call u 130 [.ref a2, .int (xX u (Int32.toNatClampNeg (x3 + 1))), .int (xX u (Int32.toNatClampNeg (x3 + 2)))] hi hl (fun r hi2 hl2 => vc u k 228 391 [.ref a0, .ref a1, .ref a2, .int x3] (r.toList ++ []) hi2 hl2 K)) := id rfl
set_option maxRecDepth 100000 in
theorem b_Law_law_391 {u : UV} {k : Nat} {a0 : Nat} {a1 : Nat} {a2 : Nat} {x3 : Int32} {y0 : Int32} {hi : HI} {hl : HL} {K : Option Value → HI → HL → Prop} : vc u (k + 2) 228 391 [.ref a0, .ref a1, .ref a2, .int x3] [.int y0] hi hl K = (vc u k 228 1594 [.ref a0, .ref a1, .ref a2, .int x3] [] hi hl K) := id rfl
set_option maxRecDepth 100000 in
theorem b_Law_law_395 {u : UV} {k : Nat} {a0 : Nat} {a1 : Nat} {a2 : Nat} {x3 : Int32} {hi : HI} {hl : HL} {K : Option Value → HI → HL → Prop} : vc u (k + 17) 228 395 [.ref a0, .ref a1, .ref a2, .int x3] [] hi hl K = ((a0 = 99 ∧ vp_in (x3 + 1) (xN u)) ∧ (a0 = 99 ∧ vp_in (x3 + 2) (xN u)) ∧ (a0 = 99 ∧ vp_in (x3 + 3) (xN u)) ∧ (kd a1 = 6 ∧ 6 < 8) ∧ Call u 60 [.ref a1, .int (xX u (Int32.toNatClampNeg (x3 + 1))), .int (xX u (Int32.toNatClampNeg (x3 + 2))), .int (xX u (Int32.toNatClampNeg (x3 + 3)))] hi hl (fun r hi2 hl2 => vc u k 228 414 [.ref a0, .ref a1, .ref a2, .int x3] (r.toList ++ []) hi2 hl2 K)) := id rfl
set_option maxRecDepth 100000 in
theorem b_Law_law_414 {u : UV} {k : Nat} {a0 : Nat} {a1 : Nat} {a2 : Nat} {x3 : Int32} {y0 : Int32} {hi : HI} {hl : HL} {K : Option Value → HI → HL → Prop} : vc u (k + 18) 228 414 [.ref a0, .ref a1, .ref a2, .int x3] [.int y0] hi hl K = ((a0 = 99 ∧ vp_in (x3 + 1) (xN u)) ∧ (a0 = 99 ∧ vp_in (x3 + 2) (xN u)) ∧ (a0 = 99 ∧ vp_in (x3 + 3) (xN u)) ∧ (kd a2 = 7 ∧ 7 < 8) ∧ Call u 137 [.ref a2, .int (xX u (Int32.toNatClampNeg (x3 + 1))), .int (xX u (Int32.toNatClampNeg (x3 + 2))), .int (xX u (Int32.toNatClampNeg (x3 + 3)))] hi hl (fun r hi2 hl2 => vc u k 228 434 [.ref a0, .ref a1, .ref a2, .int x3] (r.toList ++ []) hi2 hl2 K)) := id rfl
set_option maxRecDepth 100000 in
theorem b_Law_law_434 {u : UV} {k : Nat} {a0 : Nat} {a1 : Nat} {a2 : Nat} {x3 : Int32} {y0 : Int32} {hi : HI} {hl : HL} {K : Option Value → HI → HL → Prop} : vc u (k + 2) 228 434 [.ref a0, .ref a1, .ref a2, .int x3] [.int y0] hi hl K = (vc u k 228 1594 [.ref a0, .ref a1, .ref a2, .int x3] [] hi hl K) := id rfl
set_option maxRecDepth 100000 in
theorem b_Law_law_438 {u : UV} {k : Nat} {a0 : Nat} {a1 : Nat} {a2 : Nat} {x3 : Int32} {hi : HI} {hl : HL} {K : Option Value → HI → HL → Prop} : vc u (k + 12) 228 438 [.ref a0, .ref a1, .ref a2, .int x3] [] hi hl K = ((a0 = 99 ∧ vp_in (x3 + 1) (xN u)) ∧ (a0 = 99 ∧ vp_in (x3 + 2) (xN u)) ∧ (kd a1 = 6 ∧ 6 < 8) ∧ Call u 61 [.ref a1, .int (xX u (Int32.toNatClampNeg (x3 + 1))), .int (xX u (Int32.toNatClampNeg (x3 + 2)))] hi hl (fun r hi2 hl2 => vc u k 228 452 [.ref a0, .ref a1, .ref a2, .int x3] (r.toList ++ []) hi2 hl2 K)) := id rfl
set_option maxRecDepth 100000 in
theorem b_Law_law_452 {u : UV} {k : Nat} {a0 : Nat} {a1 : Nat} {a2 : Nat} {x3 : Int32} {y0 : Int32} {hi : HI} {hl : HL} {K : Option Value → HI → HL → Prop} : vc u (k + 13) 228 452 [.ref a0, .ref a1, .ref a2, .int x3] [.int y0] hi hl K = ((a0 = 99 ∧ vp_in (x3 + 1) (xN u)) ∧ (a0 = 99 ∧ vp_in (x3 + 2) (xN u)) ∧ (kd a2 = 7 ∧ 7 < 8) ∧ Call u 141 [.ref a2, .int (xX u (Int32.toNatClampNeg (x3 + 1))), .int (xX u (Int32.toNatClampNeg (x3 + 2)))] hi hl (fun r hi2 hl2 => vc u k 228 467 [.ref a0, .ref a1, .ref a2, .int x3] (r.toList ++ []) hi2 hl2 K)) := id rfl
set_option maxRecDepth 100000 in
theorem b_Law_law_467 {u : UV} {k : Nat} {a0 : Nat} {a1 : Nat} {a2 : Nat} {x3 : Int32} {y0 : Int32} {hi : HI} {hl : HL} {K : Option Value → HI → HL → Prop} : vc u (k + 2) 228 467 [.ref a0, .ref a1, .ref a2, .int x3] [.int y0] hi hl K = (vc u k 228 1594 [.ref a0, .ref a1, .ref a2, .int x3] [] hi hl K) := id rfl
set_option maxRecDepth 100000 in
theorem b_Law_law_471 {u : UV} {k : Nat} {a0 : Nat} {a1 : Nat} {a2 : Nat} {x3 : Int32} {hi : HI} {hl : HL} {K : Option Value → HI → HL → Prop} : vc u (k + 17) 228 471 [.ref a0, .ref a1, .ref a2, .int x3] [] hi hl K = ((a0 = 99 ∧ vp_in (x3 + 1) (xN u)) ∧ (a0 = 99 ∧ vp_in (x3 + 2) (xN u)) ∧ (a0 = 99 ∧ vp_in (x3 + 3) (xN u)) ∧ (kd a1 = 6 ∧ 6 < 8) ∧ Call u 62 [.ref a1, .int (xX u (Int32.toNatClampNeg (x3 + 1))), .int (xX u (Int32.toNatClampNeg (x3 + 2))), .int (xX u (Int32.toNatClampNeg (x3 + 3)))] hi hl (fun r hi2 hl2 => vc u k 228 490 [.ref a0, .ref a1, .ref a2, .int x3] (r.toList ++ []) hi2 hl2 K)) := id rfl
set_option maxRecDepth 100000 in
theorem b_Law_law_490 {u : UV} {k : Nat} {a0 : Nat} {a1 : Nat} {a2 : Nat} {x3 : Int32} {y0 : Int32} {hi : HI} {hl : HL} {K : Option Value → HI → HL → Prop} : vc u (k + 18) 228 490 [.ref a0, .ref a1, .ref a2, .int x3] [.int y0] hi hl K = ((a0 = 99 ∧ vp_in (x3 + 1) (xN u)) ∧ (a0 = 99 ∧ vp_in (x3 + 2) (xN u)) ∧ (a0 = 99 ∧ vp_in (x3 + 3) (xN u)) ∧ (kd a2 = 7 ∧ 7 < 8) ∧ Call u 142 [.ref a2, .int (xX u (Int32.toNatClampNeg (x3 + 1))), .int (xX u (Int32.toNatClampNeg (x3 + 2))), .int (xX u (Int32.toNatClampNeg (x3 + 3)))] hi hl (fun r hi2 hl2 => vc u k 228 510 [.ref a0, .ref a1, .ref a2, .int x3] (r.toList ++ []) hi2 hl2 K)) := id rfl
set_option maxRecDepth 100000 in
theorem b_Law_law_510 {u : UV} {k : Nat} {a0 : Nat} {a1 : Nat} {a2 : Nat} {x3 : Int32} {y0 : Int32} {hi : HI} {hl : HL} {K : Option Value → HI → HL → Prop} : vc u (k + 2) 228 510 [.ref a0, .ref a1, .ref a2, .int x3] [.int y0] hi hl K = (vc u k 228 1594 [.ref a0, .ref a1, .ref a2, .int x3] [] hi hl K) := id rfl
set_option maxRecDepth 100000 in
theorem b_Law_law_514 {u : UV} {k : Nat} {a0 : Nat} {a1 : Nat} {a2 : Nat} {x3 : Int32} {hi : HI} {hl : HL} {K : Option Value → HI → HL → Prop} : vc u (k + 12) 228 514 [.ref a0, .ref a1, .ref a2, .int x3] [] hi hl K = ((a0 = 99 ∧ vp_in (x3 + 1) (xN u)) ∧ (a0 = 99 ∧ vp_in (x3 + 2) (xN u)) ∧ (kd a1 = 6 ∧ 6 < 8) ∧ Call u 64 [.ref a1, .int (xX u (Int32.toNatClampNeg (x3 + 1))), .int (xX u (Int32.toNatClampNeg (x3 + 2)))] hi hl (fun r hi2 hl2 => vc u k 228 528 [.ref a0, .ref a1, .ref a2, .int x3] (r.toList ++ []) hi2 hl2 K)) := id rfl
set_option maxRecDepth 100000 in
theorem b_Law_law_528 {u : UV} {k : Nat} {a0 : Nat} {a1 : Nat} {a2 : Nat} {x3 : Int32} {y0 : Int32} {hi : HI} {hl : HL} {K : Option Value → HI → HL → Prop} : vc u (k + 13) 228 528 [.ref a0, .ref a1, .ref a2, .int x3] [.int y0] hi hl K = ((a0 = 99 ∧ vp_in (x3 + 1) (xN u)) ∧ (a0 = 99 ∧ vp_in (x3 + 2) (xN u)) ∧ (kd a2 = 7 ∧ 7 < 8) ∧ Call u 143 [.ref a2, .int (xX u (Int32.toNatClampNeg (x3 + 1))), .int (xX u (Int32.toNatClampNeg (x3 + 2)))] hi hl (fun r hi2 hl2 => vc u k 228 543 [.ref a0, .ref a1, .ref a2, .int x3] (r.toList ++ []) hi2 hl2 K)) := id rfl
set_option maxRecDepth 100000 in
theorem b_Law_law_543 {u : UV} {k : Nat} {a0 : Nat} {a1 : Nat} {a2 : Nat} {x3 : Int32} {y0 : Int32} {hi : HI} {hl : HL} {K : Option Value → HI → HL → Prop} : vc u (k + 2) 228 543 [.ref a0, .ref a1, .ref a2, .int x3] [.int y0] hi hl K = (vc u k 228 1594 [.ref a0, .ref a1, .ref a2, .int x3] [] hi hl K) := id rfl
set_option maxRecDepth 100000 in
theorem b_Law_law_547 {u : UV} {k : Nat} {a0 : Nat} {a1 : Nat} {a2 : Nat} {x3 : Int32} {hi : HI} {hl : HL} {K : Option Value → HI → HL → Prop} : vc u (k + 12) 228 547 [.ref a0, .ref a1, .ref a2, .int x3] [] hi hl K = ((a0 = 99 ∧ vp_in (x3 + 1) (xN u)) ∧ (a0 = 99 ∧ vp_in (x3 + 2) (xN u)) ∧ (kd a1 = 6 ∧ 6 < 8) ∧ Call u 65 [.ref a1, .int (xX u (Int32.toNatClampNeg (x3 + 1))), .int (xX u (Int32.toNatClampNeg (x3 + 2)))] hi hl (fun r hi2 hl2 => vc u k 228 561 [.ref a0, .ref a1, .ref a2, .int x3] (r.toList ++ []) hi2 hl2 K)) := id rfl
set_option maxRecDepth 100000 in
theorem b_Law_law_561 {u : UV} {k : Nat} {a0 : Nat} {a1 : Nat} {a2 : Nat} {x3 : Int32} {y0 : Int32} {hi : HI} {hl : HL} {K : Option Value → HI → HL → Prop} : vc u (k + 13) 228 561 [.ref a0, .ref a1, .ref a2, .int x3] [.int y0] hi hl K = ((a0 = 99 ∧ vp_in (x3 + 1) (xN u)) ∧ (a0 = 99 ∧ vp_in (x3 + 2) (xN u)) ∧ (kd a2 = 7 ∧ 7 < 8) ∧ Call u 145 [.ref a2, .int (xX u (Int32.toNatClampNeg (x3 + 1))), .int (xX u (Int32.toNatClampNeg (x3 + 2)))] hi hl (fun r hi2 hl2 => vc u k 228 576 [.ref a0, .ref a1, .ref a2, .int x3] (r.toList ++ []) hi2 hl2 K)) := id rfl
set_option maxRecDepth 100000 in
theorem b_Law_law_576 {u : UV} {k : Nat} {a0 : Nat} {a1 : Nat} {a2 : Nat} {x3 : Int32} {y0 : Int32} {hi : HI} {hl : HL} {K : Option Value → HI → HL → Prop} : vc u (k + 2) 228 576 [.ref a0, .ref a1, .ref a2, .int x3] [.int y0] hi hl K = (vc u k 228 1594 [.ref a0, .ref a1, .ref a2, .int x3] [] hi hl K) := id rfl
set_option maxRecDepth 100000 in
theorem b_Law_law_580 {u : UV} {k : Nat} {a0 : Nat} {a1 : Nat} {a2 : Nat} {x3 : Int32} {hi : HI} {hl : HL} {K : Option Value → HI → HL → Prop} : vc u (k + 12) 228 580 [.ref a0, .ref a1, .ref a2, .int x3] [] hi hl K = ((a0 = 99 ∧ vp_in (x3 + 1) (xN u)) ∧ (a0 = 99 ∧ vp_in (x3 + 2) (xN u)) ∧ (kd a1 = 6 ∧ 6 < 8) ∧ Call u 66 [.ref a1, .int (xX u (Int32.toNatClampNeg (x3 + 1))), .int (xX u (Int32.toNatClampNeg (x3 + 2)))] hi hl (fun r hi2 hl2 => vc u k 228 594 [.ref a0, .ref a1, .ref a2, .int x3] (r.toList ++ []) hi2 hl2 K)) := id rfl
set_option maxRecDepth 100000 in
theorem b_Law_law_594 {u : UV} {k : Nat} {a0 : Nat} {a1 : Nat} {a2 : Nat} {x3 : Int32} {y0 : Int32} {hi : HI} {hl : HL} {K : Option Value → HI → HL → Prop} : vc u (k + 13) 228 594 [.ref a0, .ref a1, .ref a2, .int x3] [.int y0] hi hl K = ((a0 = 99 ∧ vp_in (x3 + 1) (xN u)) ∧ (a0 = 99 ∧ vp_in (x3 + 2) (xN u)) ∧ (kd a2 = 7 ∧ 7 < 8) ∧ Call u 146 [.ref a2, .int (xX u (Int32.toNatClampNeg (x3 + 1))), .int (xX u (Int32.toNatClampNeg (x3 + 2)))] hi hl (fun r hi2 hl2 => vc u k 228 609 [.ref a0, .ref a1, .ref a2, .int x3] (r.toList ++ []) hi2 hl2 K)) := id rfl
set_option maxRecDepth 100000 in
theorem b_Law_law_609 {u : UV} {k : Nat} {a0 : Nat} {a1 : Nat} {a2 : Nat} {x3 : Int32} {y0 : Int32} {hi : HI} {hl : HL} {K : Option Value → HI → HL → Prop} : vc u (k + 2) 228 609 [.ref a0, .ref a1, .ref a2, .int x3] [.int y0] hi hl K = (vc u k 228 1594 [.ref a0, .ref a1, .ref a2, .int x3] [] hi hl K) := id rfl
set_option maxRecDepth 100000 in
theorem b_Law_law_613 {u : UV} {k : Nat} {a0 : Nat} {a1 : Nat} {a2 : Nat} {x3 : Int32} {hi : HI} {hl : HL} {K : Option Value → HI → HL → Prop} : vc u (k + 7) 228 613 [.ref a0, .ref a1, .ref a2, .int x3] [] hi hl K = ((a0 = 99 ∧ vp_in (x3 + 1) (xN u)) ∧ (kd a1 = 6 ∧ 6 < 8) ∧ Call u 67 [.ref a1, .int (xX u (Int32.toNatClampNeg (x3 + 1)))] hi hl (fun r hi2 hl2 => vc u k 228 622 [.ref a0, .ref a1, .ref a2, .int x3] (r.toList ++ []) hi2 hl2 K)) := id rfl
set_option maxRecDepth 100000 in
theorem b_Law_law_622 {u : UV} {k : Nat} {a0 : Nat} {a1 : Nat} {a2 : Nat} {x3 : Int32} {y0 : Int32} {hi : HI} {hl : HL} {K : Option Value → HI → HL → Prop} : vc u (k + 8) 228 622 [.ref a0, .ref a1, .ref a2, .int x3] [.int y0] hi hl K = ((a0 = 99 ∧ vp_in (x3 + 1) (xN u)) ∧ (kd a2 = 7 ∧ 7 < 8) ∧ Call u 147 [.ref a2, .int (xX u (Int32.toNatClampNeg (x3 + 1)))] hi hl (fun r hi2 hl2 => vc u k 228 632 [.ref a0, .ref a1, .ref a2, .int x3] (r.toList ++ []) hi2 hl2 K)) := id rfl
set_option maxRecDepth 100000 in
theorem b_Law_law_632 {u : UV} {k : Nat} {a0 : Nat} {a1 : Nat} {a2 : Nat} {x3 : Int32} {y0 : Int32} {hi : HI} {hl : HL} {K : Option Value → HI → HL → Prop} : vc u (k + 2) 228 632 [.ref a0, .ref a1, .ref a2, .int x3] [.int y0] hi hl K = (vc u k 228 1594 [.ref a0, .ref a1, .ref a2, .int x3] [] hi hl K) := id rfl
set_option maxRecDepth 100000 in
theorem b_Law_law_636 {u : UV} {k : Nat} {a0 : Nat} {a1 : Nat} {a2 : Nat} {x3 : Int32} {hi : HI} {hl : HL} {K : Option Value → HI → HL → Prop} : vc u (k + 7) 228 636 [.ref a0, .ref a1, .ref a2, .int x3] [] hi hl K = ((a0 = 99 ∧ vp_in (x3 + 1) (xN u)) ∧ (kd a1 = 6 ∧ 6 < 8) ∧ Call u 68 [.ref a1, .int (xX u (Int32.toNatClampNeg (x3 + 1)))] hi hl (fun r hi2 hl2 => vc u k 228 645 [.ref a0, .ref a1, .ref a2, .int x3] (r.toList ++ []) hi2 hl2 K)) := id rfl
set_option maxRecDepth 100000 in
theorem b_Law_law_645 {u : UV} {k : Nat} {a0 : Nat} {a1 : Nat} {a2 : Nat} {x3 : Int32} {y0 : Int32} {hi : HI} {hl : HL} {K : Option Value → HI → HL → Prop} : vc u (k + 8) 228 645 [.ref a0, .ref a1, .ref a2, .int x3] [.int y0] hi hl K = ((a0 = 99 ∧ vp_in (x3 + 1) (xN u)) ∧ (kd a2 = 7 ∧ 7 < 8) ∧ Call u 154 [.ref a2, .int (xX u (Int32.toNatClampNeg (x3 + 1)))] hi hl (fun r hi2 hl2 => vc u k 228 655 [.ref a0, .ref a1, .ref a2, .int x3] (r.toList ++ []) hi2 hl2 K)) := id rfl
set_option maxRecDepth 100000 in
theorem b_Law_law_655 {u : UV} {k : Nat} {a0 : Nat} {a1 : Nat} {a2 : Nat} {x3 : Int32} {y0 : Int32} {hi : HI} {hl : HL} {K : Option Value → HI → HL → Prop} : vc u (k + 2) 228 655 [.ref a0, .ref a1, .ref a2, .int x3] [.int y0] hi hl K = (vc u k 228 1594 [.ref a0, .ref a1, .ref a2, .int x3] [] hi hl K) := id rfl
set_option maxRecDepth 100000 in
theorem b_Law_law_659 {u : UV} {k : Nat} {a0 : Nat} {a1 : Nat} {a2 : Nat} {x3 : Int32} {hi : HI} {hl : HL} {K : Option Value → HI → HL → Prop} : vc u (k + 2) 228 659 [.ref a0, .ref a1, .ref a2, .int x3] [] hi hl K = ((kd a1 = 6 ∧ 6 < 8) ∧ Call u 69 [.ref a1] hi hl (fun r hi2 hl2 => vc u k 228 663 [.ref a0, .ref a1, .ref a2, .int x3] (r.toList ++ []) hi2 hl2 K)) := id rfl
set_option maxRecDepth 100000 in
theorem b_Law_law_663 {u : UV} {k : Nat} {a0 : Nat} {a1 : Nat} {a2 : Nat} {x3 : Int32} {y0 : Int32} {hi : HI} {hl : HL} {K : Option Value → HI → HL → Prop} : vc u (k + 3) 228 663 [.ref a0, .ref a1, .ref a2, .int x3] [.int y0] hi hl K = ((kd a2 = 7 ∧ 7 < 8) ∧ Call u 155 [.ref a2] hi hl (fun r hi2 hl2 => vc u k 228 668 [.ref a0, .ref a1, .ref a2, .int x3] (r.toList ++ []) hi2 hl2 K)) := id rfl
set_option maxRecDepth 100000 in
theorem b_Law_law_668 {u : UV} {k : Nat} {a0 : Nat} {a1 : Nat} {a2 : Nat} {x3 : Int32} {y0 : Int32} {hi : HI} {hl : HL} {K : Option Value → HI → HL → Prop} : vc u (k + 2) 228 668 [.ref a0, .ref a1, .ref a2, .int x3] [.int y0] hi hl K = (vc u k 228 1594 [.ref a0, .ref a1, .ref a2, .int x3] [] hi hl K) := id rfl
set_option maxRecDepth 100000 in
theorem b_Law_law_672 {u : UV} {k : Nat} {a0 : Nat} {a1 : Nat} {a2 : Nat} {x3 : Int32} {hi : HI} {hl : HL} {K : Option Value → HI → HL → Prop} : vc u (k + 2) 228 672 [.ref a0, .ref a1, .ref a2, .int x3] [] hi hl K = ((kd a1 = 6 ∧ 6 < 8) ∧ Call u 70 [.ref a1] hi hl (fun r hi2 hl2 => vc u k 228 676 [.ref a0, .ref a1, .ref a2, .int x3] (r.toList ++ []) hi2 hl2 K)) := id rfl
set_option maxRecDepth 100000 in
theorem b_Law_law_676 {u : UV} {k : Nat} {a0 : Nat} {a1 : Nat} {a2 : Nat} {x3 : Int32} {y0 : Int32} {hi : HI} {hl : HL} {K : Option Value → HI → HL → Prop} : vc u (k + 3) 228 676 [.ref a0, .ref a1, .ref a2, .int x3] [.int y0] hi hl K = ((kd a2 = 7 ∧ 7 < 8) ∧ Call u 157 [.ref a2] hi hl (fun r hi2 hl2 => vc u k 228 681 [.ref a0, .ref a1, .ref a2, .int x3] (r.toList ++ []) hi2 hl2 K)) := id rfl
set_option maxRecDepth 100000 in
theorem b_Law_law_681 {u : UV} {k : Nat} {a0 : Nat} {a1 : Nat} {a2 : Nat} {x3 : Int32} {y0 : Int32} {hi : HI} {hl : HL} {K : Option Value → HI → HL → Prop} : vc u (k + 2) 228 681 [.ref a0, .ref a1, .ref a2, .int x3] [.int y0] hi hl K = (vc u k 228 1594 [.ref a0, .ref a1, .ref a2, .int x3] [] hi hl K) := id rfl
set_option maxRecDepth 100000 in
theorem b_Law_law_685 {u : UV} {k : Nat} {a0 : Nat} {a1 : Nat} {a2 : Nat} {x3 : Int32} {hi : HI} {hl : HL} {K : Option Value → HI → HL → Prop} : vc u (k + 7) 228 685 [.ref a0, .ref a1, .ref a2, .int x3] [] hi hl K = ((a0 = 99 ∧ vp_in (x3 + 1) (xN u)) ∧ (kd a1 = 6 ∧ 6 < 8) ∧ Call u 71 [.ref a1, .int (xX u (Int32.toNatClampNeg (x3 + 1)))] hi hl (fun r hi2 hl2 => vc u k 228 694 [.ref a0, .ref a1, .ref a2, .int x3] (r.toList ++ []) hi2 hl2 K)) := id rfl
set_option maxRecDepth 100000 in
theorem b_Law_law_694 {u : UV} {k : Nat} {a0 : Nat} {a1 : Nat} {a2 : Nat} {x3 : Int32} {y0 : Int32} {hi : HI} {hl : HL} {K : Option Value → HI → HL → Prop} : vc u (k + 8) 228 694 [.ref a0, .ref a1, .ref a2, .int x3] [.int y0] hi hl K = ((a0 = 99 ∧ vp_in (x3 + 1) (xN u)) ∧ (kd a2 = 7 ∧ 7 < 8) ∧ Call u 158 [.ref a2, .int (xX u (Int32.toNatClampNeg (x3 + 1)))] hi hl (fun r hi2 hl2 => vc u k 228 704 [.ref a0, .ref a1, .ref a2, .int x3] (r.toList ++ []) hi2 hl2 K)) := id rfl
set_option maxRecDepth 100000 in
theorem b_Law_law_704 {u : UV} {k : Nat} {a0 : Nat} {a1 : Nat} {a2 : Nat} {x3 : Int32} {y0 : Int32} {hi : HI} {hl : HL} {K : Option Value → HI → HL → Prop} : vc u (k + 2) 228 704 [.ref a0, .ref a1, .ref a2, .int x3] [.int y0] hi hl K = (vc u k 228 1594 [.ref a0, .ref a1, .ref a2, .int x3] [] hi hl K) := id rfl
set_option maxRecDepth 100000 in
theorem b_Law_law_708 {u : UV} {k : Nat} {a0 : Nat} {a1 : Nat} {a2 : Nat} {x3 : Int32} {hi : HI} {hl : HL} {K : Option Value → HI → HL → Prop} : vc u (k + 12) 228 708 [.ref a0, .ref a1, .ref a2, .int x3] [] hi hl K = ((a0 = 99 ∧ vp_in (x3 + 1) (xN u)) ∧ (a0 = 99 ∧ vp_in (x3 + 2) (xN u)) ∧ (kd a1 = 6 ∧ 6 < 8) ∧ Call u 72 [.ref a1, .int (xX u (Int32.toNatClampNeg (x3 + 1))), .int (xX u (Int32.toNatClampNeg (x3 + 2)))] hi hl (fun r hi2 hl2 => vc u k 228 722 [.ref a0, .ref a1, .ref a2, .int x3] (r.toList ++ []) hi2 hl2 K)) := id rfl
set_option maxRecDepth 100000 in
theorem b_Law_law_722 {u : UV} {k : Nat} {a0 : Nat} {a1 : Nat} {a2 : Nat} {x3 : Int32} {y0 : Int32} {hi : HI} {hl : HL} {K : Option Value → HI → HL → Prop} : vc u (k + 13) 228 722 [.ref a0, .ref a1, .ref a2, .int x3] [.int y0] hi hl K = ((a0 = 99 ∧ vp_in (x3 + 1) (xN u)) ∧ (a0 = 99 ∧ vp_in (x3 + 2) (xN u)) ∧ (kd a2 = 7 ∧ 7 < 8) ∧ Call u 160 [.ref a2, .int (xX u (Int32.toNatClampNeg (x3 + 1))), .int (xX u (Int32.toNatClampNeg (x3 + 2)))] hi hl (fun r hi2 hl2 => vc u k 228 737 [.ref a0, .ref a1, .ref a2, .int x3] (r.toList ++ []) hi2 hl2 K)) := id rfl
set_option maxRecDepth 100000 in
theorem b_Law_law_737 {u : UV} {k : Nat} {a0 : Nat} {a1 : Nat} {a2 : Nat} {x3 : Int32} {y0 : Int32} {hi : HI} {hl : HL} {K : Option Value → HI → HL → Prop} : vc u (k + 2) 228 737 [.ref a0, .ref a1, .ref a2, .int x3] [.int y0] hi hl K = (vc u k 228 1594 [.ref a0, .ref a1, .ref a2, .int x3] [] hi hl K) := id rfl
set_option maxRecDepth 100000 in
theorem b_Law_law_741 {u : UV} {k : Nat} {a0 : Nat} {a1 : Nat} {a2 : Nat} {x3 : Int32} {hi : HI} {hl : HL} {K : Option Value → HI → HL → Prop} : vc u (k + 12) 228 741 [.ref a0, .ref a1, .ref a2, .int x3] [] hi hl K = ((a0 = 99 ∧ vp_in (x3 + 1) (xN u)) ∧ (a0 = 99 ∧ vp_in (x3 + 2) (xN u)) ∧ (kd a1 = 6 ∧ 6 < 8) ∧ Call u 73 [.ref a1, .int (xX u (Int32.toNatClampNeg (x3 + 1))), .int (xX u (Int32.toNatClampNeg (x3 + 2)))] hi hl (fun r hi2 hl2 => vc u k 228 755 [.ref a0, .ref a1, .ref a2, .int x3] (r.toList ++ []) hi2 hl2 K)) := id rfl
set_option maxRecDepth 100000 in
theorem b_Law_law_755 {u : UV} {k : Nat} {a0 : Nat} {a1 : Nat} {a2 : Nat} {x3 : Int32} {y0 : Int32} {hi : HI} {hl : HL} {K : Option Value → HI → HL → Prop} : vc u (k + 13) 228 755 [.ref a0, .ref a1, .ref a2, .int x3] [.int y0] hi hl K = ((a0 = 99 ∧ vp_in (x3 + 1) (xN u)) ∧ (a0 = 99 ∧ vp_in (x3 + 2) (xN u)) ∧ (kd a2 = 7 ∧ 7 < 8) ∧ Call u 161 [.ref a2, .int (xX u (Int32.toNatClampNeg (x3 + 1))), .int (xX u (Int32.toNatClampNeg (x3 + 2)))] hi hl (fun r hi2 hl2 => vc u k 228 770 [.ref a0, .ref a1, .ref a2, .int x3] (r.toList ++ []) hi2 hl2 K)) := id rfl
set_option maxRecDepth 100000 in
theorem b_Law_law_770 {u : UV} {k : Nat} {a0 : Nat} {a1 : Nat} {a2 : Nat} {x3 : Int32} {y0 : Int32} {hi : HI} {hl : HL} {K : Option Value → HI → HL → Prop} : vc u (k + 2) 228 770 [.ref a0, .ref a1, .ref a2, .int x3] [.int y0] hi hl K = (vc u k 228 1594 [.ref a0, .ref a1, .ref a2, .int x3] [] hi hl K) := id rfl
set_option maxRecDepth 100000 in
theorem b_Law_law_774 {u : UV} {k : Nat} {a0 : Nat} {a1 : Nat} {a2 : Nat} {x3 : Int32} {hi : HI} {hl : HL} {K : Option Value → HI → HL → Prop} : vc u (k + 7) 228 774 [.ref a0, .ref a1, .ref a2, .int x3] [] hi hl K = ((a0 = 99 ∧ vp_in (x3 + 1) (xN u)) ∧ (kd a1 = 6 ∧ 6 < 8) ∧ Call u 74 [.ref a1, .int (xX u (Int32.toNatClampNeg (x3 + 1)))] hi hl (fun r hi2 hl2 => vc u k 228 783 [.ref a0, .ref a1, .ref a2, .int x3] (r.toList ++ []) hi2 hl2 K)) := id rfl
set_option maxRecDepth 100000 in
theorem b_Law_law_783 {u : UV} {k : Nat} {a0 : Nat} {a1 : Nat} {a2 : Nat} {x3 : Int32} {y0 : Int32} {hi : HI} {hl : HL} {K : Option Value → HI → HL → Prop} : vc u (k + 8) 228 783 [.ref a0, .ref a1, .ref a2, .int x3] [.int y0] hi hl K = ((a0 = 99 ∧ vp_in (x3 + 1) (xN u)) ∧ (kd a2 = 7 ∧ 7 < 8) ∧ Call u 162 [.ref a2, .int (xX u (Int32.toNatClampNeg (x3 + 1)))] hi hl (fun r hi2 hl2 => vc u k 228 793 [.ref a0, .ref a1, .ref a2, .int x3] (r.toList ++ []) hi2 hl2 K)) := id rfl
set_option maxRecDepth 100000 in
theorem b_Law_law_793 {u : UV} {k : Nat} {a0 : Nat} {a1 : Nat} {a2 : Nat} {x3 : Int32} {y0 : Int32} {hi : HI} {hl : HL} {K : Option Value → HI → HL → Prop} : vc u (k + 2) 228 793 [.ref a0, .ref a1, .ref a2, .int x3] [.int y0] hi hl K = (vc u k 228 1594 [.ref a0, .ref a1, .ref a2, .int x3] [] hi hl K) := id rfl
set_option maxRecDepth 100000 in
theorem b_Law_law_797 {u : UV} {k : Nat} {a0 : Nat} {a1 : Nat} {a2 : Nat} {x3 : Int32} {hi : HI} {hl : HL} {K : Option Value → HI → HL → Prop} : vc u (k + 2) 228 797 [.ref a0, .ref a1, .ref a2, .int x3] [] hi hl K = ((kd a1 = 6 ∧ 6 < 8) ∧ Call u 75 [.ref a1] hi hl (fun r hi2 hl2 => vc u k 228 801 [.ref a0, .ref a1, .ref a2, .int x3] (r.toList ++ []) hi2 hl2 K)) := id rfl
set_option maxRecDepth 100000 in
theorem b_Law_law_801 {u : UV} {k : Nat} {a0 : Nat} {a1 : Nat} {a2 : Nat} {x3 : Int32} {y0 : Int32} {hi : HI} {hl : HL} {K : Option Value → HI → HL → Prop} : vc u (k + 3) 228 801 [.ref a0, .ref a1, .ref a2, .int x3] [.int y0] hi hl K = ((kd a2 = 7 ∧ 7 < 8) ∧ Call u 166 [.ref a2] hi hl (fun r hi2 hl2 => vc u k 228 806 [.ref a0, .ref a1, .ref a2, .int x3] (r.toList ++ []) hi2 hl2 K)) := id rfl
set_option maxRecDepth 100000 in
theorem b_Law_law_806 {u : UV} {k : Nat} {a0 : Nat} {a1 : Nat} {a2 : Nat} {x3 : Int32} {y0 : Int32} {hi : HI} {hl : HL} {K : Option Value → HI → HL → Prop} : vc u (k + 2) 228 806 [.ref a0, .ref a1, .ref a2, .int x3] [.int y0] hi hl K = (vc u k 228 1594 [.ref a0, .ref a1, .ref a2, .int x3] [] hi hl K) := id rfl
set_option maxRecDepth 100000 in
theorem b_Law_law_810 {u : UV} {k : Nat} {a0 : Nat} {a1 : Nat} {a2 : Nat} {x3 : Int32} {hi : HI} {hl : HL} {K : Option Value → HI → HL → Prop} : vc u (k + 2) 228 810 [.ref a0, .ref a1, .ref a2, .int x3] [] hi hl K = ((kd a1 = 6 ∧ 6 < 8) ∧ Call u 76 [.ref a1] hi hl (fun r hi2 hl2 => vc u k 228 814 [.ref a0, .ref a1, .ref a2, .int x3] (r.toList ++ []) hi2 hl2 K)) := id rfl
set_option maxRecDepth 100000 in
theorem b_Law_law_814 {u : UV} {k : Nat} {a0 : Nat} {a1 : Nat} {a2 : Nat} {x3 : Int32} {y0 : Int32} {hi : HI} {hl : HL} {K : Option Value → HI → HL → Prop} : vc u (k + 3) 228 814 [.ref a0, .ref a1, .ref a2, .int x3] [.int y0] hi hl K = ((kd a2 = 7 ∧ 7 < 8) ∧ Call u 167 [.ref a2] hi hl (fun r hi2 hl2 => vc u k 228 819 [.ref a0, .ref a1, .ref a2, .int x3] (r.toList ++ []) hi2 hl2 K)) := id rfl
set_option maxRecDepth 100000 in
theorem b_Law_law_819 {u : UV} {k : Nat} {a0 : Nat} {a1 : Nat} {a2 : Nat} {x3 : Int32} {y0 : Int32} {hi : HI} {hl : HL} {K : Option Value → HI → HL → Prop} : vc u (k + 2) 228 819 [.ref a0, .ref a1, .ref a2, .int x3] [.int y0] hi hl K = (vc u k 228 1594 [.ref a0, .ref a1, .ref a2, .int x3] [] hi hl K) := id rfl
set_option maxRecDepth 100000 in
theorem b_Law_law_823 {u : UV} {k : Nat} {a0 : Nat} {a1 : Nat} {a2 : Nat} {x3 : Int32} {hi : HI} {hl : HL} {K : Option Value → HI → HL → Prop} : vc u (k + 12) 228 823 [.ref a0, .ref a1, .ref a2, .int x3] [] hi hl K = ((a0 = 99 ∧ vp_in (x3 + 1) (xN u)) ∧ (a0 = 99 ∧ vp_in (x3 + 2) (xN u)) ∧ (kd a1 = 6 ∧ 6 < 8) ∧ Call u 77 [.ref a1, .int (xX u (Int32.toNatClampNeg (x3 + 1))), .int (xX u (Int32.toNatClampNeg (x3 + 2)))] hi hl (fun r hi2 hl2 => vc u k 228 837 [.ref a0, .ref a1, .ref a2, .int x3] (r.toList ++ []) hi2 hl2 K)) := id rfl
set_option maxRecDepth 100000 in
theorem b_Law_law_837 {u : UV} {k : Nat} {a0 : Nat} {a1 : Nat} {a2 : Nat} {x3 : Int32} {y0 : Int32} {hi : HI} {hl : HL} {K : Option Value → HI → HL → Prop} : vc u (k + 13) 228 837 [.ref a0, .ref a1, .ref a2, .int x3] [.int y0] hi hl K = ((a0 = 99 ∧ vp_in (x3 + 1) (xN u)) ∧ (a0 = 99 ∧ vp_in (x3 + 2) (xN u)) ∧ (kd a2 = 7 ∧ 7 < 8) ∧ Call u 168 [.ref a2, .int (xX u (Int32.toNatClampNeg (x3 + 1))), .int (xX u (Int32.toNatClampNeg (x3 + 2)))] hi hl (fun r hi2 hl2 => vc u k 228 852 [.ref a0, .ref a1, .ref a2, .int x3] (r.toList ++ []) hi2 hl2 K)) := id rfl
set_option maxRecDepth 100000 in
theorem b_Law_law_852 {u : UV} {k : Nat} {a0 : Nat} {a1 : Nat} {a2 : Nat} {x3 : Int32} {y0 : Int32} {hi : HI} {hl : HL} {K : Option Value → HI → HL → Prop} : vc u (k + 2) 228 852 [.ref a0, .ref a1, .ref a2, .int x3] [.int y0] hi hl K = (vc u k 228 1594 [.ref a0, .ref a1, .ref a2, .int x3] [] hi hl K) := id rfl
set_option maxRecDepth 100000 in
theorem b_Law_law_856 {u : UV} {k : Nat} {a0 : Nat} {a1 : Nat} {a2 : Nat} {x3 : Int32} {hi : HI} {hl : HL} {K : Option Value → HI → HL → Prop} : vc u (k + 7) 228 856 [.ref a0, .ref a1, .ref a2, .int x3] [] hi hl K = ((a0 = 99 ∧ vp_in (x3 + 1) (xN u)) ∧ (kd a1 = 6 ∧ 6 < 8) ∧ Call u 79 [.ref a1, .int (xX u (Int32.toNatClampNeg (x3 + 1)))] hi hl (fun r hi2 hl2 => vc u k 228 865 [.ref a0, .ref a1, .ref a2, .int x3] (r.toList ++ []) hi2 hl2 K)) := id rfl
set_option maxRecDepth 100000 in
theorem b_Law_law_865 {u : UV} {k : Nat} {a0 : Nat} {a1 : Nat} {a2 : Nat} {x3 : Int32} {y0 : Int32} {hi : HI} {hl : HL} {K : Option Value → HI → HL → Prop} : vc u (k + 8) 228 865 [.ref a0, .ref a1, .ref a2, .int x3] [.int y0] hi hl K = ((a0 = 99 ∧ vp_in (x3 + 1) (xN u)) ∧ (kd a2 = 7 ∧ 7 < 8) ∧ Call u 169 [.ref a2, .int (xX u (Int32.toNatClampNeg (x3 + 1)))] hi hl (fun r hi2 hl2 => vc u k 228 875 [.ref a0, .ref a1, .ref a2, .int x3] (r.toList ++ []) hi2 hl2 K)) := id rfl
set_option maxRecDepth 100000 in
theorem b_Law_law_875 {u : UV} {k : Nat} {a0 : Nat} {a1 : Nat} {a2 : Nat} {x3 : Int32} {y0 : Int32} {hi : HI} {hl : HL} {K : Option Value → HI → HL → Prop} : vc u (k + 2) 228 875 [.ref a0, .ref a1, .ref a2, .int x3] [.int y0] hi hl K = (vc u k 228 1594 [.ref a0, .ref a1, .ref a2, .int x3] [] hi hl K) := id rfl
set_option maxRecDepth 100000 in
theorem b_Law_law_879 {u : UV} {k : Nat} {a0 : Nat} {a1 : Nat} {a2 : Nat} {x3 : Int32} {hi : HI} {hl : HL} {K : Option Value → HI → HL → Prop} : vc u (k + 7) 228 879 [.ref a0, .ref a1, .ref a2, .int x3] [] hi hl K = ((a0 = 99 ∧ vp_in (x3 + 1) (xN u)) ∧ (kd a1 = 6 ∧ 6 < 8) ∧ Call u 80 [.ref a1, .int (xX u (Int32.toNatClampNeg (x3 + 1)))] hi hl (fun r hi2 hl2 => vc u k 228 888 [.ref a0, .ref a1, .ref a2, .int x3] (r.toList ++ []) hi2 hl2 K)) := id rfl
set_option maxRecDepth 100000 in
theorem b_Law_law_888 {u : UV} {k : Nat} {a0 : Nat} {a1 : Nat} {a2 : Nat} {x3 : Int32} {y0 : Int32} {hi : HI} {hl : HL} {K : Option Value → HI → HL → Prop} : vc u (k + 8) 228 888 [.ref a0, .ref a1, .ref a2, .int x3] [.int y0] hi hl K = ((a0 = 99 ∧ vp_in (x3 + 1) (xN u)) ∧ (kd a2 = 7 ∧ 7 < 8) ∧ Call u 170 [.ref a2, .int (xX u (Int32.toNatClampNeg (x3 + 1)))] hi hl (fun r hi2 hl2 => vc u k 228 898 [.ref a0, .ref a1, .ref a2, .int x3] (r.toList ++ []) hi2 hl2 K)) := id rfl
set_option maxRecDepth 100000 in
theorem b_Law_law_898 {u : UV} {k : Nat} {a0 : Nat} {a1 : Nat} {a2 : Nat} {x3 : Int32} {y0 : Int32} {hi : HI} {hl : HL} {K : Option Value → HI → HL → Prop} : vc u (k + 2) 228 898 [.ref a0, .ref a1, .ref a2, .int x3] [.int y0] hi hl K = (vc u k 228 1594 [.ref a0, .ref a1, .ref a2, .int x3] [] hi hl K) := id rfl
set_option maxRecDepth 100000 in
theorem b_Law_law_902 {u : UV} {k : Nat} {a0 : Nat} {a1 : Nat} {a2 : Nat} {x3 : Int32} {hi : HI} {hl : HL} {K : Option Value → HI → HL → Prop} : vc u (k + 7) 228 902 [.ref a0, .ref a1, .ref a2, .int x3] [] hi hl K = ((a0 = 99 ∧ vp_in (x3 + 1) (xN u)) ∧ (kd a1 = 6 ∧ 6 < 8) ∧ Call u 81 [.ref a1, .int (xX u (Int32.toNatClampNeg (x3 + 1)))] hi hl (fun r hi2 hl2 => vc u k 228 911 [.ref a0, .ref a1, .ref a2, .int x3] (r.toList ++ []) hi2 hl2 K)) := id rfl
set_option maxRecDepth 100000 in
theorem b_Law_law_911 {u : UV} {k : Nat} {a0 : Nat} {a1 : Nat} {a2 : Nat} {x3 : Int32} {y0 : Int32} {hi : HI} {hl : HL} {K : Option Value → HI → HL → Prop} : vc u (k + 8) 228 911 [.ref a0, .ref a1, .ref a2, .int x3] [.int y0] hi hl K = ((a0 = 99 ∧ vp_in (x3 + 1) (xN u)) ∧ (kd a2 = 7 ∧ 7 < 8) ∧ Call u 171 [.ref a2, .int (xX u (Int32.toNatClampNeg (x3 + 1)))] hi hl (fun r hi2 hl2 => vc u k 228 921 [.ref a0, .ref a1, .ref a2, .int x3] (r.toList ++ []) hi2 hl2 K)) := id rfl
set_option maxRecDepth 100000 in
theorem b_Law_law_921 {u : UV} {k : Nat} {a0 : Nat} {a1 : Nat} {a2 : Nat} {x3 : Int32} {y0 : Int32} {hi : HI} {hl : HL} {K : Option Value → HI → HL → Prop} : vc u (k + 2) 228 921 [.ref a0, .ref a1, .ref a2, .int x3] [.int y0] hi hl K = (vc u k 228 1594 [.ref a0, .ref a1, .ref a2, .int x3] [] hi hl K) := id rfl
set_option maxRecDepth 100000 in
theorem b_Law_law_925 {u : UV} {k : Nat} {a0 : Nat} {a1 : Nat} {a2 : Nat} {x3 : Int32} {hi : HI} {hl : HL} {K : Option Value → HI → HL → Prop} : vc u (k + 7) 228 925 [.ref a0, .ref a1, .ref a2, .int x3] [] hi hl K = ((a0 = 99 ∧ vp_in (x3 + 1) (xN u)) ∧ (kd a1 = 6 ∧ 6 < 8) ∧ Call u 82 [.ref a1, .int (xX u (Int32.toNatClampNeg (x3 + 1)))] hi hl (fun r hi2 hl2 => vc u k 228 934 [.ref a0, .ref a1, .ref a2, .int x3] (r.toList ++ []) hi2 hl2 K)) := id rfl
set_option maxRecDepth 100000 in
theorem b_Law_law_934 {u : UV} {k : Nat} {a0 : Nat} {a1 : Nat} {a2 : Nat} {x3 : Int32} {y0 : Int32} {hi : HI} {hl : HL} {K : Option Value → HI → HL → Prop} : vc u (k + 8) 228 934 [.ref a0, .ref a1, .ref a2, .int x3] [.int y0] hi hl K = ((a0 = 99 ∧ vp_in (x3 + 1) (xN u)) ∧ (kd a2 = 7 ∧ 7 < 8) ∧ Call u 172 [.ref a2, .int (xX u (Int32.toNatClampNeg (x3 + 1)))] hi hl (fun r hi2 hl2 => vc u k 228 944 [.ref a0, .ref a1, .ref a2, .int x3] (r.toList ++ []) hi2 hl2 K)) := id rfl
set_option maxRecDepth 100000 in
theorem b_Law_law_944 {u : UV} {k : Nat} {a0 : Nat} {a1 : Nat} {a2 : Nat} {x3 : Int32} {y0 : Int32} {hi : HI} {hl : HL} {K : Option Value → HI → HL → Prop} : vc u (k + 2) 228 944 [.ref a0, .ref a1, .ref a2, .int x3] [.int y0] hi hl K = (vc u k 228 1594 [.ref a0, .ref a1, .ref a2, .int x3] [] hi hl K) := id rfl
set_option maxRecDepth 100000 in
theorem b_Law_law_948 {u : UV} {k : Nat} {a0 : Nat} {a1 : Nat} {a2 : Nat} {x3 : Int32} {hi : HI} {hl : HL} {K : Option Value → HI → HL → Prop} : vc u (k + 7) 228 948 [.ref a0, .ref a1, .ref a2, .int x3] [] hi hl K = ((a0 = 99 ∧ vp_in (x3 + 1) (xN u)) ∧ (kd a1 = 6 ∧ 6 < 8) ∧ Call u 83 [.ref a1, .int (xX u (Int32.toNatClampNeg (x3 + 1)))] hi hl (fun r hi2 hl2 => vc u k 228 957 [.ref a0, .ref a1, .ref a2, .int x3] (r.toList ++ []) hi2 hl2 K)) := id rfl
set_option maxRecDepth 100000 in
theorem b_Law_law_957 {u : UV} {k : Nat} {a0 : Nat} {a1 : Nat} {a2 : Nat} {x3 : Int32} {y0 : Int32} {hi : HI} {hl : HL} {K : Option Value → HI → HL → Prop} : vc u (k + 8) 228 957 [.ref a0, .ref a1, .ref a2, .int x3] [.int y0] hi hl K = ((a0 = 99 ∧ vp_in (x3 + 1) (xN u)) ∧ (kd a2 = 7 ∧ 7 < 8) ∧ Call u 174 [.ref a2, .int (xX u (Int32.toNatClampNeg (x3 + 1)))] hi hl (fun r hi2 hl2 => vc u k 228 967 [.ref a0, .ref a1, .ref a2, .int x3] (r.toList ++ []) hi2 hl2 K)) := id rfl
set_option maxRecDepth 100000 in
theorem b_Law_law_967 {u : UV} {k : Nat} {a0 : Nat} {a1 : Nat} {a2 : Nat} {x3 : Int32} {y0 : Int32} {hi : HI} {hl : HL} {K : Option Value → HI → HL → Prop} : vc u (k + 2) 228 967 [.ref a0, .ref a1, .ref a2, .int x3] [.int y0] hi hl K = (vc u k 228 1594 [.ref a0, .ref a1, .ref a2, .int x3] [] hi hl K) := id rfl
set_option maxRecDepth 100000 in
theorem b_Law_law_971 {u : UV} {k : Nat} {a0 : Nat} {a1 : Nat} {a2 : Nat} {x3 : Int32} {hi : HI} {hl : HL} {K : Option Value → HI → HL → Prop} : vc u (k + 7) 228 971 [.ref a0, .ref a1, .ref a2, .int x3] [] hi hl K = ((a0 = 99 ∧ vp_in (x3 + 1) (xN u)) ∧ (kd a1 = 6 ∧ 6 < 8) ∧ Call u 84 [.ref a1, .int (xX u (Int32.toNatClampNeg (x3 + 1)))] hi hl (fun r hi2 hl2 => vc u k 228 980 [.ref a0, .ref a1, .ref a2, .int x3] (r.toList ++ []) hi2 hl2 K)) := id rfl
set_option maxRecDepth 100000 in
theorem b_Law_law_980 {u : UV} {k : Nat} {a0 : Nat} {a1 : Nat} {a2 : Nat} {x3 : Int32} {y0 : Int32} {hi : HI} {hl : HL} {K : Option Value → HI → HL → Prop} : vc u (k + 8) 228 980 [.ref a0, .ref a1, .ref a2, .int x3] [.int y0] hi hl K = ((a0 = 99 ∧ vp_in (x3 + 1) (xN u)) ∧ (kd a2 = 7 ∧ 7 < 8) ∧ Call u 175 [.ref a2, .int (xX u (Int32.toNatClampNeg (x3 + 1)))] hi hl (fun r hi2 hl2 => vc u k 228 990 [.ref a0, .ref a1, .ref a2, .int x3] (r.toList ++ []) hi2 hl2 K)) := id rfl
set_option maxRecDepth 100000 in
theorem b_Law_law_990 {u : UV} {k : Nat} {a0 : Nat} {a1 : Nat} {a2 : Nat} {x3 : Int32} {y0 : Int32} {hi : HI} {hl : HL} {K : Option Value → HI → HL → Prop} : vc u (k + 2) 228 990 [.ref a0, .ref a1, .ref a2, .int x3] [.int y0] hi hl K = (vc u k 228 1594 [.ref a0, .ref a1, .ref a2, .int x3] [] hi hl K) := id rfl
set_option maxRecDepth 100000 in
theorem b_Law_law_994 {u : UV} {k : Nat} {a0 : Nat} {a1 : Nat} {a2 : Nat} {x3 : Int32} {hi : HI} {hl : HL} {K : Option Value → HI → HL → Prop} : vc u (k + 17) 228 994 [.ref a0, .ref a1, .ref a2, .int x3] [] hi hl K = ((a0 = 99 ∧ vp_in (x3 + 1) (xN u)) ∧ (a0 = 99 ∧ vp_in (x3 + 2) (xN u)) ∧ (a0 = 99 ∧ vp_in (x3 + 3) (xN u)) ∧ (kd a1 = 6 ∧ 6 < 8) ∧ Call u 85 [.ref a1, .int (xX u (Int32.toNatClampNeg (x3 + 1))), .int (xX u (Int32.toNatClampNeg (x3 + 2))), .int (xX u (Int32.toNatClampNeg (x3 + 3)))] hi hl (fun r hi2 hl2 => vc u k 228 1013 [.ref a0, .ref a1, .ref a2, .int x3] (r.toList ++ []) hi2 hl2 K)) := id rfl
set_option maxRecDepth 100000 in
theorem b_Law_law_1013 {u : UV} {k : Nat} {a0 : Nat} {a1 : Nat} {a2 : Nat} {x3 : Int32} {y0 : Int32} {hi : HI} {hl : HL} {K : Option Value → HI → HL → Prop} : vc u (k + 18) 228 1013 [.ref a0, .ref a1, .ref a2, .int x3] [.int y0] hi hl K = ((a0 = 99 ∧ vp_in (x3 + 1) (xN u)) ∧ (a0 = 99 ∧ vp_in (x3 + 2) (xN u)) ∧ (a0 = 99 ∧ vp_in (x3 + 3) (xN u)) ∧ (kd a2 = 7 ∧ 7 < 8) ∧ Call u 176 [.ref a2, .int (xX u (Int32.toNatClampNeg (x3 + 1))), .int (xX u (Int32.toNatClampNeg (x3 + 2))), .int (xX u (Int32.toNatClampNeg (x3 + 3)))] hi hl (fun r hi2 hl2 => vc u k 228 1033 [.ref a0, .ref a1, .ref a2, .int x3] (r.toList ++ []) hi2 hl2 K)) := id rfl
set_option maxRecDepth 100000 in
theorem b_Law_law_1033 {u : UV} {k : Nat} {a0 : Nat} {a1 : Nat} {a2 : Nat} {x3 : Int32} {y0 : Int32} {hi : HI} {hl : HL} {K : Option Value → HI → HL → Prop} : vc u (k + 2) 228 1033 [.ref a0, .ref a1, .ref a2, .int x3] [.int y0] hi hl K = (vc u k 228 1594 [.ref a0, .ref a1, .ref a2, .int x3] [] hi hl K) := id rfl
set_option maxRecDepth 100000 in
theorem b_Law_law_1037 {u : UV} {k : Nat} {a0 : Nat} {a1 : Nat} {a2 : Nat} {x3 : Int32} {hi : HI} {hl : HL} {K : Option Value → HI → HL → Prop} : vc u (k + 7) 228 1037 [.ref a0, .ref a1, .ref a2, .int x3] [] hi hl K = ((a0 = 99 ∧ vp_in (x3 + 1) (xN u)) ∧ (kd a1 = 6 ∧ 6 < 8) ∧ Call u 86 [.ref a1, .int (xX u (Int32.toNatClampNeg (x3 + 1)))] hi hl (fun r hi2 hl2 => vc u k 228 1046 [.ref a0, .ref a1, .ref a2, .int x3] (r.toList ++ []) hi2 hl2 K)) := id rfl
set_option maxRecDepth 100000 in
theorem b_Law_law_1046 {u : UV} {k : Nat} {a0 : Nat} {a1 : Nat} {a2 : Nat} {x3 : Int32} {y0 : Int32} {hi : HI} {hl : HL} {K : Option Value → HI → HL → Prop} : vc u (k + 8) 228 1046 [.ref a0, .ref a1, .ref a2, .int x3] [.int y0] hi hl K = ((a0 = 99 ∧ vp_in (x3 + 1) (xN u)) ∧ (kd a2 = 7 ∧ 7 < 8) ∧ Call u 179 [.ref a2, .int (xX u (Int32.toNatClampNeg (x3 + 1)))] hi hl (fun r hi2 hl2 => vc u k 228 1056 [.ref a0, .ref a1, .ref a2, .int x3] (r.toList ++ []) hi2 hl2 K)) := id rfl
set_option maxRecDepth 100000 in
theorem b_Law_law_1056 {u : UV} {k : Nat} {a0 : Nat} {a1 : Nat} {a2 : Nat} {x3 : Int32} {y0 : Int32} {hi : HI} {hl : HL} {K : Option Value → HI → HL → Prop} : vc u (k + 2) 228 1056 [.ref a0, .ref a1, .ref a2, .int x3] [.int y0] hi hl K = (vc u k 228 1594 [.ref a0, .ref a1, .ref a2, .int x3] [] hi hl K) := id rfl
set_option maxRecDepth 100000 in
theorem b_Law_law_1060 {u : UV} {k : Nat} {a0 : Nat} {a1 : Nat} {a2 : Nat} {x3 : Int32} {hi : HI} {hl : HL} {K : Option Value → HI → HL → Prop} : vc u (k + 7) 228 1060 [.ref a0, .ref a1, .ref a2, .int x3] [] hi hl K = ((a0 = 99 ∧ vp_in (x3 + 1) (xN u)) ∧ (kd a1 = 6 ∧ 6 < 8) ∧ Call u 87 [.ref a1, .int (xX u (Int32.toNatClampNeg (x3 + 1)))] hi hl (fun r hi2 hl2 => vc u k 228 1069 [.ref a0, .ref a1, .ref a2, .int x3] (r.toList ++ []) hi2 hl2 K)) := id rfl
set_option maxRecDepth 100000 in
theorem b_Law_law_1069 {u : UV} {k : Nat} {a0 : Nat} {a1 : Nat} {a2 : Nat} {x3 : Int32} {y0 : Int32} {hi : HI} {hl : HL} {K : Option Value → HI → HL → Prop} : vc u (k + 8) 228 1069 [.ref a0, .ref a1, .ref a2, .int x3] [.int y0] hi hl K = ((a0 = 99 ∧ vp_in (x3 + 1) (xN u)) ∧ (kd a2 = 7 ∧ 7 < 8) ∧ Call u 180 [.ref a2, .int (xX u (Int32.toNatClampNeg (x3 + 1)))] hi hl (fun r hi2 hl2 => vc u k 228 1079 [.ref a0, .ref a1, .ref a2, .int x3] (r.toList ++ []) hi2 hl2 K)) := id rfl
set_option maxRecDepth 100000 in
theorem b_Law_law_1079 {u : UV} {k : Nat} {a0 : Nat} {a1 : Nat} {a2 : Nat} {x3 : Int32} {y0 : Int32} {hi : HI} {hl : HL} {K : Option Value → HI → HL → Prop} : vc u (k + 2) 228 1079 [.ref a0, .ref a1, .ref a2, .int x3] [.int y0] hi hl K = (vc u k 228 1594 [.ref a0, .ref a1, .ref a2, .int x3] [] hi hl K) := id rfl
set_option maxRecDepth 100000 in
theorem b_Law_law_1083 {u : UV} {k : Nat} {a0 : Nat} {a1 : Nat} {a2 : Nat} {x3 : Int32} {hi : HI} {hl : HL} {K : Option Value → HI → HL → Prop} : vc u (k + 2) 228 1083 [.ref a0, .ref a1, .ref a2, .int x3] [] hi hl K = ((kd a1 = 6 ∧ 6 < 8) ∧ Call u 88 [.ref a1] hi hl (fun r hi2 hl2 => vc u k 228 1087 [.ref a0, .ref a1, .ref a2, .int x3] (r.toList ++ []) hi2 hl2 K)) := id rfl
set_option maxRecDepth 100000 in
theorem b_Law_law_1087 {u : UV} {k : Nat} {a0 : Nat} {a1 : Nat} {a2 : Nat} {x3 : Int32} {y0 : Int32} {hi : HI} {hl : HL} {K : Option Value → HI → HL → Prop} : vc u (k + 3) 228 1087 [.ref a0, .ref a1, .ref a2, .int x3] [.int y0] hi hl K = ((kd a2 = 7 ∧ 7 < 8) ∧ Call u 181 [.ref a2] hi hl (fun r hi2 hl2 => vc u k 228 1092 [.ref a0, .ref a1, .ref a2, .int x3] (r.toList ++ []) hi2 hl2 K)) := id rfl
set_option maxRecDepth 100000 in
theorem b_Law_law_1092 {u : UV} {k : Nat} {a0 : Nat} {a1 : Nat} {a2 : Nat} {x3 : Int32} {y0 : Int32} {hi : HI} {hl : HL} {K : Option Value → HI → HL → Prop} : vc u (k + 2) 228 1092 [.ref a0, .ref a1, .ref a2, .int x3] [.int y0] hi hl K = (vc u k 228 1594 [.ref a0, .ref a1, .ref a2, .int x3] [] hi hl K) := id rfl
set_option maxRecDepth 100000 in
theorem b_Law_law_1096 {u : UV} {k : Nat} {a0 : Nat} {a1 : Nat} {a2 : Nat} {x3 : Int32} {hi : HI} {hl : HL} {K : Option Value → HI → HL → Prop} : vc u (k + 7) 228 1096 [.ref a0, .ref a1, .ref a2, .int x3] [] hi hl K = ((a0 = 99 ∧ vp_in (x3 + 1) (xN u)) ∧ (kd a1 = 6 ∧ 6 < 8) ∧ Call u 89 [.ref a1, .int (xX u (Int32.toNatClampNeg (x3 + 1)))] hi hl (fun r hi2 hl2 => vc u k 228 1105 [.ref a0, .ref a1, .ref a2, .int x3] (r.toList ++ []) hi2 hl2 K)) := id rfl
set_option maxRecDepth 100000 in
theorem b_Law_law_1105 {u : UV} {k : Nat} {a0 : Nat} {a1 : Nat} {a2 : Nat} {x3 : Int32} {y0 : Int32} {hi : HI} {hl : HL} {K : Option Value → HI → HL → Prop} : vc u (k + 8) 228 1105 [.ref a0, .ref a1, .ref a2, .int x3] [.int y0] hi hl K = ((a0 = 99 ∧ vp_in (x3 + 1) (xN u)) ∧ (kd a2 = 7 ∧ 7 < 8) ∧ Call u 182 [.ref a2, .int (xX u (Int32.toNatClampNeg (x3 + 1)))] hi hl (fun r hi2 hl2 => vc u k 228 1115 [.ref a0, .ref a1, .ref a2, .int x3] (r.toList ++ []) hi2 hl2 K)) := id rfl
set_option maxRecDepth 100000 in
theorem b_Law_law_1115 {u : UV} {k : Nat} {a0 : Nat} {a1 : Nat} {a2 : Nat} {x3 : Int32} {y0 : Int32} {hi : HI} {hl : HL} {K : Option Value → HI → HL → Prop} : vc u (k + 2) 228 1115 [.ref a0, .ref a1, .ref a2, .int x3] [.int y0] hi hl K = (vc u k 228 1594 [.ref a0, .ref a1, .ref a2, .int x3] [] hi hl K) := id rfl
set_option maxRecDepth 100000 in
theorem b_Law_law_1119 {u : UV} {k : Nat} {a0 : Nat} {a1 : Nat} {a2 : Nat} {x3 : Int32} {hi : HI} {hl : HL} {K : Option Value → HI → HL → Prop} : vc u (k + 22) 228 1119 [.ref a0, .ref a1, .ref a2, .int x3] [] hi hl K = ((a0 = 99 ∧ vp_in (x3 + 1) (xN u)) ∧ (a0 = 99 ∧ vp_in (x3 + 2) (xN u)) ∧ (a0 = 99 ∧ vp_in (x3 + 3) (xN u)) ∧ (a0 = 99 ∧ vp_in (x3 + 4) (xN u)) ∧ (kd a1 = 6 ∧ 6 < 8) ∧ Call u 90 [.ref a1, .int (xX u (Int32.toNatClampNeg (x3 + 1))), .int (xX u (Int32.toNatClampNeg (x3 + 2))), .int (xX u (Int32.toNatClampNeg (x3 + 3))), .int (xX u (Int32.toNatClampNeg (x3 + 4)))] hi hl (fun r hi2 hl2 => vc u k 228 1143 [.ref a0, .ref a1, .ref a2, .int x3] (r.toList ++ []) hi2 hl2 K)) := id rfl
set_option maxRecDepth 100000 in
theorem b_Law_law_1143 {u : UV} {k : Nat} {a0 : Nat} {a1 : Nat} {a2 : Nat} {x3 : Int32} {g0 : Int64} {hi : HI} {hl : HL} {K : Option Value → HI → HL → Prop} : vc u (k + 23) 228 1143 [.ref a0, .ref a1, .ref a2, .int x3] [.long g0] hi hl K = ((a0 = 99 ∧ vp_in (x3 + 1) (xN u)) ∧ (a0 = 99 ∧ vp_in (x3 + 2) (xN u)) ∧ (a0 = 99 ∧ vp_in (x3 + 3) (xN u)) ∧ (a0 = 99 ∧ vp_in (x3 + 4) (xN u)) ∧ (kd a2 = 7 ∧ 7 < 8) ∧ Call u 184 [.ref a2, .int (xX u (Int32.toNatClampNeg (x3 + 1))), .int (xX u (Int32.toNatClampNeg (x3 + 2))), .int (xX u (Int32.toNatClampNeg (x3 + 3))), .int (xX u (Int32.toNatClampNeg (x3 + 4)))] hi hl (fun r hi2 hl2 => vc u k 228 1168 [.ref a0, .ref a1, .ref a2, .int x3] (r.toList ++ []) hi2 hl2 K)) := id rfl
set_option maxRecDepth 100000 in
theorem b_Law_law_1168 {u : UV} {k : Nat} {a0 : Nat} {a1 : Nat} {a2 : Nat} {x3 : Int32} {g0 : Int64} {hi : HI} {hl : HL} {K : Option Value → HI → HL → Prop} : vc u (k + 2) 228 1168 [.ref a0, .ref a1, .ref a2, .int x3] [.long g0] hi hl K = (vc u k 228 1594 [.ref a0, .ref a1, .ref a2, .int x3] [] hi hl K) := id rfl
set_option maxRecDepth 100000 in
theorem b_Law_law_1172 {u : UV} {k : Nat} {a0 : Nat} {a1 : Nat} {a2 : Nat} {x3 : Int32} {hi : HI} {hl : HL} {K : Option Value → HI → HL → Prop} : vc u (k + 12) 228 1172 [.ref a0, .ref a1, .ref a2, .int x3] [] hi hl K = ((a0 = 99 ∧ vp_in (x3 + 1) (xN u)) ∧ (a0 = 99 ∧ vp_in (x3 + 2) (xN u)) ∧ (kd a1 = 6 ∧ 6 < 8) ∧ Call u 92 [.ref a1, .int (xX u (Int32.toNatClampNeg (x3 + 1))), .int (xX u (Int32.toNatClampNeg (x3 + 2)))] hi hl (fun r hi2 hl2 => vc u k 228 1186 [.ref a0, .ref a1, .ref a2, .int x3] (r.toList ++ []) hi2 hl2 K)) := id rfl
set_option maxRecDepth 100000 in
theorem b_Law_law_1186 {u : UV} {k : Nat} {a0 : Nat} {a1 : Nat} {a2 : Nat} {x3 : Int32} {y0 : Int32} {hi : HI} {hl : HL} {K : Option Value → HI → HL → Prop} : vc u (k + 13) 228 1186 [.ref a0, .ref a1, .ref a2, .int x3] [.int y0] hi hl K = ((a0 = 99 ∧ vp_in (x3 + 1) (xN u)) ∧ (a0 = 99 ∧ vp_in (x3 + 2) (xN u)) ∧ (kd a2 = 7 ∧ 7 < 8) ∧ Call u 185 [.ref a2, .int (xX u (Int32.toNatClampNeg (x3 + 1))), .int (xX u (Int32.toNatClampNeg (x3 + 2)))] hi hl (fun r hi2 hl2 => vc u k 228 1201 [.ref a0, .ref a1, .ref a2, .int x3] (r.toList ++ []) hi2 hl2 K)) := id rfl
set_option maxRecDepth 100000 in
theorem b_Law_law_1201 {u : UV} {k : Nat} {a0 : Nat} {a1 : Nat} {a2 : Nat} {x3 : Int32} {y0 : Int32} {hi : HI} {hl : HL} {K : Option Value → HI → HL → Prop} : vc u (k + 2) 228 1201 [.ref a0, .ref a1, .ref a2, .int x3] [.int y0] hi hl K = (vc u k 228 1594 [.ref a0, .ref a1, .ref a2, .int x3] [] hi hl K) := id rfl
set_option maxRecDepth 100000 in
theorem b_Law_law_1205 {u : UV} {k : Nat} {a0 : Nat} {a1 : Nat} {a2 : Nat} {x3 : Int32} {hi : HI} {hl : HL} {K : Option Value → HI → HL → Prop} : vc u (k + 2) 228 1205 [.ref a0, .ref a1, .ref a2, .int x3] [] hi hl K = ((kd a1 = 6 ∧ 6 < 8) ∧ Call u 93 [.ref a1] hi hl (fun r hi2 hl2 => vc u k 228 1209 [.ref a0, .ref a1, .ref a2, .int x3] (r.toList ++ []) hi2 hl2 K)) := id rfl
set_option maxRecDepth 100000 in
theorem b_Law_law_1209 {u : UV} {k : Nat} {a0 : Nat} {a1 : Nat} {a2 : Nat} {x3 : Int32} {y0 : Int32} {hi : HI} {hl : HL} {K : Option Value → HI → HL → Prop} : vc u (k + 3) 228 1209 [.ref a0, .ref a1, .ref a2, .int x3] [.int y0] hi hl K = ((kd a2 = 7 ∧ 7 < 8) ∧ Call u 186 [.ref a2] hi hl (fun r hi2 hl2 => vc u k 228 1214 [.ref a0, .ref a1, .ref a2, .int x3] (r.toList ++ []) hi2 hl2 K)) := id rfl
set_option maxRecDepth 100000 in
theorem b_Law_law_1214 {u : UV} {k : Nat} {a0 : Nat} {a1 : Nat} {a2 : Nat} {x3 : Int32} {y0 : Int32} {hi : HI} {hl : HL} {K : Option Value → HI → HL → Prop} : vc u (k + 2) 228 1214 [.ref a0, .ref a1, .ref a2, .int x3] [.int y0] hi hl K = (vc u k 228 1594 [.ref a0, .ref a1, .ref a2, .int x3] [] hi hl K) := id rfl
set_option maxRecDepth 100000 in
theorem b_Law_law_1218 {u : UV} {k : Nat} {a0 : Nat} {a1 : Nat} {a2 : Nat} {x3 : Int32} {hi : HI} {hl : HL} {K : Option Value → HI → HL → Prop} : vc u (k + 2) 228 1218 [.ref a0, .ref a1, .ref a2, .int x3] [] hi hl K = ((kd a1 = 6 ∧ 6 < 8) ∧ Call u 94 [.ref a1] hi hl (fun r hi2 hl2 => vc u k 228 1222 [.ref a0, .ref a1, .ref a2, .int x3] (r.toList ++ []) hi2 hl2 K)) := id rfl
set_option maxRecDepth 100000 in
theorem b_Law_law_1222 {u : UV} {k : Nat} {a0 : Nat} {a1 : Nat} {a2 : Nat} {x3 : Int32} {y0 : Int32} {hi : HI} {hl : HL} {K : Option Value → HI → HL → Prop} : vc u (k + 3) 228 1222 [.ref a0, .ref a1, .ref a2, .int x3] [.int y0] hi hl K = ((kd a2 = 7 ∧ 7 < 8) ∧ Call u 199 [.ref a2] hi hl (fun r hi2 hl2 => vc u k 228 1227 [.ref a0, .ref a1, .ref a2, .int x3] (r.toList ++ []) hi2 hl2 K)) := id rfl
set_option maxRecDepth 100000 in
theorem b_Law_law_1227 {u : UV} {k : Nat} {a0 : Nat} {a1 : Nat} {a2 : Nat} {x3 : Int32} {y0 : Int32} {hi : HI} {hl : HL} {K : Option Value → HI → HL → Prop} : vc u (k + 2) 228 1227 [.ref a0, .ref a1, .ref a2, .int x3] [.int y0] hi hl K = (vc u k 228 1594 [.ref a0, .ref a1, .ref a2, .int x3] [] hi hl K) := id rfl
set_option maxRecDepth 100000 in
theorem b_Law_law_1231 {u : UV} {k : Nat} {a0 : Nat} {a1 : Nat} {a2 : Nat} {x3 : Int32} {hi : HI} {hl : HL} {K : Option Value → HI → HL → Prop} : vc u (k + 17) 228 1231 [.ref a0, .ref a1, .ref a2, .int x3] [] hi hl K = ((a0 = 99 ∧ vp_in (x3 + 1) (xN u)) ∧ (a0 = 99 ∧ vp_in (x3 + 2) (xN u)) ∧ (a0 = 99 ∧ vp_in (x3 + 3) (xN u)) ∧ (kd a1 = 6 ∧ 6 < 8) ∧ Call u 95 [.ref a1, .int (xX u (Int32.toNatClampNeg (x3 + 1))), .int (xX u (Int32.toNatClampNeg (x3 + 2))), .int (xX u (Int32.toNatClampNeg (x3 + 3)))] hi hl (fun r hi2 hl2 => vc u k 228 1250 [.ref a0, .ref a1, .ref a2, .int x3] (r.toList ++ []) hi2 hl2 K)) := id rfl
set_option maxRecDepth 100000 in
theorem b_Law_law_1250 {u : UV} {k : Nat} {a0 : Nat} {a1 : Nat} {a2 : Nat} {x3 : Int32} {y0 : Int32} {hi : HI} {hl : HL} {K : Option Value → HI → HL → Prop} : vc u (k + 18) 228 1250 [.ref a0, .ref a1, .ref a2, .int x3] [.int y0] hi hl K = ((a0 = 99 ∧ vp_in (x3 + 1) (xN u)) ∧ (a0 = 99 ∧ vp_in (x3 + 2) (xN u)) ∧ (a0 = 99 ∧ vp_in (x3 + 3) (xN u)) ∧ (kd a2 = 7 ∧ 7 < 8) ∧ Call u 202 [.ref a2, .int (xX u (Int32.toNatClampNeg (x3 + 1))), .int (xX u (Int32.toNatClampNeg (x3 + 2))), .int (xX u (Int32.toNatClampNeg (x3 + 3)))] hi hl (fun r hi2 hl2 => vc u k 228 1270 [.ref a0, .ref a1, .ref a2, .int x3] (r.toList ++ []) hi2 hl2 K)) := id rfl
set_option maxRecDepth 100000 in
theorem b_Law_law_1270 {u : UV} {k : Nat} {a0 : Nat} {a1 : Nat} {a2 : Nat} {x3 : Int32} {y0 : Int32} {hi : HI} {hl : HL} {K : Option Value → HI → HL → Prop} : vc u (k + 2) 228 1270 [.ref a0, .ref a1, .ref a2, .int x3] [.int y0] hi hl K = (vc u k 228 1594 [.ref a0, .ref a1, .ref a2, .int x3] [] hi hl K) := id rfl
set_option maxRecDepth 100000 in
theorem b_Law_law_1274 {u : UV} {k : Nat} {a0 : Nat} {a1 : Nat} {a2 : Nat} {x3 : Int32} {hi : HI} {hl : HL} {K : Option Value → HI → HL → Prop} : vc u (k + 29) 228 1274 [.ref a0, .ref a1, .ref a2, .int x3] [] hi hl K = ((a0 = 99 ∧ vp_in (x3 + 1) (xN u)) ∧ (a0 = 99 ∧ vp_in (x3 + 2) (xN u)) ∧ (a0 = 99 ∧ vp_in (x3 + 3) (xN u)) ∧ (a0 = 99 ∧ vp_in (x3 + 4) (xN u)) ∧ (kd a1 = 6 ∧ 6 < 8) ∧ Call u 96 [.ref a1, .int (xX u (Int32.toNatClampNeg (x3 + 1))), .int (xX u (Int32.toNatClampNeg (x3 + 2))), .long (((Int32.toInt64 (xX u (Int32.toNatClampNeg (x3 + 3)))) <<< ((32 : Int32).toInt64 &&& 63)) ||| ((Int32.toInt64 (xX u (Int32.toNatClampNeg (x3 + 4)))) &&& 4294967295))] hi hl (fun r hi2 hl2 => vc u k 228 1308 [.ref a0, .ref a1, .ref a2, .int x3] (r.toList ++ []) hi2 hl2 K)) := id rfl
set_option maxRecDepth 100000 in
theorem b_Law_law_1308 {u : UV} {k : Nat} {a0 : Nat} {a1 : Nat} {a2 : Nat} {x3 : Int32} {g0 : Int64} {hi : HI} {hl : HL} {K : Option Value → HI → HL → Prop} : vc u (k + 30) 228 1308 [.ref a0, .ref a1, .ref a2, .int x3] [.long g0] hi hl K = ((a0 = 99 ∧ vp_in (x3 + 1) (xN u)) ∧ (a0 = 99 ∧ vp_in (x3 + 2) (xN u)) ∧ (a0 = 99 ∧ vp_in (x3 + 3) (xN u)) ∧ (a0 = 99 ∧ vp_in (x3 + 4) (xN u)) ∧ (kd a2 = 7 ∧ 7 < 8) ∧ Call u 203 [.ref a2, .int (xX u (Int32.toNatClampNeg (x3 + 1))), .int (xX u (Int32.toNatClampNeg (x3 + 2))), .long (((Int32.toInt64 (xX u (Int32.toNatClampNeg (x3 + 3)))) <<< ((32 : Int32).toInt64 &&& 63)) ||| ((Int32.toInt64 (xX u (Int32.toNatClampNeg (x3 + 4)))) &&& 4294967295))] hi hl (fun r hi2 hl2 => vc u k 228 1343 [.ref a0, .ref a1, .ref a2, .int x3] (r.toList ++ []) hi2 hl2 K)) := id rfl
set_option maxRecDepth 100000 in
theorem b_Law_law_1343 {u : UV} {k : Nat} {a0 : Nat} {a1 : Nat} {a2 : Nat} {x3 : Int32} {g0 : Int64} {hi : HI} {hl : HL} {K : Option Value → HI → HL → Prop} : vc u (k + 2) 228 1343 [.ref a0, .ref a1, .ref a2, .int x3] [.long g0] hi hl K = (vc u k 228 1594 [.ref a0, .ref a1, .ref a2, .int x3] [] hi hl K) := id rfl
set_option maxRecDepth 100000 in
theorem b_Law_law_1347 {u : UV} {k : Nat} {a0 : Nat} {a1 : Nat} {a2 : Nat} {x3 : Int32} {hi : HI} {hl : HL} {K : Option Value → HI → HL → Prop} : vc u (k + 27) 228 1347 [.ref a0, .ref a1, .ref a2, .int x3] [] hi hl K = ((a0 = 99 ∧ vp_in (x3 + 1) (xN u)) ∧ (a0 = 99 ∧ vp_in (x3 + 2) (xN u)) ∧ (a0 = 99 ∧ vp_in (x3 + 3) (xN u)) ∧ (a0 = 99 ∧ vp_in (x3 + 4) (xN u)) ∧ (a0 = 99 ∧ vp_in (x3 + 5) (xN u)) ∧ (kd a1 = 6 ∧ 6 < 8) ∧ Call u 97 [.ref a1, .int (xX u (Int32.toNatClampNeg (x3 + 1))), .int (xX u (Int32.toNatClampNeg (x3 + 2))), .int (xX u (Int32.toNatClampNeg (x3 + 3))), .int (xX u (Int32.toNatClampNeg (x3 + 4))), .int (xX u (Int32.toNatClampNeg (x3 + 5)))] hi hl (fun r hi2 hl2 => vc u k 228 1376 [.ref a0, .ref a1, .ref a2, .int x3] (r.toList ++ []) hi2 hl2 K)) := id rfl
set_option maxRecDepth 100000 in
theorem b_Law_law_1376 {u : UV} {k : Nat} {a0 : Nat} {a1 : Nat} {a2 : Nat} {x3 : Int32} {y0 : Int32} {hi : HI} {hl : HL} {K : Option Value → HI → HL → Prop} : vc u (k + 28) 228 1376 [.ref a0, .ref a1, .ref a2, .int x3] [.int y0] hi hl K = ((a0 = 99 ∧ vp_in (x3 + 1) (xN u)) ∧ (a0 = 99 ∧ vp_in (x3 + 2) (xN u)) ∧ (a0 = 99 ∧ vp_in (x3 + 3) (xN u)) ∧ (a0 = 99 ∧ vp_in (x3 + 4) (xN u)) ∧ (a0 = 99 ∧ vp_in (x3 + 5) (xN u)) ∧ (kd a2 = 7 ∧ 7 < 8) ∧ Call u 204 [.ref a2, .int (xX u (Int32.toNatClampNeg (x3 + 1))), .int (xX u (Int32.toNatClampNeg (x3 + 2))), .int (xX u (Int32.toNatClampNeg (x3 + 3))), .int (xX u (Int32.toNatClampNeg (x3 + 4))), .int (xX u (Int32.toNatClampNeg (x3 + 5)))] hi hl (fun r hi2 hl2 => vc u k 228 1406 [.ref a0, .ref a1, .ref a2, .int x3] (r.toList ++ []) hi2 hl2 K)) := id rfl
set_option maxRecDepth 100000 in
theorem b_Law_law_1406 {u : UV} {k : Nat} {a0 : Nat} {a1 : Nat} {a2 : Nat} {x3 : Int32} {y0 : Int32} {hi : HI} {hl : HL} {K : Option Value → HI → HL → Prop} : vc u (k + 2) 228 1406 [.ref a0, .ref a1, .ref a2, .int x3] [.int y0] hi hl K = (vc u k 228 1594 [.ref a0, .ref a1, .ref a2, .int x3] [] hi hl K) := id rfl
set_option maxRecDepth 100000 in
theorem b_Law_law_1410 {u : UV} {k : Nat} {a0 : Nat} {a1 : Nat} {a2 : Nat} {x3 : Int32} {hi : HI} {hl : HL} {K : Option Value → HI → HL → Prop} : vc u (k + 12) 228 1410 [.ref a0, .ref a1, .ref a2, .int x3] [] hi hl K = ((a0 = 99 ∧ vp_in (x3 + 1) (xN u)) ∧ (a0 = 99 ∧ vp_in (x3 + 2) (xN u)) ∧ (kd a1 = 6 ∧ 6 < 8) ∧ Call u 98 [.ref a1, .int (xX u (Int32.toNatClampNeg (x3 + 1))), .int (xX u (Int32.toNatClampNeg (x3 + 2)))] hi hl (fun r hi2 hl2 => vc u k 228 1424 [.ref a0, .ref a1, .ref a2, .int x3] (r.toList ++ []) hi2 hl2 K)) := id rfl
set_option maxRecDepth 100000 in
theorem b_Law_law_1424 {u : UV} {k : Nat} {a0 : Nat} {a1 : Nat} {a2 : Nat} {x3 : Int32} {y0 : Int32} {hi : HI} {hl : HL} {K : Option Value → HI → HL → Prop} : vc u (k + 13) 228 1424 [.ref a0, .ref a1, .ref a2, .int x3] [.int y0] hi hl K = ((a0 = 99 ∧ vp_in (x3 + 1) (xN u)) ∧ (a0 = 99 ∧ vp_in (x3 + 2) (xN u)) ∧ (kd a2 = 7 ∧ 7 < 8) ∧ Call u 205 [.ref a2, .int (xX u (Int32.toNatClampNeg (x3 + 1))), .int (xX u (Int32.toNatClampNeg (x3 + 2)))] hi hl (fun r hi2 hl2 => vc u k 228 1439 [.ref a0, .ref a1, .ref a2, .int x3] (r.toList ++ []) hi2 hl2 K)) := id rfl
set_option maxRecDepth 100000 in
theorem b_Law_law_1439 {u : UV} {k : Nat} {a0 : Nat} {a1 : Nat} {a2 : Nat} {x3 : Int32} {y0 : Int32} {hi : HI} {hl : HL} {K : Option Value → HI → HL → Prop} : vc u (k + 2) 228 1439 [.ref a0, .ref a1, .ref a2, .int x3] [.int y0] hi hl K = (vc u k 228 1594 [.ref a0, .ref a1, .ref a2, .int x3] [] hi hl K) := id rfl
set_option maxRecDepth 100000 in
theorem b_Law_law_1443 {u : UV} {k : Nat} {a0 : Nat} {a1 : Nat} {a2 : Nat} {x3 : Int32} {hi : HI} {hl : HL} {K : Option Value → HI → HL → Prop} : vc u (k + 12) 228 1443 [.ref a0, .ref a1, .ref a2, .int x3] [] hi hl K = ((a0 = 99 ∧ vp_in (x3 + 1) (xN u)) ∧ (a0 = 99 ∧ vp_in (x3 + 2) (xN u)) ∧ (kd a1 = 6 ∧ 6 < 8) ∧ Call u 99 [.ref a1, .int (xX u (Int32.toNatClampNeg (x3 + 1))), .int (xX u (Int32.toNatClampNeg (x3 + 2)))] hi hl (fun r hi2 hl2 => vc u k 228 1457 [.ref a0, .ref a1, .ref a2, .int x3] (r.toList ++ []) hi2 hl2 K)) := id rfl
set_option maxRecDepth 100000 in
theorem b_Law_law_1457 {u : UV} {k : Nat} {a0 : Nat} {a1 : Nat} {a2 : Nat} {x3 : Int32} {y0 : Int32} {hi : HI} {hl : HL} {K : Option Value → HI → HL → Prop} : vc u (k + 13) 228 1457 [.ref a0, .ref a1, .ref a2, .int x3] [.int y0] hi hl K = ((a0 = 99 ∧ vp_in (x3 + 1) (xN u)) ∧ (a0 = 99 ∧ vp_in (x3 + 2) (xN u)) ∧ (kd a2 = 7 ∧ 7 < 8) ∧ Call u 207 [.ref a2, .int (xX u (Int32.toNatClampNeg (x3 + 1))), .int (xX u (Int32.toNatClampNeg (x3 + 2)))] hi hl (fun r hi2 hl2 => vc u k 228 1472 [.ref a0, .ref a1, .ref a2, .int x3] (r.toList ++ []) hi2 hl2 K)) := id rfl
set_option maxRecDepth 100000 in
theorem b_Law_law_1472 {u : UV} {k : Nat} {a0 : Nat} {a1 : Nat} {a2 : Nat} {x3 : Int32} {y0 : Int32} {hi : HI} {hl : HL} {K : Option Value → HI → HL → Prop} : vc u (k + 2) 228 1472 [.ref a0, .ref a1, .ref a2, .int x3] [.int y0] hi hl K = (vc u k 228 1594 [.ref a0, .ref a1, .ref a2, .int x3] [] hi hl K) := id rfl
set_option maxRecDepth 100000 in
theorem b_Law_law_1476 {u : UV} {k : Nat} {a0 : Nat} {a1 : Nat} {a2 : Nat} {x3 : Int32} {hi : HI} {hl : HL} {K : Option Value → HI → HL → Prop} : vc u (k + 12) 228 1476 [.ref a0, .ref a1, .ref a2, .int x3] [] hi hl K = ((a0 = 99 ∧ vp_in (x3 + 1) (xN u)) ∧ (a0 = 99 ∧ vp_in (x3 + 2) (xN u)) ∧ (kd a1 = 6 ∧ 6 < 8) ∧ Call u 100 [.ref a1, .int (xX u (Int32.toNatClampNeg (x3 + 1))), .int (xX u (Int32.toNatClampNeg (x3 + 2)))] hi hl (fun r hi2 hl2 => vc u k 228 1490 [.ref a0, .ref a1, .ref a2, .int x3] (r.toList ++ []) hi2 hl2 K)) := id rfl
set_option maxRecDepth 100000 in
theorem b_Law_law_1490 {u : UV} {k : Nat} {a0 : Nat} {a1 : Nat} {a2 : Nat} {x3 : Int32} {y0 : Int32} {hi : HI} {hl : HL} {K : Option Value → HI → HL → Prop} : vc u (k + 13) 228 1490 [.ref a0, .ref a1, .ref a2, .int x3] [.int y0] hi hl K = ((a0 = 99 ∧ vp_in (x3 + 1) (xN u)) ∧ (a0 = 99 ∧ vp_in (x3 + 2) (xN u)) ∧ (kd a2 = 7 ∧ 7 < 8) ∧ Call u 208 [.ref a2, .int (xX u (Int32.toNatClampNeg (x3 + 1))), .int (xX u (Int32.toNatClampNeg (x3 + 2)))] hi hl (fun r hi2 hl2 => vc u k 228 1505 [.ref a0, .ref a1, .ref a2, .int x3] (r.toList ++ []) hi2 hl2 K)) := id rfl
set_option maxRecDepth 100000 in
theorem b_Law_law_1505 {u : UV} {k : Nat} {a0 : Nat} {a1 : Nat} {a2 : Nat} {x3 : Int32} {y0 : Int32} {hi : HI} {hl : HL} {K : Option Value → HI → HL → Prop} : vc u (k + 2) 228 1505 [.ref a0, .ref a1, .ref a2, .int x3] [.int y0] hi hl K = (vc u k 228 1594 [.ref a0, .ref a1, .ref a2, .int x3] [] hi hl K) := id rfl
set_option maxRecDepth 100000 in
theorem b_Law_law_1509 {u : UV} {k : Nat} {a0 : Nat} {a1 : Nat} {a2 : Nat} {x3 : Int32} {hi : HI} {hl : HL} {K : Option Value → HI → HL → Prop} : vc u (k + 2) 228 1509 [.ref a0, .ref a1, .ref a2, .int x3] [] hi hl K = ((kd a1 = 6 ∧ 6 < 8) ∧ Call u 102 [.ref a1] hi hl (fun r hi2 hl2 => vc u k 228 1513 [.ref a0, .ref a1, .ref a2, .int x3] (r.toList ++ []) hi2 hl2 K)) := id rfl
set_option maxRecDepth 100000 in
theorem b_Law_law_1513 {u : UV} {k : Nat} {a0 : Nat} {a1 : Nat} {a2 : Nat} {x3 : Int32} {y0 : Int32} {hi : HI} {hl : HL} {K : Option Value → HI → HL → Prop} : vc u (k + 3) 228 1513 [.ref a0, .ref a1, .ref a2, .int x3] [.int y0] hi hl K = ((kd a2 = 7 ∧ 7 < 8) ∧ Call u 209 [.ref a2] hi hl (fun r hi2 hl2 => vc u k 228 1518 [.ref a0, .ref a1, .ref a2, .int x3] (r.toList ++ []) hi2 hl2 K)) := id rfl
set_option maxRecDepth 100000 in
theorem b_Law_law_1518 {u : UV} {k : Nat} {a0 : Nat} {a1 : Nat} {a2 : Nat} {x3 : Int32} {y0 : Int32} {hi : HI} {hl : HL} {K : Option Value → HI → HL → Prop} : vc u (k + 2) 228 1518 [.ref a0, .ref a1, .ref a2, .int x3] [.int y0] hi hl K = (vc u k 228 1594 [.ref a0, .ref a1, .ref a2, .int x3] [] hi hl K) := id rfl
set_option maxRecDepth 100000 in
theorem b_Law_law_1522 {u : UV} {k : Nat} {a0 : Nat} {a1 : Nat} {a2 : Nat} {x3 : Int32} {hi : HI} {hl : HL} {K : Option Value → HI → HL → Prop} : vc u (k + 2) 228 1522 [.ref a0, .ref a1, .ref a2, .int x3] [] hi hl K = ((kd a1 = 6 ∧ 6 < 8) ∧ Call u 103 [.ref a1] hi hl (fun r hi2 hl2 => vc u k 228 1526 [.ref a0, .ref a1, .ref a2, .int x3] (r.toList ++ []) hi2 hl2 K)) := id rfl
set_option maxRecDepth 100000 in
theorem b_Law_law_1526 {u : UV} {k : Nat} {a0 : Nat} {a1 : Nat} {a2 : Nat} {x3 : Int32} {y0 : Int32} {hi : HI} {hl : HL} {K : Option Value → HI → HL → Prop} : vc u (k + 3) 228 1526 [.ref a0, .ref a1, .ref a2, .int x3] [.int y0] hi hl K = ((kd a2 = 7 ∧ 7 < 8) ∧ Call u 210 [.ref a2] hi hl (fun r hi2 hl2 => vc u k 228 1531 [.ref a0, .ref a1, .ref a2, .int x3] (r.toList ++ []) hi2 hl2 K)) := id rfl
set_option maxRecDepth 100000 in
theorem b_Law_law_1531 {u : UV} {k : Nat} {a0 : Nat} {a1 : Nat} {a2 : Nat} {x3 : Int32} {y0 : Int32} {hi : HI} {hl : HL} {K : Option Value → HI → HL → Prop} : vc u (k + 2) 228 1531 [.ref a0, .ref a1, .ref a2, .int x3] [.int y0] hi hl K = (vc u k 228 1594 [.ref a0, .ref a1, .ref a2, .int x3] [] hi hl K) := id rfl
set_option maxRecDepth 100000 in
theorem b_Law_law_1535 {u : UV} {k : Nat} {a0 : Nat} {a1 : Nat} {a2 : Nat} {x3 : Int32} {hi : HI} {hl : HL} {K : Option Value → HI → HL → Prop} : vc u (k + 2) 228 1535 [.ref a0, .ref a1, .ref a2, .int x3] [] hi hl K = ((kd a1 = 6 ∧ 6 < 8) ∧ Call u 104 [.ref a1] hi hl (fun r hi2 hl2 => vc u k 228 1539 [.ref a0, .ref a1, .ref a2, .int x3] (r.toList ++ []) hi2 hl2 K)) := id rfl
set_option maxRecDepth 100000 in
theorem b_Law_law_1539 {u : UV} {k : Nat} {a0 : Nat} {a1 : Nat} {a2 : Nat} {x3 : Int32} {y0 : Int32} {hi : HI} {hl : HL} {K : Option Value → HI → HL → Prop} : vc u (k + 3) 228 1539 [.ref a0, .ref a1, .ref a2, .int x3] [.int y0] hi hl K = ((kd a2 = 7 ∧ 7 < 8) ∧ Call u 211 [.ref a2] hi hl (fun r hi2 hl2 => vc u k 228 1544 [.ref a0, .ref a1, .ref a2, .int x3] (r.toList ++ []) hi2 hl2 K)) := id rfl
set_option maxRecDepth 100000 in
theorem b_Law_law_1544 {u : UV} {k : Nat} {a0 : Nat} {a1 : Nat} {a2 : Nat} {x3 : Int32} {y0 : Int32} {hi : HI} {hl : HL} {K : Option Value → HI → HL → Prop} : vc u (k + 2) 228 1544 [.ref a0, .ref a1, .ref a2, .int x3] [.int y0] hi hl K = (vc u k 228 1594 [.ref a0, .ref a1, .ref a2, .int x3] [] hi hl K) := id rfl
set_option maxRecDepth 100000 in
theorem b_Law_law_1548 {u : UV} {k : Nat} {a0 : Nat} {a1 : Nat} {a2 : Nat} {x3 : Int32} {hi : HI} {hl : HL} {K : Option Value → HI → HL → Prop} : vc u (k + 7) 228 1548 [.ref a0, .ref a1, .ref a2, .int x3] [] hi hl K = ((a0 = 99 ∧ vp_in (x3 + 1) (xN u)) ∧ (kd a1 = 6 ∧ 6 < 8) ∧ Call u 105 [.ref a1, .int (xX u (Int32.toNatClampNeg (x3 + 1)))] hi hl (fun r hi2 hl2 => vc u k 228 1557 [.ref a0, .ref a1, .ref a2, .int x3] (r.toList ++ []) hi2 hl2 K)) := id rfl
set_option maxRecDepth 100000 in
theorem b_Law_law_1557 {u : UV} {k : Nat} {a0 : Nat} {a1 : Nat} {a2 : Nat} {x3 : Int32} {y0 : Int32} {hi : HI} {hl : HL} {K : Option Value → HI → HL → Prop} : vc u (k + 8) 228 1557 [.ref a0, .ref a1, .ref a2, .int x3] [.int y0] hi hl K = ((a0 = 99 ∧ vp_in (x3 + 1) (xN u)) ∧ (kd a2 = 7 ∧ 7 < 8) ∧ Call u 212 [.ref a2, .int (xX u (Int32.toNatClampNeg (x3 + 1)))] hi hl (fun r hi2 hl2 => vc u k 228 1567 [.ref a0, .ref a1, .ref a2, .int x3] (r.toList ++ []) hi2 hl2 K)) := id rfl
set_option maxRecDepth 100000 in
theorem b_Law_law_1567 {u : UV} {k : Nat} {a0 : Nat} {a1 : Nat} {a2 : Nat} {x3 : Int32} {y0 : Int32} {hi : HI} {hl : HL} {K : Option Value → HI → HL → Prop} : vc u (k + 2) 228 1567 [.ref a0, .ref a1, .ref a2, .int x3] [.int y0] hi hl K = (vc u k 228 1594 [.ref a0, .ref a1, .ref a2, .int x3] [] hi hl K) := id rfl
set_option maxRecDepth 100000 in
theorem b_Law_law_1571 {u : UV} {k : Nat} {a0 : Nat} {a1 : Nat} {a2 : Nat} {x3 : Int32} {hi : HI} {hl : HL} {K : Option Value → HI → HL → Prop} : vc u (k + 7) 228 1571 [.ref a0, .ref a1, .ref a2, .int x3] [] hi hl K = ((a0 = 99 ∧ vp_in (x3 + 1) (xN u)) ∧ (kd a1 = 6 ∧ 6 < 8) ∧ Call u 106 [.ref a1, .int (xX u (Int32.toNatClampNeg (x3 + 1)))] hi hl (fun r hi2 hl2 => vc u k 228 1580 [.ref a0, .ref a1, .ref a2, .int x3] (r.toList ++ []) hi2 hl2 K)) := id rfl
set_option maxRecDepth 100000 in
theorem b_Law_law_1580 {u : UV} {k : Nat} {a0 : Nat} {a1 : Nat} {a2 : Nat} {x3 : Int32} {y0 : Int32} {hi : HI} {hl : HL} {K : Option Value → HI → HL → Prop} : vc u (k + 7) 228 1580 [.ref a0, .ref a1, .ref a2, .int x3] [.int y0] hi hl K = ((a0 = 99 ∧ vp_in (x3 + 1) (xN u)) ∧ (kd a2 = 7 ∧ 7 < 8) ∧ Call u 213 [.ref a2, .int (xX u (Int32.toNatClampNeg (x3 + 1)))] hi hl (fun r hi2 hl2 => vc u k 228 1589 [.ref a0, .ref a1, .ref a2, .int x3] (r.toList ++ [.int y0]) hi2 hl2 K)) := id rfl
set_option maxRecDepth 100000 in
theorem b_Law_law_1589 {u : UV} {k : Nat} {a0 : Nat} {a1 : Nat} {a2 : Nat} {x3 : Int32} {y0 : Int32} {y1 : Int32} {hi : HI} {hl : HL} {K : Option Value → HI → HL → Prop} : vc u (k + 1) 228 1589 [.ref a0, .ref a1, .ref a2, .int x3] [.int y0, .int y1] hi hl K = ((y1 = y0 → vc u k 228 1594 [.ref a0, .ref a1, .ref a2, .int x3] [] hi hl K) ∧ (¬ y1 = y0 → vc u k 228 1592 [.ref a0, .ref a1, .ref a2, .int x3] [] hi hl K)) := id rfl
set_option maxRecDepth 100000 in
theorem b_Law_law_1592 {u : UV} {k : Nat} {a0 : Nat} {a1 : Nat} {a2 : Nat} {x3 : Int32} {hi : HI} {hl : HL} {K : Option Value → HI → HL → Prop} : vc u (k + 2) 228 1592 [.ref a0, .ref a1, .ref a2, .int x3] [] hi hl K = (((0 : Int32) = 0 ∨ (0 : Int32) = 1) ∧ K (some (.int 0)) hi hl) := id rfl
set_option maxRecDepth 100000 in
theorem b_Law_law_1594 {u : UV} {k : Nat} {a0 : Nat} {a1 : Nat} {a2 : Nat} {x3 : Int32} {hi : HI} {hl : HL} {K : Option Value → HI → HL → Prop} : vc u (k + 2) 228 1594 [.ref a0, .ref a1, .ref a2, .int x3] [] hi hl K = (Wp u 228 18 [.ref a0, .ref a1, .ref a2, .int (x3 + 6)] [] hi hl K) := id rfl
set_option maxRecDepth 100000 in
theorem b_Law_law_1600 {u : UV} {k : Nat} {a0 : Nat} {a1 : Nat} {a2 : Nat} {x3 : Int32} {hi : HI} {hl : HL} {K : Option Value → HI → HL → Prop} : vc u (k + 2) 228 1600 [.ref a0, .ref a1, .ref a2, .int x3] [] hi hl K = (((1 : Int32) = 0 ∨ (1 : Int32) = 1) ∧ K (some (.int 1)) hi hl) := id rfl
/-! L6.case -/
section L1
variable {u : UV} {hi : HI} {hl : HL} {K : Option Value → HI → HL → Prop} {i n B' : Nat}
set_option maxRecDepth 20000 in
theorem law_0 (hi6 : i + 6 ≤ xN u) (hN : xN u ≤ 3072) (h : Pr u B' 54 124 [.int (xX u (i + 1)), .int (xX u (i + 2)), .int (xX u (i + 3))] hi hl) (hn : ∀ hi2 hl2, InvE B' hi2 hl2 → Wp u 228 18 [.ref 99, .ref 0, .ref 51, .int (nI (i + 6))] [] hi2 hl2 K) : vc u (n + 150) 228 240 [.ref 99, .ref 0, .ref 51, .int (nI i)] [] hi hl K := by
  unfold Pr at h
  simp (disch := omega) only [b_Law_law_240, true_and, and_true, true_implies, false_implies, not_true_eq_false, not_false_eq_true, eq_self, or_true, true_or, false_or, or_false, false_and, and_false, Option.toList_some, Option.toList_none, List.cons_append, List.nil_append, n10, n01, e10, e01, e08, e18, e28, e38, e48, e58, e68, e78, lt_lit, nI_add, pk_mul, n_le, n_lt, n_eq, n_cl, n_in, n_sub, n_div, n_rem, n_ite, Nat.zero_add, k_0, k_51]
  refine Call.mono h ?_
  intro r hi1 hl1 hr
  obtain ⟨v, e, q⟩ := hr
  subst e
  simp (disch := omega) only [b_Law_law_259, true_and, and_true, true_implies, false_implies, not_true_eq_false, not_false_eq_true, eq_self, or_true, true_or, false_or, or_false, false_and, and_false, Option.toList_some, Option.toList_none, List.cons_append, List.nil_append, n10, n01, e10, e01, e08, e18, e28, e38, e48, e58, e68, e78, lt_lit, nI_add, pk_mul, n_le, n_lt, n_eq, n_cl, n_in, n_sub, n_div, n_rem, n_ite, Nat.zero_add, k_0, k_51]
  refine Call.mono q ?_
  intro r' hi2 hl2 hr
  obtain ⟨e, q2⟩ := hr
  subst e
  simp (disch := omega) only [b_Law_law_279, b_Law_law_1594, true_and, and_true, true_implies, false_implies, not_true_eq_false, not_false_eq_true, eq_self, or_true, true_or, false_or, or_false, false_and, and_false, Option.toList_some, Option.toList_none, List.cons_append, List.nil_append, n10, n01, e10, e01, e08, e18, e28, e38, e48, e58, e68, e78, lt_lit, nI_add, pk_mul, n_le, n_lt, n_eq, n_cl, n_in, n_sub, n_div, n_rem, n_ite, Nat.zero_add, k_0, k_51]
  exact hn hi2 hl2 q2
set_option maxRecDepth 20000 in
theorem law_1 (hi6 : i + 6 ≤ xN u) (hN : xN u ≤ 3072) (h : Pr u B' 55 125 [.int (xX u (i + 1)), .int (xX u (i + 2))] hi hl) (hn : ∀ hi2 hl2, InvE B' hi2 hl2 → Wp u 228 18 [.ref 99, .ref 0, .ref 51, .int (nI (i + 6))] [] hi2 hl2 K) : vc u (n + 150) 228 283 [.ref 99, .ref 0, .ref 51, .int (nI i)] [] hi hl K := by
  unfold Pr at h
  simp (disch := omega) only [b_Law_law_283, true_and, and_true, true_implies, false_implies, not_true_eq_false, not_false_eq_true, eq_self, or_true, true_or, false_or, or_false, false_and, and_false, Option.toList_some, Option.toList_none, List.cons_append, List.nil_append, n10, n01, e10, e01, e08, e18, e28, e38, e48, e58, e68, e78, lt_lit, nI_add, pk_mul, n_le, n_lt, n_eq, n_cl, n_in, n_sub, n_div, n_rem, n_ite, Nat.zero_add, k_0, k_51]
  refine Call.mono h ?_
  intro r hi1 hl1 hr
  obtain ⟨v, e, q⟩ := hr
  subst e
  simp (disch := omega) only [b_Law_law_297, true_and, and_true, true_implies, false_implies, not_true_eq_false, not_false_eq_true, eq_self, or_true, true_or, false_or, or_false, false_and, and_false, Option.toList_some, Option.toList_none, List.cons_append, List.nil_append, n10, n01, e10, e01, e08, e18, e28, e38, e48, e58, e68, e78, lt_lit, nI_add, pk_mul, n_le, n_lt, n_eq, n_cl, n_in, n_sub, n_div, n_rem, n_ite, Nat.zero_add, k_0, k_51]
  refine Call.mono q ?_
  intro r' hi2 hl2 hr
  obtain ⟨e, q2⟩ := hr
  subst e
  simp (disch := omega) only [b_Law_law_312, b_Law_law_1594, true_and, and_true, true_implies, false_implies, not_true_eq_false, not_false_eq_true, eq_self, or_true, true_or, false_or, or_false, false_and, and_false, Option.toList_some, Option.toList_none, List.cons_append, List.nil_append, n10, n01, e10, e01, e08, e18, e28, e38, e48, e58, e68, e78, lt_lit, nI_add, pk_mul, n_le, n_lt, n_eq, n_cl, n_in, n_sub, n_div, n_rem, n_ite, Nat.zero_add, k_0, k_51]
  exact hn hi2 hl2 q2
set_option maxRecDepth 20000 in
theorem law_2 (hi6 : i + 6 ≤ xN u) (hN : xN u ≤ 3072) (h : Pr u B' 56 127 [.int (xX u (i + 1))] hi hl) (hn : ∀ hi2 hl2, InvE B' hi2 hl2 → Wp u 228 18 [.ref 99, .ref 0, .ref 51, .int (nI (i + 6))] [] hi2 hl2 K) : vc u (n + 150) 228 316 [.ref 99, .ref 0, .ref 51, .int (nI i)] [] hi hl K := by
  unfold Pr at h
  simp (disch := omega) only [b_Law_law_316, true_and, and_true, true_implies, false_implies, not_true_eq_false, not_false_eq_true, eq_self, or_true, true_or, false_or, or_false, false_and, and_false, Option.toList_some, Option.toList_none, List.cons_append, List.nil_append, n10, n01, e10, e01, e08, e18, e28, e38, e48, e58, e68, e78, lt_lit, nI_add, pk_mul, n_le, n_lt, n_eq, n_cl, n_in, n_sub, n_div, n_rem, n_ite, Nat.zero_add, k_0, k_51]
  refine Call.mono h ?_
  intro r hi1 hl1 hr
  obtain ⟨v, e, q⟩ := hr
  subst e
  simp (disch := omega) only [b_Law_law_325, true_and, and_true, true_implies, false_implies, not_true_eq_false, not_false_eq_true, eq_self, or_true, true_or, false_or, or_false, false_and, and_false, Option.toList_some, Option.toList_none, List.cons_append, List.nil_append, n10, n01, e10, e01, e08, e18, e28, e38, e48, e58, e68, e78, lt_lit, nI_add, pk_mul, n_le, n_lt, n_eq, n_cl, n_in, n_sub, n_div, n_rem, n_ite, Nat.zero_add, k_0, k_51]
  refine Call.mono q ?_
  intro r' hi2 hl2 hr
  obtain ⟨e, q2⟩ := hr
  subst e
  simp (disch := omega) only [b_Law_law_335, b_Law_law_1594, true_and, and_true, true_implies, false_implies, not_true_eq_false, not_false_eq_true, eq_self, or_true, true_or, false_or, or_false, false_and, and_false, Option.toList_some, Option.toList_none, List.cons_append, List.nil_append, n10, n01, e10, e01, e08, e18, e28, e38, e48, e58, e68, e78, lt_lit, nI_add, pk_mul, n_le, n_lt, n_eq, n_cl, n_in, n_sub, n_div, n_rem, n_ite, Nat.zero_add, k_0, k_51]
  exact hn hi2 hl2 q2
set_option maxRecDepth 20000 in
theorem law_3 (hi6 : i + 6 ≤ xN u) (hN : xN u ≤ 3072) (h : Pr u B' 57 129 [.int (xX u (i + 1))] hi hl) (hn : ∀ hi2 hl2, InvE B' hi2 hl2 → Wp u 228 18 [.ref 99, .ref 0, .ref 51, .int (nI (i + 6))] [] hi2 hl2 K) : vc u (n + 150) 228 339 [.ref 99, .ref 0, .ref 51, .int (nI i)] [] hi hl K := by
  unfold Pr at h
  simp (disch := omega) only [b_Law_law_339, true_and, and_true, true_implies, false_implies, not_true_eq_false, not_false_eq_true, eq_self, or_true, true_or, false_or, or_false, false_and, and_false, Option.toList_some, Option.toList_none, List.cons_append, List.nil_append, n10, n01, e10, e01, e08, e18, e28, e38, e48, e58, e68, e78, lt_lit, nI_add, pk_mul, n_le, n_lt, n_eq, n_cl, n_in, n_sub, n_div, n_rem, n_ite, Nat.zero_add, k_0, k_51]
  refine Call.mono h ?_
  intro r hi1 hl1 hr
  obtain ⟨v, e, q⟩ := hr
  subst e
  simp (disch := omega) only [b_Law_law_348, true_and, and_true, true_implies, false_implies, not_true_eq_false, not_false_eq_true, eq_self, or_true, true_or, false_or, or_false, false_and, and_false, Option.toList_some, Option.toList_none, List.cons_append, List.nil_append, n10, n01, e10, e01, e08, e18, e28, e38, e48, e58, e68, e78, lt_lit, nI_add, pk_mul, n_le, n_lt, n_eq, n_cl, n_in, n_sub, n_div, n_rem, n_ite, Nat.zero_add, k_0, k_51]
  refine Call.mono q ?_
  intro r' hi2 hl2 hr
  obtain ⟨e, q2⟩ := hr
  subst e
  simp (disch := omega) only [b_Law_law_358, b_Law_law_1594, true_and, and_true, true_implies, false_implies, not_true_eq_false, not_false_eq_true, eq_self, or_true, true_or, false_or, or_false, false_and, and_false, Option.toList_some, Option.toList_none, List.cons_append, List.nil_append, n10, n01, e10, e01, e08, e18, e28, e38, e48, e58, e68, e78, lt_lit, nI_add, pk_mul, n_le, n_lt, n_eq, n_cl, n_in, n_sub, n_div, n_rem, n_ite, Nat.zero_add, k_0, k_51]
  exact hn hi2 hl2 q2
set_option maxRecDepth 20000 in
theorem law_4 (hi6 : i + 6 ≤ xN u) (hN : xN u ≤ 3072) (h : Pr u B' 58 130 [.int (xX u (i + 1)), .int (xX u (i + 2))] hi hl) (hn : ∀ hi2 hl2, InvE B' hi2 hl2 → Wp u 228 18 [.ref 99, .ref 0, .ref 51, .int (nI (i + 6))] [] hi2 hl2 K) : vc u (n + 150) 228 362 [.ref 99, .ref 0, .ref 51, .int (nI i)] [] hi hl K := by
  unfold Pr at h
  simp (disch := omega) only [b_Law_law_362, true_and, and_true, true_implies, false_implies, not_true_eq_false, not_false_eq_true, eq_self, or_true, true_or, false_or, or_false, false_and, and_false, Option.toList_some, Option.toList_none, List.cons_append, List.nil_append, n10, n01, e10, e01, e08, e18, e28, e38, e48, e58, e68, e78, lt_lit, nI_add, pk_mul, n_le, n_lt, n_eq, n_cl, n_in, n_sub, n_div, n_rem, n_ite, Nat.zero_add, k_0, k_51]
  refine Call.mono h ?_
  intro r hi1 hl1 hr
  obtain ⟨v, e, q⟩ := hr
  subst e
  simp (disch := omega) only [b_Law_law_376, true_and, and_true, true_implies, false_implies, not_true_eq_false, not_false_eq_true, eq_self, or_true, true_or, false_or, or_false, false_and, and_false, Option.toList_some, Option.toList_none, List.cons_append, List.nil_append, n10, n01, e10, e01, e08, e18, e28, e38, e48, e58, e68, e78, lt_lit, nI_add, pk_mul, n_le, n_lt, n_eq, n_cl, n_in, n_sub, n_div, n_rem, n_ite, Nat.zero_add, k_0, k_51]
  refine Call.mono q ?_
  intro r' hi2 hl2 hr
  obtain ⟨e, q2⟩ := hr
  subst e
  simp (disch := omega) only [b_Law_law_391, b_Law_law_1594, true_and, and_true, true_implies, false_implies, not_true_eq_false, not_false_eq_true, eq_self, or_true, true_or, false_or, or_false, false_and, and_false, Option.toList_some, Option.toList_none, List.cons_append, List.nil_append, n10, n01, e10, e01, e08, e18, e28, e38, e48, e58, e68, e78, lt_lit, nI_add, pk_mul, n_le, n_lt, n_eq, n_cl, n_in, n_sub, n_div, n_rem, n_ite, Nat.zero_add, k_0, k_51]
  exact hn hi2 hl2 q2
set_option maxRecDepth 20000 in
theorem law_5 (hi6 : i + 6 ≤ xN u) (hN : xN u ≤ 3072) (h : Pr u B' 60 137 [.int (xX u (i + 1)), .int (xX u (i + 2)), .int (xX u (i + 3))] hi hl) (hn : ∀ hi2 hl2, InvE B' hi2 hl2 → Wp u 228 18 [.ref 99, .ref 0, .ref 51, .int (nI (i + 6))] [] hi2 hl2 K) : vc u (n + 150) 228 395 [.ref 99, .ref 0, .ref 51, .int (nI i)] [] hi hl K := by
  unfold Pr at h
  simp (disch := omega) only [b_Law_law_395, true_and, and_true, true_implies, false_implies, not_true_eq_false, not_false_eq_true, eq_self, or_true, true_or, false_or, or_false, false_and, and_false, Option.toList_some, Option.toList_none, List.cons_append, List.nil_append, n10, n01, e10, e01, e08, e18, e28, e38, e48, e58, e68, e78, lt_lit, nI_add, pk_mul, n_le, n_lt, n_eq, n_cl, n_in, n_sub, n_div, n_rem, n_ite, Nat.zero_add, k_0, k_51]
  refine Call.mono h ?_
  intro r hi1 hl1 hr
  obtain ⟨v, e, q⟩ := hr
  subst e
  simp (disch := omega) only [b_Law_law_414, true_and, and_true, true_implies, false_implies, not_true_eq_false, not_false_eq_true, eq_self, or_true, true_or, false_or, or_false, false_and, and_false, Option.toList_some, Option.toList_none, List.cons_append, List.nil_append, n10, n01, e10, e01, e08, e18, e28, e38, e48, e58, e68, e78, lt_lit, nI_add, pk_mul, n_le, n_lt, n_eq, n_cl, n_in, n_sub, n_div, n_rem, n_ite, Nat.zero_add, k_0, k_51]
  refine Call.mono q ?_
  intro r' hi2 hl2 hr
  obtain ⟨e, q2⟩ := hr
  subst e
  simp (disch := omega) only [b_Law_law_434, b_Law_law_1594, true_and, and_true, true_implies, false_implies, not_true_eq_false, not_false_eq_true, eq_self, or_true, true_or, false_or, or_false, false_and, and_false, Option.toList_some, Option.toList_none, List.cons_append, List.nil_append, n10, n01, e10, e01, e08, e18, e28, e38, e48, e58, e68, e78, lt_lit, nI_add, pk_mul, n_le, n_lt, n_eq, n_cl, n_in, n_sub, n_div, n_rem, n_ite, Nat.zero_add, k_0, k_51]
  exact hn hi2 hl2 q2
set_option maxRecDepth 20000 in
theorem law_6 (hi6 : i + 6 ≤ xN u) (hN : xN u ≤ 3072) (h : Pr u B' 61 141 [.int (xX u (i + 1)), .int (xX u (i + 2))] hi hl) (hn : ∀ hi2 hl2, InvE B' hi2 hl2 → Wp u 228 18 [.ref 99, .ref 0, .ref 51, .int (nI (i + 6))] [] hi2 hl2 K) : vc u (n + 150) 228 438 [.ref 99, .ref 0, .ref 51, .int (nI i)] [] hi hl K := by
  unfold Pr at h
  simp (disch := omega) only [b_Law_law_438, true_and, and_true, true_implies, false_implies, not_true_eq_false, not_false_eq_true, eq_self, or_true, true_or, false_or, or_false, false_and, and_false, Option.toList_some, Option.toList_none, List.cons_append, List.nil_append, n10, n01, e10, e01, e08, e18, e28, e38, e48, e58, e68, e78, lt_lit, nI_add, pk_mul, n_le, n_lt, n_eq, n_cl, n_in, n_sub, n_div, n_rem, n_ite, Nat.zero_add, k_0, k_51]
  refine Call.mono h ?_
  intro r hi1 hl1 hr
  obtain ⟨v, e, q⟩ := hr
  subst e
  simp (disch := omega) only [b_Law_law_452, true_and, and_true, true_implies, false_implies, not_true_eq_false, not_false_eq_true, eq_self, or_true, true_or, false_or, or_false, false_and, and_false, Option.toList_some, Option.toList_none, List.cons_append, List.nil_append, n10, n01, e10, e01, e08, e18, e28, e38, e48, e58, e68, e78, lt_lit, nI_add, pk_mul, n_le, n_lt, n_eq, n_cl, n_in, n_sub, n_div, n_rem, n_ite, Nat.zero_add, k_0, k_51]
  refine Call.mono q ?_
  intro r' hi2 hl2 hr
  obtain ⟨e, q2⟩ := hr
  subst e
  simp (disch := omega) only [b_Law_law_467, b_Law_law_1594, true_and, and_true, true_implies, false_implies, not_true_eq_false, not_false_eq_true, eq_self, or_true, true_or, false_or, or_false, false_and, and_false, Option.toList_some, Option.toList_none, List.cons_append, List.nil_append, n10, n01, e10, e01, e08, e18, e28, e38, e48, e58, e68, e78, lt_lit, nI_add, pk_mul, n_le, n_lt, n_eq, n_cl, n_in, n_sub, n_div, n_rem, n_ite, Nat.zero_add, k_0, k_51]
  exact hn hi2 hl2 q2
set_option maxRecDepth 20000 in
theorem law_7 (hi6 : i + 6 ≤ xN u) (hN : xN u ≤ 3072) (h : Pr u B' 62 142 [.int (xX u (i + 1)), .int (xX u (i + 2)), .int (xX u (i + 3))] hi hl) (hn : ∀ hi2 hl2, InvE B' hi2 hl2 → Wp u 228 18 [.ref 99, .ref 0, .ref 51, .int (nI (i + 6))] [] hi2 hl2 K) : vc u (n + 150) 228 471 [.ref 99, .ref 0, .ref 51, .int (nI i)] [] hi hl K := by
  unfold Pr at h
  simp (disch := omega) only [b_Law_law_471, true_and, and_true, true_implies, false_implies, not_true_eq_false, not_false_eq_true, eq_self, or_true, true_or, false_or, or_false, false_and, and_false, Option.toList_some, Option.toList_none, List.cons_append, List.nil_append, n10, n01, e10, e01, e08, e18, e28, e38, e48, e58, e68, e78, lt_lit, nI_add, pk_mul, n_le, n_lt, n_eq, n_cl, n_in, n_sub, n_div, n_rem, n_ite, Nat.zero_add, k_0, k_51]
  refine Call.mono h ?_
  intro r hi1 hl1 hr
  obtain ⟨v, e, q⟩ := hr
  subst e
  simp (disch := omega) only [b_Law_law_490, true_and, and_true, true_implies, false_implies, not_true_eq_false, not_false_eq_true, eq_self, or_true, true_or, false_or, or_false, false_and, and_false, Option.toList_some, Option.toList_none, List.cons_append, List.nil_append, n10, n01, e10, e01, e08, e18, e28, e38, e48, e58, e68, e78, lt_lit, nI_add, pk_mul, n_le, n_lt, n_eq, n_cl, n_in, n_sub, n_div, n_rem, n_ite, Nat.zero_add, k_0, k_51]
  refine Call.mono q ?_
  intro r' hi2 hl2 hr
  obtain ⟨e, q2⟩ := hr
  subst e
  simp (disch := omega) only [b_Law_law_510, b_Law_law_1594, true_and, and_true, true_implies, false_implies, not_true_eq_false, not_false_eq_true, eq_self, or_true, true_or, false_or, or_false, false_and, and_false, Option.toList_some, Option.toList_none, List.cons_append, List.nil_append, n10, n01, e10, e01, e08, e18, e28, e38, e48, e58, e68, e78, lt_lit, nI_add, pk_mul, n_le, n_lt, n_eq, n_cl, n_in, n_sub, n_div, n_rem, n_ite, Nat.zero_add, k_0, k_51]
  exact hn hi2 hl2 q2
set_option maxRecDepth 20000 in
theorem law_8 (hi6 : i + 6 ≤ xN u) (hN : xN u ≤ 3072) (h : Pr u B' 64 143 [.int (xX u (i + 1)), .int (xX u (i + 2))] hi hl) (hn : ∀ hi2 hl2, InvE B' hi2 hl2 → Wp u 228 18 [.ref 99, .ref 0, .ref 51, .int (nI (i + 6))] [] hi2 hl2 K) : vc u (n + 150) 228 514 [.ref 99, .ref 0, .ref 51, .int (nI i)] [] hi hl K := by
  unfold Pr at h
  simp (disch := omega) only [b_Law_law_514, true_and, and_true, true_implies, false_implies, not_true_eq_false, not_false_eq_true, eq_self, or_true, true_or, false_or, or_false, false_and, and_false, Option.toList_some, Option.toList_none, List.cons_append, List.nil_append, n10, n01, e10, e01, e08, e18, e28, e38, e48, e58, e68, e78, lt_lit, nI_add, pk_mul, n_le, n_lt, n_eq, n_cl, n_in, n_sub, n_div, n_rem, n_ite, Nat.zero_add, k_0, k_51]
  refine Call.mono h ?_
  intro r hi1 hl1 hr
  obtain ⟨v, e, q⟩ := hr
  subst e
  simp (disch := omega) only [b_Law_law_528, true_and, and_true, true_implies, false_implies, not_true_eq_false, not_false_eq_true, eq_self, or_true, true_or, false_or, or_false, false_and, and_false, Option.toList_some, Option.toList_none, List.cons_append, List.nil_append, n10, n01, e10, e01, e08, e18, e28, e38, e48, e58, e68, e78, lt_lit, nI_add, pk_mul, n_le, n_lt, n_eq, n_cl, n_in, n_sub, n_div, n_rem, n_ite, Nat.zero_add, k_0, k_51]
  refine Call.mono q ?_
  intro r' hi2 hl2 hr
  obtain ⟨e, q2⟩ := hr
  subst e
  simp (disch := omega) only [b_Law_law_543, b_Law_law_1594, true_and, and_true, true_implies, false_implies, not_true_eq_false, not_false_eq_true, eq_self, or_true, true_or, false_or, or_false, false_and, and_false, Option.toList_some, Option.toList_none, List.cons_append, List.nil_append, n10, n01, e10, e01, e08, e18, e28, e38, e48, e58, e68, e78, lt_lit, nI_add, pk_mul, n_le, n_lt, n_eq, n_cl, n_in, n_sub, n_div, n_rem, n_ite, Nat.zero_add, k_0, k_51]
  exact hn hi2 hl2 q2
set_option maxRecDepth 20000 in
theorem law_9 (hi6 : i + 6 ≤ xN u) (hN : xN u ≤ 3072) (h : Pr u B' 65 145 [.int (xX u (i + 1)), .int (xX u (i + 2))] hi hl) (hn : ∀ hi2 hl2, InvE B' hi2 hl2 → Wp u 228 18 [.ref 99, .ref 0, .ref 51, .int (nI (i + 6))] [] hi2 hl2 K) : vc u (n + 150) 228 547 [.ref 99, .ref 0, .ref 51, .int (nI i)] [] hi hl K := by
  unfold Pr at h
  simp (disch := omega) only [b_Law_law_547, true_and, and_true, true_implies, false_implies, not_true_eq_false, not_false_eq_true, eq_self, or_true, true_or, false_or, or_false, false_and, and_false, Option.toList_some, Option.toList_none, List.cons_append, List.nil_append, n10, n01, e10, e01, e08, e18, e28, e38, e48, e58, e68, e78, lt_lit, nI_add, pk_mul, n_le, n_lt, n_eq, n_cl, n_in, n_sub, n_div, n_rem, n_ite, Nat.zero_add, k_0, k_51]
  refine Call.mono h ?_
  intro r hi1 hl1 hr
  obtain ⟨v, e, q⟩ := hr
  subst e
  simp (disch := omega) only [b_Law_law_561, true_and, and_true, true_implies, false_implies, not_true_eq_false, not_false_eq_true, eq_self, or_true, true_or, false_or, or_false, false_and, and_false, Option.toList_some, Option.toList_none, List.cons_append, List.nil_append, n10, n01, e10, e01, e08, e18, e28, e38, e48, e58, e68, e78, lt_lit, nI_add, pk_mul, n_le, n_lt, n_eq, n_cl, n_in, n_sub, n_div, n_rem, n_ite, Nat.zero_add, k_0, k_51]
  refine Call.mono q ?_
  intro r' hi2 hl2 hr
  obtain ⟨e, q2⟩ := hr
  subst e
  simp (disch := omega) only [b_Law_law_576, b_Law_law_1594, true_and, and_true, true_implies, false_implies, not_true_eq_false, not_false_eq_true, eq_self, or_true, true_or, false_or, or_false, false_and, and_false, Option.toList_some, Option.toList_none, List.cons_append, List.nil_append, n10, n01, e10, e01, e08, e18, e28, e38, e48, e58, e68, e78, lt_lit, nI_add, pk_mul, n_le, n_lt, n_eq, n_cl, n_in, n_sub, n_div, n_rem, n_ite, Nat.zero_add, k_0, k_51]
  exact hn hi2 hl2 q2
set_option maxRecDepth 20000 in
theorem law_10 (hi6 : i + 6 ≤ xN u) (hN : xN u ≤ 3072) (h : Pr u B' 66 146 [.int (xX u (i + 1)), .int (xX u (i + 2))] hi hl) (hn : ∀ hi2 hl2, InvE B' hi2 hl2 → Wp u 228 18 [.ref 99, .ref 0, .ref 51, .int (nI (i + 6))] [] hi2 hl2 K) : vc u (n + 150) 228 580 [.ref 99, .ref 0, .ref 51, .int (nI i)] [] hi hl K := by
  unfold Pr at h
  simp (disch := omega) only [b_Law_law_580, true_and, and_true, true_implies, false_implies, not_true_eq_false, not_false_eq_true, eq_self, or_true, true_or, false_or, or_false, false_and, and_false, Option.toList_some, Option.toList_none, List.cons_append, List.nil_append, n10, n01, e10, e01, e08, e18, e28, e38, e48, e58, e68, e78, lt_lit, nI_add, pk_mul, n_le, n_lt, n_eq, n_cl, n_in, n_sub, n_div, n_rem, n_ite, Nat.zero_add, k_0, k_51]
  refine Call.mono h ?_
  intro r hi1 hl1 hr
  obtain ⟨v, e, q⟩ := hr
  subst e
  simp (disch := omega) only [b_Law_law_594, true_and, and_true, true_implies, false_implies, not_true_eq_false, not_false_eq_true, eq_self, or_true, true_or, false_or, or_false, false_and, and_false, Option.toList_some, Option.toList_none, List.cons_append, List.nil_append, n10, n01, e10, e01, e08, e18, e28, e38, e48, e58, e68, e78, lt_lit, nI_add, pk_mul, n_le, n_lt, n_eq, n_cl, n_in, n_sub, n_div, n_rem, n_ite, Nat.zero_add, k_0, k_51]
  refine Call.mono q ?_
  intro r' hi2 hl2 hr
  obtain ⟨e, q2⟩ := hr
  subst e
  simp (disch := omega) only [b_Law_law_609, b_Law_law_1594, true_and, and_true, true_implies, false_implies, not_true_eq_false, not_false_eq_true, eq_self, or_true, true_or, false_or, or_false, false_and, and_false, Option.toList_some, Option.toList_none, List.cons_append, List.nil_append, n10, n01, e10, e01, e08, e18, e28, e38, e48, e58, e68, e78, lt_lit, nI_add, pk_mul, n_le, n_lt, n_eq, n_cl, n_in, n_sub, n_div, n_rem, n_ite, Nat.zero_add, k_0, k_51]
  exact hn hi2 hl2 q2
set_option maxRecDepth 20000 in
theorem law_11 (hi6 : i + 6 ≤ xN u) (hN : xN u ≤ 3072) (h : Pr u B' 67 147 [.int (xX u (i + 1))] hi hl) (hn : ∀ hi2 hl2, InvE B' hi2 hl2 → Wp u 228 18 [.ref 99, .ref 0, .ref 51, .int (nI (i + 6))] [] hi2 hl2 K) : vc u (n + 150) 228 613 [.ref 99, .ref 0, .ref 51, .int (nI i)] [] hi hl K := by
  unfold Pr at h
  simp (disch := omega) only [b_Law_law_613, true_and, and_true, true_implies, false_implies, not_true_eq_false, not_false_eq_true, eq_self, or_true, true_or, false_or, or_false, false_and, and_false, Option.toList_some, Option.toList_none, List.cons_append, List.nil_append, n10, n01, e10, e01, e08, e18, e28, e38, e48, e58, e68, e78, lt_lit, nI_add, pk_mul, n_le, n_lt, n_eq, n_cl, n_in, n_sub, n_div, n_rem, n_ite, Nat.zero_add, k_0, k_51]
  refine Call.mono h ?_
  intro r hi1 hl1 hr
  obtain ⟨v, e, q⟩ := hr
  subst e
  simp (disch := omega) only [b_Law_law_622, true_and, and_true, true_implies, false_implies, not_true_eq_false, not_false_eq_true, eq_self, or_true, true_or, false_or, or_false, false_and, and_false, Option.toList_some, Option.toList_none, List.cons_append, List.nil_append, n10, n01, e10, e01, e08, e18, e28, e38, e48, e58, e68, e78, lt_lit, nI_add, pk_mul, n_le, n_lt, n_eq, n_cl, n_in, n_sub, n_div, n_rem, n_ite, Nat.zero_add, k_0, k_51]
  refine Call.mono q ?_
  intro r' hi2 hl2 hr
  obtain ⟨e, q2⟩ := hr
  subst e
  simp (disch := omega) only [b_Law_law_632, b_Law_law_1594, true_and, and_true, true_implies, false_implies, not_true_eq_false, not_false_eq_true, eq_self, or_true, true_or, false_or, or_false, false_and, and_false, Option.toList_some, Option.toList_none, List.cons_append, List.nil_append, n10, n01, e10, e01, e08, e18, e28, e38, e48, e58, e68, e78, lt_lit, nI_add, pk_mul, n_le, n_lt, n_eq, n_cl, n_in, n_sub, n_div, n_rem, n_ite, Nat.zero_add, k_0, k_51]
  exact hn hi2 hl2 q2
set_option maxRecDepth 20000 in
theorem law_12 (hi6 : i + 6 ≤ xN u) (hN : xN u ≤ 3072) (h : Pr u B' 68 154 [.int (xX u (i + 1))] hi hl) (hn : ∀ hi2 hl2, InvE B' hi2 hl2 → Wp u 228 18 [.ref 99, .ref 0, .ref 51, .int (nI (i + 6))] [] hi2 hl2 K) : vc u (n + 150) 228 636 [.ref 99, .ref 0, .ref 51, .int (nI i)] [] hi hl K := by
  unfold Pr at h
  simp (disch := omega) only [b_Law_law_636, true_and, and_true, true_implies, false_implies, not_true_eq_false, not_false_eq_true, eq_self, or_true, true_or, false_or, or_false, false_and, and_false, Option.toList_some, Option.toList_none, List.cons_append, List.nil_append, n10, n01, e10, e01, e08, e18, e28, e38, e48, e58, e68, e78, lt_lit, nI_add, pk_mul, n_le, n_lt, n_eq, n_cl, n_in, n_sub, n_div, n_rem, n_ite, Nat.zero_add, k_0, k_51]
  refine Call.mono h ?_
  intro r hi1 hl1 hr
  obtain ⟨v, e, q⟩ := hr
  subst e
  simp (disch := omega) only [b_Law_law_645, true_and, and_true, true_implies, false_implies, not_true_eq_false, not_false_eq_true, eq_self, or_true, true_or, false_or, or_false, false_and, and_false, Option.toList_some, Option.toList_none, List.cons_append, List.nil_append, n10, n01, e10, e01, e08, e18, e28, e38, e48, e58, e68, e78, lt_lit, nI_add, pk_mul, n_le, n_lt, n_eq, n_cl, n_in, n_sub, n_div, n_rem, n_ite, Nat.zero_add, k_0, k_51]
  refine Call.mono q ?_
  intro r' hi2 hl2 hr
  obtain ⟨e, q2⟩ := hr
  subst e
  simp (disch := omega) only [b_Law_law_655, b_Law_law_1594, true_and, and_true, true_implies, false_implies, not_true_eq_false, not_false_eq_true, eq_self, or_true, true_or, false_or, or_false, false_and, and_false, Option.toList_some, Option.toList_none, List.cons_append, List.nil_append, n10, n01, e10, e01, e08, e18, e28, e38, e48, e58, e68, e78, lt_lit, nI_add, pk_mul, n_le, n_lt, n_eq, n_cl, n_in, n_sub, n_div, n_rem, n_ite, Nat.zero_add, k_0, k_51]
  exact hn hi2 hl2 q2
set_option maxRecDepth 20000 in
theorem law_13 (hi6 : i + 6 ≤ xN u) (hN : xN u ≤ 3072) (h : Pr u B' 69 155 [] hi hl) (hn : ∀ hi2 hl2, InvE B' hi2 hl2 → Wp u 228 18 [.ref 99, .ref 0, .ref 51, .int (nI (i + 6))] [] hi2 hl2 K) : vc u (n + 150) 228 659 [.ref 99, .ref 0, .ref 51, .int (nI i)] [] hi hl K := by
  unfold Pr at h
  simp (disch := omega) only [b_Law_law_659, true_and, and_true, true_implies, false_implies, not_true_eq_false, not_false_eq_true, eq_self, or_true, true_or, false_or, or_false, false_and, and_false, Option.toList_some, Option.toList_none, List.cons_append, List.nil_append, n10, n01, e10, e01, e08, e18, e28, e38, e48, e58, e68, e78, lt_lit, nI_add, pk_mul, n_le, n_lt, n_eq, n_cl, n_in, n_sub, n_div, n_rem, n_ite, Nat.zero_add, k_0, k_51]
  refine Call.mono h ?_
  intro r hi1 hl1 hr
  obtain ⟨v, e, q⟩ := hr
  subst e
  simp (disch := omega) only [b_Law_law_663, true_and, and_true, true_implies, false_implies, not_true_eq_false, not_false_eq_true, eq_self, or_true, true_or, false_or, or_false, false_and, and_false, Option.toList_some, Option.toList_none, List.cons_append, List.nil_append, n10, n01, e10, e01, e08, e18, e28, e38, e48, e58, e68, e78, lt_lit, nI_add, pk_mul, n_le, n_lt, n_eq, n_cl, n_in, n_sub, n_div, n_rem, n_ite, Nat.zero_add, k_0, k_51]
  refine Call.mono q ?_
  intro r' hi2 hl2 hr
  obtain ⟨e, q2⟩ := hr
  subst e
  simp (disch := omega) only [b_Law_law_668, b_Law_law_1594, true_and, and_true, true_implies, false_implies, not_true_eq_false, not_false_eq_true, eq_self, or_true, true_or, false_or, or_false, false_and, and_false, Option.toList_some, Option.toList_none, List.cons_append, List.nil_append, n10, n01, e10, e01, e08, e18, e28, e38, e48, e58, e68, e78, lt_lit, nI_add, pk_mul, n_le, n_lt, n_eq, n_cl, n_in, n_sub, n_div, n_rem, n_ite, Nat.zero_add, k_0, k_51]
  exact hn hi2 hl2 q2
set_option maxRecDepth 20000 in
theorem law_14 (hi6 : i + 6 ≤ xN u) (hN : xN u ≤ 3072) (h : Pr u B' 70 157 [] hi hl) (hn : ∀ hi2 hl2, InvE B' hi2 hl2 → Wp u 228 18 [.ref 99, .ref 0, .ref 51, .int (nI (i + 6))] [] hi2 hl2 K) : vc u (n + 150) 228 672 [.ref 99, .ref 0, .ref 51, .int (nI i)] [] hi hl K := by
  unfold Pr at h
  simp (disch := omega) only [b_Law_law_672, true_and, and_true, true_implies, false_implies, not_true_eq_false, not_false_eq_true, eq_self, or_true, true_or, false_or, or_false, false_and, and_false, Option.toList_some, Option.toList_none, List.cons_append, List.nil_append, n10, n01, e10, e01, e08, e18, e28, e38, e48, e58, e68, e78, lt_lit, nI_add, pk_mul, n_le, n_lt, n_eq, n_cl, n_in, n_sub, n_div, n_rem, n_ite, Nat.zero_add, k_0, k_51]
  refine Call.mono h ?_
  intro r hi1 hl1 hr
  obtain ⟨v, e, q⟩ := hr
  subst e
  simp (disch := omega) only [b_Law_law_676, true_and, and_true, true_implies, false_implies, not_true_eq_false, not_false_eq_true, eq_self, or_true, true_or, false_or, or_false, false_and, and_false, Option.toList_some, Option.toList_none, List.cons_append, List.nil_append, n10, n01, e10, e01, e08, e18, e28, e38, e48, e58, e68, e78, lt_lit, nI_add, pk_mul, n_le, n_lt, n_eq, n_cl, n_in, n_sub, n_div, n_rem, n_ite, Nat.zero_add, k_0, k_51]
  refine Call.mono q ?_
  intro r' hi2 hl2 hr
  obtain ⟨e, q2⟩ := hr
  subst e
  simp (disch := omega) only [b_Law_law_681, b_Law_law_1594, true_and, and_true, true_implies, false_implies, not_true_eq_false, not_false_eq_true, eq_self, or_true, true_or, false_or, or_false, false_and, and_false, Option.toList_some, Option.toList_none, List.cons_append, List.nil_append, n10, n01, e10, e01, e08, e18, e28, e38, e48, e58, e68, e78, lt_lit, nI_add, pk_mul, n_le, n_lt, n_eq, n_cl, n_in, n_sub, n_div, n_rem, n_ite, Nat.zero_add, k_0, k_51]
  exact hn hi2 hl2 q2
set_option maxRecDepth 20000 in
theorem law_15 (hi6 : i + 6 ≤ xN u) (hN : xN u ≤ 3072) (h : Pr u B' 71 158 [.int (xX u (i + 1))] hi hl) (hn : ∀ hi2 hl2, InvE B' hi2 hl2 → Wp u 228 18 [.ref 99, .ref 0, .ref 51, .int (nI (i + 6))] [] hi2 hl2 K) : vc u (n + 150) 228 685 [.ref 99, .ref 0, .ref 51, .int (nI i)] [] hi hl K := by
  unfold Pr at h
  simp (disch := omega) only [b_Law_law_685, true_and, and_true, true_implies, false_implies, not_true_eq_false, not_false_eq_true, eq_self, or_true, true_or, false_or, or_false, false_and, and_false, Option.toList_some, Option.toList_none, List.cons_append, List.nil_append, n10, n01, e10, e01, e08, e18, e28, e38, e48, e58, e68, e78, lt_lit, nI_add, pk_mul, n_le, n_lt, n_eq, n_cl, n_in, n_sub, n_div, n_rem, n_ite, Nat.zero_add, k_0, k_51]
  refine Call.mono h ?_
  intro r hi1 hl1 hr
  obtain ⟨v, e, q⟩ := hr
  subst e
  simp (disch := omega) only [b_Law_law_694, true_and, and_true, true_implies, false_implies, not_true_eq_false, not_false_eq_true, eq_self, or_true, true_or, false_or, or_false, false_and, and_false, Option.toList_some, Option.toList_none, List.cons_append, List.nil_append, n10, n01, e10, e01, e08, e18, e28, e38, e48, e58, e68, e78, lt_lit, nI_add, pk_mul, n_le, n_lt, n_eq, n_cl, n_in, n_sub, n_div, n_rem, n_ite, Nat.zero_add, k_0, k_51]
  refine Call.mono q ?_
  intro r' hi2 hl2 hr
  obtain ⟨e, q2⟩ := hr
  subst e
  simp (disch := omega) only [b_Law_law_704, b_Law_law_1594, true_and, and_true, true_implies, false_implies, not_true_eq_false, not_false_eq_true, eq_self, or_true, true_or, false_or, or_false, false_and, and_false, Option.toList_some, Option.toList_none, List.cons_append, List.nil_append, n10, n01, e10, e01, e08, e18, e28, e38, e48, e58, e68, e78, lt_lit, nI_add, pk_mul, n_le, n_lt, n_eq, n_cl, n_in, n_sub, n_div, n_rem, n_ite, Nat.zero_add, k_0, k_51]
  exact hn hi2 hl2 q2
set_option maxRecDepth 20000 in
theorem law_16 (hi6 : i + 6 ≤ xN u) (hN : xN u ≤ 3072) (h : Pr u B' 72 160 [.int (xX u (i + 1)), .int (xX u (i + 2))] hi hl) (hn : ∀ hi2 hl2, InvE B' hi2 hl2 → Wp u 228 18 [.ref 99, .ref 0, .ref 51, .int (nI (i + 6))] [] hi2 hl2 K) : vc u (n + 150) 228 708 [.ref 99, .ref 0, .ref 51, .int (nI i)] [] hi hl K := by
  unfold Pr at h
  simp (disch := omega) only [b_Law_law_708, true_and, and_true, true_implies, false_implies, not_true_eq_false, not_false_eq_true, eq_self, or_true, true_or, false_or, or_false, false_and, and_false, Option.toList_some, Option.toList_none, List.cons_append, List.nil_append, n10, n01, e10, e01, e08, e18, e28, e38, e48, e58, e68, e78, lt_lit, nI_add, pk_mul, n_le, n_lt, n_eq, n_cl, n_in, n_sub, n_div, n_rem, n_ite, Nat.zero_add, k_0, k_51]
  refine Call.mono h ?_
  intro r hi1 hl1 hr
  obtain ⟨v, e, q⟩ := hr
  subst e
  simp (disch := omega) only [b_Law_law_722, true_and, and_true, true_implies, false_implies, not_true_eq_false, not_false_eq_true, eq_self, or_true, true_or, false_or, or_false, false_and, and_false, Option.toList_some, Option.toList_none, List.cons_append, List.nil_append, n10, n01, e10, e01, e08, e18, e28, e38, e48, e58, e68, e78, lt_lit, nI_add, pk_mul, n_le, n_lt, n_eq, n_cl, n_in, n_sub, n_div, n_rem, n_ite, Nat.zero_add, k_0, k_51]
  refine Call.mono q ?_
  intro r' hi2 hl2 hr
  obtain ⟨e, q2⟩ := hr
  subst e
  simp (disch := omega) only [b_Law_law_737, b_Law_law_1594, true_and, and_true, true_implies, false_implies, not_true_eq_false, not_false_eq_true, eq_self, or_true, true_or, false_or, or_false, false_and, and_false, Option.toList_some, Option.toList_none, List.cons_append, List.nil_append, n10, n01, e10, e01, e08, e18, e28, e38, e48, e58, e68, e78, lt_lit, nI_add, pk_mul, n_le, n_lt, n_eq, n_cl, n_in, n_sub, n_div, n_rem, n_ite, Nat.zero_add, k_0, k_51]
  exact hn hi2 hl2 q2
set_option maxRecDepth 20000 in
theorem law_17 (hi6 : i + 6 ≤ xN u) (hN : xN u ≤ 3072) (h : Pr u B' 73 161 [.int (xX u (i + 1)), .int (xX u (i + 2))] hi hl) (hn : ∀ hi2 hl2, InvE B' hi2 hl2 → Wp u 228 18 [.ref 99, .ref 0, .ref 51, .int (nI (i + 6))] [] hi2 hl2 K) : vc u (n + 150) 228 741 [.ref 99, .ref 0, .ref 51, .int (nI i)] [] hi hl K := by
  unfold Pr at h
  simp (disch := omega) only [b_Law_law_741, true_and, and_true, true_implies, false_implies, not_true_eq_false, not_false_eq_true, eq_self, or_true, true_or, false_or, or_false, false_and, and_false, Option.toList_some, Option.toList_none, List.cons_append, List.nil_append, n10, n01, e10, e01, e08, e18, e28, e38, e48, e58, e68, e78, lt_lit, nI_add, pk_mul, n_le, n_lt, n_eq, n_cl, n_in, n_sub, n_div, n_rem, n_ite, Nat.zero_add, k_0, k_51]
  refine Call.mono h ?_
  intro r hi1 hl1 hr
  obtain ⟨v, e, q⟩ := hr
  subst e
  simp (disch := omega) only [b_Law_law_755, true_and, and_true, true_implies, false_implies, not_true_eq_false, not_false_eq_true, eq_self, or_true, true_or, false_or, or_false, false_and, and_false, Option.toList_some, Option.toList_none, List.cons_append, List.nil_append, n10, n01, e10, e01, e08, e18, e28, e38, e48, e58, e68, e78, lt_lit, nI_add, pk_mul, n_le, n_lt, n_eq, n_cl, n_in, n_sub, n_div, n_rem, n_ite, Nat.zero_add, k_0, k_51]
  refine Call.mono q ?_
  intro r' hi2 hl2 hr
  obtain ⟨e, q2⟩ := hr
  subst e
  simp (disch := omega) only [b_Law_law_770, b_Law_law_1594, true_and, and_true, true_implies, false_implies, not_true_eq_false, not_false_eq_true, eq_self, or_true, true_or, false_or, or_false, false_and, and_false, Option.toList_some, Option.toList_none, List.cons_append, List.nil_append, n10, n01, e10, e01, e08, e18, e28, e38, e48, e58, e68, e78, lt_lit, nI_add, pk_mul, n_le, n_lt, n_eq, n_cl, n_in, n_sub, n_div, n_rem, n_ite, Nat.zero_add, k_0, k_51]
  exact hn hi2 hl2 q2
set_option maxRecDepth 20000 in
theorem law_18 (hi6 : i + 6 ≤ xN u) (hN : xN u ≤ 3072) (h : Pr u B' 74 162 [.int (xX u (i + 1))] hi hl) (hn : ∀ hi2 hl2, InvE B' hi2 hl2 → Wp u 228 18 [.ref 99, .ref 0, .ref 51, .int (nI (i + 6))] [] hi2 hl2 K) : vc u (n + 150) 228 774 [.ref 99, .ref 0, .ref 51, .int (nI i)] [] hi hl K := by
  unfold Pr at h
  simp (disch := omega) only [b_Law_law_774, true_and, and_true, true_implies, false_implies, not_true_eq_false, not_false_eq_true, eq_self, or_true, true_or, false_or, or_false, false_and, and_false, Option.toList_some, Option.toList_none, List.cons_append, List.nil_append, n10, n01, e10, e01, e08, e18, e28, e38, e48, e58, e68, e78, lt_lit, nI_add, pk_mul, n_le, n_lt, n_eq, n_cl, n_in, n_sub, n_div, n_rem, n_ite, Nat.zero_add, k_0, k_51]
  refine Call.mono h ?_
  intro r hi1 hl1 hr
  obtain ⟨v, e, q⟩ := hr
  subst e
  simp (disch := omega) only [b_Law_law_783, true_and, and_true, true_implies, false_implies, not_true_eq_false, not_false_eq_true, eq_self, or_true, true_or, false_or, or_false, false_and, and_false, Option.toList_some, Option.toList_none, List.cons_append, List.nil_append, n10, n01, e10, e01, e08, e18, e28, e38, e48, e58, e68, e78, lt_lit, nI_add, pk_mul, n_le, n_lt, n_eq, n_cl, n_in, n_sub, n_div, n_rem, n_ite, Nat.zero_add, k_0, k_51]
  refine Call.mono q ?_
  intro r' hi2 hl2 hr
  obtain ⟨e, q2⟩ := hr
  subst e
  simp (disch := omega) only [b_Law_law_793, b_Law_law_1594, true_and, and_true, true_implies, false_implies, not_true_eq_false, not_false_eq_true, eq_self, or_true, true_or, false_or, or_false, false_and, and_false, Option.toList_some, Option.toList_none, List.cons_append, List.nil_append, n10, n01, e10, e01, e08, e18, e28, e38, e48, e58, e68, e78, lt_lit, nI_add, pk_mul, n_le, n_lt, n_eq, n_cl, n_in, n_sub, n_div, n_rem, n_ite, Nat.zero_add, k_0, k_51]
  exact hn hi2 hl2 q2
set_option maxRecDepth 20000 in
theorem law_19 (hi6 : i + 6 ≤ xN u) (hN : xN u ≤ 3072) (h : Pr u B' 75 166 [] hi hl) (hn : ∀ hi2 hl2, InvE B' hi2 hl2 → Wp u 228 18 [.ref 99, .ref 0, .ref 51, .int (nI (i + 6))] [] hi2 hl2 K) : vc u (n + 150) 228 797 [.ref 99, .ref 0, .ref 51, .int (nI i)] [] hi hl K := by
  unfold Pr at h
  simp (disch := omega) only [b_Law_law_797, true_and, and_true, true_implies, false_implies, not_true_eq_false, not_false_eq_true, eq_self, or_true, true_or, false_or, or_false, false_and, and_false, Option.toList_some, Option.toList_none, List.cons_append, List.nil_append, n10, n01, e10, e01, e08, e18, e28, e38, e48, e58, e68, e78, lt_lit, nI_add, pk_mul, n_le, n_lt, n_eq, n_cl, n_in, n_sub, n_div, n_rem, n_ite, Nat.zero_add, k_0, k_51]
  refine Call.mono h ?_
  intro r hi1 hl1 hr
  obtain ⟨v, e, q⟩ := hr
  subst e
  simp (disch := omega) only [b_Law_law_801, true_and, and_true, true_implies, false_implies, not_true_eq_false, not_false_eq_true, eq_self, or_true, true_or, false_or, or_false, false_and, and_false, Option.toList_some, Option.toList_none, List.cons_append, List.nil_append, n10, n01, e10, e01, e08, e18, e28, e38, e48, e58, e68, e78, lt_lit, nI_add, pk_mul, n_le, n_lt, n_eq, n_cl, n_in, n_sub, n_div, n_rem, n_ite, Nat.zero_add, k_0, k_51]
  refine Call.mono q ?_
  intro r' hi2 hl2 hr
  obtain ⟨e, q2⟩ := hr
  subst e
  simp (disch := omega) only [b_Law_law_806, b_Law_law_1594, true_and, and_true, true_implies, false_implies, not_true_eq_false, not_false_eq_true, eq_self, or_true, true_or, false_or, or_false, false_and, and_false, Option.toList_some, Option.toList_none, List.cons_append, List.nil_append, n10, n01, e10, e01, e08, e18, e28, e38, e48, e58, e68, e78, lt_lit, nI_add, pk_mul, n_le, n_lt, n_eq, n_cl, n_in, n_sub, n_div, n_rem, n_ite, Nat.zero_add, k_0, k_51]
  exact hn hi2 hl2 q2
set_option maxRecDepth 20000 in
theorem law_20 (hi6 : i + 6 ≤ xN u) (hN : xN u ≤ 3072) (h : Pr u B' 76 167 [] hi hl) (hn : ∀ hi2 hl2, InvE B' hi2 hl2 → Wp u 228 18 [.ref 99, .ref 0, .ref 51, .int (nI (i + 6))] [] hi2 hl2 K) : vc u (n + 150) 228 810 [.ref 99, .ref 0, .ref 51, .int (nI i)] [] hi hl K := by
  unfold Pr at h
  simp (disch := omega) only [b_Law_law_810, true_and, and_true, true_implies, false_implies, not_true_eq_false, not_false_eq_true, eq_self, or_true, true_or, false_or, or_false, false_and, and_false, Option.toList_some, Option.toList_none, List.cons_append, List.nil_append, n10, n01, e10, e01, e08, e18, e28, e38, e48, e58, e68, e78, lt_lit, nI_add, pk_mul, n_le, n_lt, n_eq, n_cl, n_in, n_sub, n_div, n_rem, n_ite, Nat.zero_add, k_0, k_51]
  refine Call.mono h ?_
  intro r hi1 hl1 hr
  obtain ⟨v, e, q⟩ := hr
  subst e
  simp (disch := omega) only [b_Law_law_814, true_and, and_true, true_implies, false_implies, not_true_eq_false, not_false_eq_true, eq_self, or_true, true_or, false_or, or_false, false_and, and_false, Option.toList_some, Option.toList_none, List.cons_append, List.nil_append, n10, n01, e10, e01, e08, e18, e28, e38, e48, e58, e68, e78, lt_lit, nI_add, pk_mul, n_le, n_lt, n_eq, n_cl, n_in, n_sub, n_div, n_rem, n_ite, Nat.zero_add, k_0, k_51]
  refine Call.mono q ?_
  intro r' hi2 hl2 hr
  obtain ⟨e, q2⟩ := hr
  subst e
  simp (disch := omega) only [b_Law_law_819, b_Law_law_1594, true_and, and_true, true_implies, false_implies, not_true_eq_false, not_false_eq_true, eq_self, or_true, true_or, false_or, or_false, false_and, and_false, Option.toList_some, Option.toList_none, List.cons_append, List.nil_append, n10, n01, e10, e01, e08, e18, e28, e38, e48, e58, e68, e78, lt_lit, nI_add, pk_mul, n_le, n_lt, n_eq, n_cl, n_in, n_sub, n_div, n_rem, n_ite, Nat.zero_add, k_0, k_51]
  exact hn hi2 hl2 q2
set_option maxRecDepth 20000 in
theorem law_21 (hi6 : i + 6 ≤ xN u) (hN : xN u ≤ 3072) (h : Pr u B' 77 168 [.int (xX u (i + 1)), .int (xX u (i + 2))] hi hl) (hn : ∀ hi2 hl2, InvE B' hi2 hl2 → Wp u 228 18 [.ref 99, .ref 0, .ref 51, .int (nI (i + 6))] [] hi2 hl2 K) : vc u (n + 150) 228 823 [.ref 99, .ref 0, .ref 51, .int (nI i)] [] hi hl K := by
  unfold Pr at h
  simp (disch := omega) only [b_Law_law_823, true_and, and_true, true_implies, false_implies, not_true_eq_false, not_false_eq_true, eq_self, or_true, true_or, false_or, or_false, false_and, and_false, Option.toList_some, Option.toList_none, List.cons_append, List.nil_append, n10, n01, e10, e01, e08, e18, e28, e38, e48, e58, e68, e78, lt_lit, nI_add, pk_mul, n_le, n_lt, n_eq, n_cl, n_in, n_sub, n_div, n_rem, n_ite, Nat.zero_add, k_0, k_51]
  refine Call.mono h ?_
  intro r hi1 hl1 hr
  obtain ⟨v, e, q⟩ := hr
  subst e
  simp (disch := omega) only [b_Law_law_837, true_and, and_true, true_implies, false_implies, not_true_eq_false, not_false_eq_true, eq_self, or_true, true_or, false_or, or_false, false_and, and_false, Option.toList_some, Option.toList_none, List.cons_append, List.nil_append, n10, n01, e10, e01, e08, e18, e28, e38, e48, e58, e68, e78, lt_lit, nI_add, pk_mul, n_le, n_lt, n_eq, n_cl, n_in, n_sub, n_div, n_rem, n_ite, Nat.zero_add, k_0, k_51]
  refine Call.mono q ?_
  intro r' hi2 hl2 hr
  obtain ⟨e, q2⟩ := hr
  subst e
  simp (disch := omega) only [b_Law_law_852, b_Law_law_1594, true_and, and_true, true_implies, false_implies, not_true_eq_false, not_false_eq_true, eq_self, or_true, true_or, false_or, or_false, false_and, and_false, Option.toList_some, Option.toList_none, List.cons_append, List.nil_append, n10, n01, e10, e01, e08, e18, e28, e38, e48, e58, e68, e78, lt_lit, nI_add, pk_mul, n_le, n_lt, n_eq, n_cl, n_in, n_sub, n_div, n_rem, n_ite, Nat.zero_add, k_0, k_51]
  exact hn hi2 hl2 q2
set_option maxRecDepth 20000 in
theorem law_22 (hi6 : i + 6 ≤ xN u) (hN : xN u ≤ 3072) (h : Pr u B' 79 169 [.int (xX u (i + 1))] hi hl) (hn : ∀ hi2 hl2, InvE B' hi2 hl2 → Wp u 228 18 [.ref 99, .ref 0, .ref 51, .int (nI (i + 6))] [] hi2 hl2 K) : vc u (n + 150) 228 856 [.ref 99, .ref 0, .ref 51, .int (nI i)] [] hi hl K := by
  unfold Pr at h
  simp (disch := omega) only [b_Law_law_856, true_and, and_true, true_implies, false_implies, not_true_eq_false, not_false_eq_true, eq_self, or_true, true_or, false_or, or_false, false_and, and_false, Option.toList_some, Option.toList_none, List.cons_append, List.nil_append, n10, n01, e10, e01, e08, e18, e28, e38, e48, e58, e68, e78, lt_lit, nI_add, pk_mul, n_le, n_lt, n_eq, n_cl, n_in, n_sub, n_div, n_rem, n_ite, Nat.zero_add, k_0, k_51]
  refine Call.mono h ?_
  intro r hi1 hl1 hr
  obtain ⟨v, e, q⟩ := hr
  subst e
  simp (disch := omega) only [b_Law_law_865, true_and, and_true, true_implies, false_implies, not_true_eq_false, not_false_eq_true, eq_self, or_true, true_or, false_or, or_false, false_and, and_false, Option.toList_some, Option.toList_none, List.cons_append, List.nil_append, n10, n01, e10, e01, e08, e18, e28, e38, e48, e58, e68, e78, lt_lit, nI_add, pk_mul, n_le, n_lt, n_eq, n_cl, n_in, n_sub, n_div, n_rem, n_ite, Nat.zero_add, k_0, k_51]
  refine Call.mono q ?_
  intro r' hi2 hl2 hr
  obtain ⟨e, q2⟩ := hr
  subst e
  simp (disch := omega) only [b_Law_law_875, b_Law_law_1594, true_and, and_true, true_implies, false_implies, not_true_eq_false, not_false_eq_true, eq_self, or_true, true_or, false_or, or_false, false_and, and_false, Option.toList_some, Option.toList_none, List.cons_append, List.nil_append, n10, n01, e10, e01, e08, e18, e28, e38, e48, e58, e68, e78, lt_lit, nI_add, pk_mul, n_le, n_lt, n_eq, n_cl, n_in, n_sub, n_div, n_rem, n_ite, Nat.zero_add, k_0, k_51]
  exact hn hi2 hl2 q2
set_option maxRecDepth 20000 in
theorem law_23 (hi6 : i + 6 ≤ xN u) (hN : xN u ≤ 3072) (h : Pr u B' 80 170 [.int (xX u (i + 1))] hi hl) (hn : ∀ hi2 hl2, InvE B' hi2 hl2 → Wp u 228 18 [.ref 99, .ref 0, .ref 51, .int (nI (i + 6))] [] hi2 hl2 K) : vc u (n + 150) 228 879 [.ref 99, .ref 0, .ref 51, .int (nI i)] [] hi hl K := by
  unfold Pr at h
  simp (disch := omega) only [b_Law_law_879, true_and, and_true, true_implies, false_implies, not_true_eq_false, not_false_eq_true, eq_self, or_true, true_or, false_or, or_false, false_and, and_false, Option.toList_some, Option.toList_none, List.cons_append, List.nil_append, n10, n01, e10, e01, e08, e18, e28, e38, e48, e58, e68, e78, lt_lit, nI_add, pk_mul, n_le, n_lt, n_eq, n_cl, n_in, n_sub, n_div, n_rem, n_ite, Nat.zero_add, k_0, k_51]
  refine Call.mono h ?_
  intro r hi1 hl1 hr
  obtain ⟨v, e, q⟩ := hr
  subst e
  simp (disch := omega) only [b_Law_law_888, true_and, and_true, true_implies, false_implies, not_true_eq_false, not_false_eq_true, eq_self, or_true, true_or, false_or, or_false, false_and, and_false, Option.toList_some, Option.toList_none, List.cons_append, List.nil_append, n10, n01, e10, e01, e08, e18, e28, e38, e48, e58, e68, e78, lt_lit, nI_add, pk_mul, n_le, n_lt, n_eq, n_cl, n_in, n_sub, n_div, n_rem, n_ite, Nat.zero_add, k_0, k_51]
  refine Call.mono q ?_
  intro r' hi2 hl2 hr
  obtain ⟨e, q2⟩ := hr
  subst e
  simp (disch := omega) only [b_Law_law_898, b_Law_law_1594, true_and, and_true, true_implies, false_implies, not_true_eq_false, not_false_eq_true, eq_self, or_true, true_or, false_or, or_false, false_and, and_false, Option.toList_some, Option.toList_none, List.cons_append, List.nil_append, n10, n01, e10, e01, e08, e18, e28, e38, e48, e58, e68, e78, lt_lit, nI_add, pk_mul, n_le, n_lt, n_eq, n_cl, n_in, n_sub, n_div, n_rem, n_ite, Nat.zero_add, k_0, k_51]
  exact hn hi2 hl2 q2
set_option maxRecDepth 20000 in
theorem law_24 (hi6 : i + 6 ≤ xN u) (hN : xN u ≤ 3072) (h : Pr u B' 81 171 [.int (xX u (i + 1))] hi hl) (hn : ∀ hi2 hl2, InvE B' hi2 hl2 → Wp u 228 18 [.ref 99, .ref 0, .ref 51, .int (nI (i + 6))] [] hi2 hl2 K) : vc u (n + 150) 228 902 [.ref 99, .ref 0, .ref 51, .int (nI i)] [] hi hl K := by
  unfold Pr at h
  simp (disch := omega) only [b_Law_law_902, true_and, and_true, true_implies, false_implies, not_true_eq_false, not_false_eq_true, eq_self, or_true, true_or, false_or, or_false, false_and, and_false, Option.toList_some, Option.toList_none, List.cons_append, List.nil_append, n10, n01, e10, e01, e08, e18, e28, e38, e48, e58, e68, e78, lt_lit, nI_add, pk_mul, n_le, n_lt, n_eq, n_cl, n_in, n_sub, n_div, n_rem, n_ite, Nat.zero_add, k_0, k_51]
  refine Call.mono h ?_
  intro r hi1 hl1 hr
  obtain ⟨v, e, q⟩ := hr
  subst e
  simp (disch := omega) only [b_Law_law_911, true_and, and_true, true_implies, false_implies, not_true_eq_false, not_false_eq_true, eq_self, or_true, true_or, false_or, or_false, false_and, and_false, Option.toList_some, Option.toList_none, List.cons_append, List.nil_append, n10, n01, e10, e01, e08, e18, e28, e38, e48, e58, e68, e78, lt_lit, nI_add, pk_mul, n_le, n_lt, n_eq, n_cl, n_in, n_sub, n_div, n_rem, n_ite, Nat.zero_add, k_0, k_51]
  refine Call.mono q ?_
  intro r' hi2 hl2 hr
  obtain ⟨e, q2⟩ := hr
  subst e
  simp (disch := omega) only [b_Law_law_921, b_Law_law_1594, true_and, and_true, true_implies, false_implies, not_true_eq_false, not_false_eq_true, eq_self, or_true, true_or, false_or, or_false, false_and, and_false, Option.toList_some, Option.toList_none, List.cons_append, List.nil_append, n10, n01, e10, e01, e08, e18, e28, e38, e48, e58, e68, e78, lt_lit, nI_add, pk_mul, n_le, n_lt, n_eq, n_cl, n_in, n_sub, n_div, n_rem, n_ite, Nat.zero_add, k_0, k_51]
  exact hn hi2 hl2 q2
set_option maxRecDepth 20000 in
theorem law_25 (hi6 : i + 6 ≤ xN u) (hN : xN u ≤ 3072) (h : Pr u B' 82 172 [.int (xX u (i + 1))] hi hl) (hn : ∀ hi2 hl2, InvE B' hi2 hl2 → Wp u 228 18 [.ref 99, .ref 0, .ref 51, .int (nI (i + 6))] [] hi2 hl2 K) : vc u (n + 150) 228 925 [.ref 99, .ref 0, .ref 51, .int (nI i)] [] hi hl K := by
  unfold Pr at h
  simp (disch := omega) only [b_Law_law_925, true_and, and_true, true_implies, false_implies, not_true_eq_false, not_false_eq_true, eq_self, or_true, true_or, false_or, or_false, false_and, and_false, Option.toList_some, Option.toList_none, List.cons_append, List.nil_append, n10, n01, e10, e01, e08, e18, e28, e38, e48, e58, e68, e78, lt_lit, nI_add, pk_mul, n_le, n_lt, n_eq, n_cl, n_in, n_sub, n_div, n_rem, n_ite, Nat.zero_add, k_0, k_51]
  refine Call.mono h ?_
  intro r hi1 hl1 hr
  obtain ⟨v, e, q⟩ := hr
  subst e
  simp (disch := omega) only [b_Law_law_934, true_and, and_true, true_implies, false_implies, not_true_eq_false, not_false_eq_true, eq_self, or_true, true_or, false_or, or_false, false_and, and_false, Option.toList_some, Option.toList_none, List.cons_append, List.nil_append, n10, n01, e10, e01, e08, e18, e28, e38, e48, e58, e68, e78, lt_lit, nI_add, pk_mul, n_le, n_lt, n_eq, n_cl, n_in, n_sub, n_div, n_rem, n_ite, Nat.zero_add, k_0, k_51]
  refine Call.mono q ?_
  intro r' hi2 hl2 hr
  obtain ⟨e, q2⟩ := hr
  subst e
  simp (disch := omega) only [b_Law_law_944, b_Law_law_1594, true_and, and_true, true_implies, false_implies, not_true_eq_false, not_false_eq_true, eq_self, or_true, true_or, false_or, or_false, false_and, and_false, Option.toList_some, Option.toList_none, List.cons_append, List.nil_append, n10, n01, e10, e01, e08, e18, e28, e38, e48, e58, e68, e78, lt_lit, nI_add, pk_mul, n_le, n_lt, n_eq, n_cl, n_in, n_sub, n_div, n_rem, n_ite, Nat.zero_add, k_0, k_51]
  exact hn hi2 hl2 q2
set_option maxRecDepth 20000 in
theorem law_26 (hi6 : i + 6 ≤ xN u) (hN : xN u ≤ 3072) (h : Pr u B' 83 174 [.int (xX u (i + 1))] hi hl) (hn : ∀ hi2 hl2, InvE B' hi2 hl2 → Wp u 228 18 [.ref 99, .ref 0, .ref 51, .int (nI (i + 6))] [] hi2 hl2 K) : vc u (n + 150) 228 948 [.ref 99, .ref 0, .ref 51, .int (nI i)] [] hi hl K := by
  unfold Pr at h
  simp (disch := omega) only [b_Law_law_948, true_and, and_true, true_implies, false_implies, not_true_eq_false, not_false_eq_true, eq_self, or_true, true_or, false_or, or_false, false_and, and_false, Option.toList_some, Option.toList_none, List.cons_append, List.nil_append, n10, n01, e10, e01, e08, e18, e28, e38, e48, e58, e68, e78, lt_lit, nI_add, pk_mul, n_le, n_lt, n_eq, n_cl, n_in, n_sub, n_div, n_rem, n_ite, Nat.zero_add, k_0, k_51]
  refine Call.mono h ?_
  intro r hi1 hl1 hr
  obtain ⟨v, e, q⟩ := hr
  subst e
  simp (disch := omega) only [b_Law_law_957, true_and, and_true, true_implies, false_implies, not_true_eq_false, not_false_eq_true, eq_self, or_true, true_or, false_or, or_false, false_and, and_false, Option.toList_some, Option.toList_none, List.cons_append, List.nil_append, n10, n01, e10, e01, e08, e18, e28, e38, e48, e58, e68, e78, lt_lit, nI_add, pk_mul, n_le, n_lt, n_eq, n_cl, n_in, n_sub, n_div, n_rem, n_ite, Nat.zero_add, k_0, k_51]
  refine Call.mono q ?_
  intro r' hi2 hl2 hr
  obtain ⟨e, q2⟩ := hr
  subst e
  simp (disch := omega) only [b_Law_law_967, b_Law_law_1594, true_and, and_true, true_implies, false_implies, not_true_eq_false, not_false_eq_true, eq_self, or_true, true_or, false_or, or_false, false_and, and_false, Option.toList_some, Option.toList_none, List.cons_append, List.nil_append, n10, n01, e10, e01, e08, e18, e28, e38, e48, e58, e68, e78, lt_lit, nI_add, pk_mul, n_le, n_lt, n_eq, n_cl, n_in, n_sub, n_div, n_rem, n_ite, Nat.zero_add, k_0, k_51]
  exact hn hi2 hl2 q2
set_option maxRecDepth 20000 in
theorem law_27 (hi6 : i + 6 ≤ xN u) (hN : xN u ≤ 3072) (h : Pr u B' 84 175 [.int (xX u (i + 1))] hi hl) (hn : ∀ hi2 hl2, InvE B' hi2 hl2 → Wp u 228 18 [.ref 99, .ref 0, .ref 51, .int (nI (i + 6))] [] hi2 hl2 K) : vc u (n + 150) 228 971 [.ref 99, .ref 0, .ref 51, .int (nI i)] [] hi hl K := by
  unfold Pr at h
  simp (disch := omega) only [b_Law_law_971, true_and, and_true, true_implies, false_implies, not_true_eq_false, not_false_eq_true, eq_self, or_true, true_or, false_or, or_false, false_and, and_false, Option.toList_some, Option.toList_none, List.cons_append, List.nil_append, n10, n01, e10, e01, e08, e18, e28, e38, e48, e58, e68, e78, lt_lit, nI_add, pk_mul, n_le, n_lt, n_eq, n_cl, n_in, n_sub, n_div, n_rem, n_ite, Nat.zero_add, k_0, k_51]
  refine Call.mono h ?_
  intro r hi1 hl1 hr
  obtain ⟨v, e, q⟩ := hr
  subst e
  simp (disch := omega) only [b_Law_law_980, true_and, and_true, true_implies, false_implies, not_true_eq_false, not_false_eq_true, eq_self, or_true, true_or, false_or, or_false, false_and, and_false, Option.toList_some, Option.toList_none, List.cons_append, List.nil_append, n10, n01, e10, e01, e08, e18, e28, e38, e48, e58, e68, e78, lt_lit, nI_add, pk_mul, n_le, n_lt, n_eq, n_cl, n_in, n_sub, n_div, n_rem, n_ite, Nat.zero_add, k_0, k_51]
  refine Call.mono q ?_
  intro r' hi2 hl2 hr
  obtain ⟨e, q2⟩ := hr
  subst e
  simp (disch := omega) only [b_Law_law_990, b_Law_law_1594, true_and, and_true, true_implies, false_implies, not_true_eq_false, not_false_eq_true, eq_self, or_true, true_or, false_or, or_false, false_and, and_false, Option.toList_some, Option.toList_none, List.cons_append, List.nil_append, n10, n01, e10, e01, e08, e18, e28, e38, e48, e58, e68, e78, lt_lit, nI_add, pk_mul, n_le, n_lt, n_eq, n_cl, n_in, n_sub, n_div, n_rem, n_ite, Nat.zero_add, k_0, k_51]
  exact hn hi2 hl2 q2
set_option maxRecDepth 20000 in
theorem law_28 (hi6 : i + 6 ≤ xN u) (hN : xN u ≤ 3072) (h : Pr u B' 85 176 [.int (xX u (i + 1)), .int (xX u (i + 2)), .int (xX u (i + 3))] hi hl) (hn : ∀ hi2 hl2, InvE B' hi2 hl2 → Wp u 228 18 [.ref 99, .ref 0, .ref 51, .int (nI (i + 6))] [] hi2 hl2 K) : vc u (n + 150) 228 994 [.ref 99, .ref 0, .ref 51, .int (nI i)] [] hi hl K := by
  unfold Pr at h
  simp (disch := omega) only [b_Law_law_994, true_and, and_true, true_implies, false_implies, not_true_eq_false, not_false_eq_true, eq_self, or_true, true_or, false_or, or_false, false_and, and_false, Option.toList_some, Option.toList_none, List.cons_append, List.nil_append, n10, n01, e10, e01, e08, e18, e28, e38, e48, e58, e68, e78, lt_lit, nI_add, pk_mul, n_le, n_lt, n_eq, n_cl, n_in, n_sub, n_div, n_rem, n_ite, Nat.zero_add, k_0, k_51]
  refine Call.mono h ?_
  intro r hi1 hl1 hr
  obtain ⟨v, e, q⟩ := hr
  subst e
  simp (disch := omega) only [b_Law_law_1013, true_and, and_true, true_implies, false_implies, not_true_eq_false, not_false_eq_true, eq_self, or_true, true_or, false_or, or_false, false_and, and_false, Option.toList_some, Option.toList_none, List.cons_append, List.nil_append, n10, n01, e10, e01, e08, e18, e28, e38, e48, e58, e68, e78, lt_lit, nI_add, pk_mul, n_le, n_lt, n_eq, n_cl, n_in, n_sub, n_div, n_rem, n_ite, Nat.zero_add, k_0, k_51]
  refine Call.mono q ?_
  intro r' hi2 hl2 hr
  obtain ⟨e, q2⟩ := hr
  subst e
  simp (disch := omega) only [b_Law_law_1033, b_Law_law_1594, true_and, and_true, true_implies, false_implies, not_true_eq_false, not_false_eq_true, eq_self, or_true, true_or, false_or, or_false, false_and, and_false, Option.toList_some, Option.toList_none, List.cons_append, List.nil_append, n10, n01, e10, e01, e08, e18, e28, e38, e48, e58, e68, e78, lt_lit, nI_add, pk_mul, n_le, n_lt, n_eq, n_cl, n_in, n_sub, n_div, n_rem, n_ite, Nat.zero_add, k_0, k_51]
  exact hn hi2 hl2 q2
set_option maxRecDepth 20000 in
theorem law_29 (hi6 : i + 6 ≤ xN u) (hN : xN u ≤ 3072) (h : Pr u B' 86 179 [.int (xX u (i + 1))] hi hl) (hn : ∀ hi2 hl2, InvE B' hi2 hl2 → Wp u 228 18 [.ref 99, .ref 0, .ref 51, .int (nI (i + 6))] [] hi2 hl2 K) : vc u (n + 150) 228 1037 [.ref 99, .ref 0, .ref 51, .int (nI i)] [] hi hl K := by
  unfold Pr at h
  simp (disch := omega) only [b_Law_law_1037, true_and, and_true, true_implies, false_implies, not_true_eq_false, not_false_eq_true, eq_self, or_true, true_or, false_or, or_false, false_and, and_false, Option.toList_some, Option.toList_none, List.cons_append, List.nil_append, n10, n01, e10, e01, e08, e18, e28, e38, e48, e58, e68, e78, lt_lit, nI_add, pk_mul, n_le, n_lt, n_eq, n_cl, n_in, n_sub, n_div, n_rem, n_ite, Nat.zero_add, k_0, k_51]
  refine Call.mono h ?_
  intro r hi1 hl1 hr
  obtain ⟨v, e, q⟩ := hr
  subst e
  simp (disch := omega) only [b_Law_law_1046, true_and, and_true, true_implies, false_implies, not_true_eq_false, not_false_eq_true, eq_self, or_true, true_or, false_or, or_false, false_and, and_false, Option.toList_some, Option.toList_none, List.cons_append, List.nil_append, n10, n01, e10, e01, e08, e18, e28, e38, e48, e58, e68, e78, lt_lit, nI_add, pk_mul, n_le, n_lt, n_eq, n_cl, n_in, n_sub, n_div, n_rem, n_ite, Nat.zero_add, k_0, k_51]
  refine Call.mono q ?_
  intro r' hi2 hl2 hr
  obtain ⟨e, q2⟩ := hr
  subst e
  simp (disch := omega) only [b_Law_law_1056, b_Law_law_1594, true_and, and_true, true_implies, false_implies, not_true_eq_false, not_false_eq_true, eq_self, or_true, true_or, false_or, or_false, false_and, and_false, Option.toList_some, Option.toList_none, List.cons_append, List.nil_append, n10, n01, e10, e01, e08, e18, e28, e38, e48, e58, e68, e78, lt_lit, nI_add, pk_mul, n_le, n_lt, n_eq, n_cl, n_in, n_sub, n_div, n_rem, n_ite, Nat.zero_add, k_0, k_51]
  exact hn hi2 hl2 q2
set_option maxRecDepth 20000 in
theorem law_30 (hi6 : i + 6 ≤ xN u) (hN : xN u ≤ 3072) (h : Pr u B' 87 180 [.int (xX u (i + 1))] hi hl) (hn : ∀ hi2 hl2, InvE B' hi2 hl2 → Wp u 228 18 [.ref 99, .ref 0, .ref 51, .int (nI (i + 6))] [] hi2 hl2 K) : vc u (n + 150) 228 1060 [.ref 99, .ref 0, .ref 51, .int (nI i)] [] hi hl K := by
  unfold Pr at h
  simp (disch := omega) only [b_Law_law_1060, true_and, and_true, true_implies, false_implies, not_true_eq_false, not_false_eq_true, eq_self, or_true, true_or, false_or, or_false, false_and, and_false, Option.toList_some, Option.toList_none, List.cons_append, List.nil_append, n10, n01, e10, e01, e08, e18, e28, e38, e48, e58, e68, e78, lt_lit, nI_add, pk_mul, n_le, n_lt, n_eq, n_cl, n_in, n_sub, n_div, n_rem, n_ite, Nat.zero_add, k_0, k_51]
  refine Call.mono h ?_
  intro r hi1 hl1 hr
  obtain ⟨v, e, q⟩ := hr
  subst e
  simp (disch := omega) only [b_Law_law_1069, true_and, and_true, true_implies, false_implies, not_true_eq_false, not_false_eq_true, eq_self, or_true, true_or, false_or, or_false, false_and, and_false, Option.toList_some, Option.toList_none, List.cons_append, List.nil_append, n10, n01, e10, e01, e08, e18, e28, e38, e48, e58, e68, e78, lt_lit, nI_add, pk_mul, n_le, n_lt, n_eq, n_cl, n_in, n_sub, n_div, n_rem, n_ite, Nat.zero_add, k_0, k_51]
  refine Call.mono q ?_
  intro r' hi2 hl2 hr
  obtain ⟨e, q2⟩ := hr
  subst e
  simp (disch := omega) only [b_Law_law_1079, b_Law_law_1594, true_and, and_true, true_implies, false_implies, not_true_eq_false, not_false_eq_true, eq_self, or_true, true_or, false_or, or_false, false_and, and_false, Option.toList_some, Option.toList_none, List.cons_append, List.nil_append, n10, n01, e10, e01, e08, e18, e28, e38, e48, e58, e68, e78, lt_lit, nI_add, pk_mul, n_le, n_lt, n_eq, n_cl, n_in, n_sub, n_div, n_rem, n_ite, Nat.zero_add, k_0, k_51]
  exact hn hi2 hl2 q2
set_option maxRecDepth 20000 in
theorem law_31 (hi6 : i + 6 ≤ xN u) (hN : xN u ≤ 3072) (h : Pr u B' 88 181 [] hi hl) (hn : ∀ hi2 hl2, InvE B' hi2 hl2 → Wp u 228 18 [.ref 99, .ref 0, .ref 51, .int (nI (i + 6))] [] hi2 hl2 K) : vc u (n + 150) 228 1083 [.ref 99, .ref 0, .ref 51, .int (nI i)] [] hi hl K := by
  unfold Pr at h
  simp (disch := omega) only [b_Law_law_1083, true_and, and_true, true_implies, false_implies, not_true_eq_false, not_false_eq_true, eq_self, or_true, true_or, false_or, or_false, false_and, and_false, Option.toList_some, Option.toList_none, List.cons_append, List.nil_append, n10, n01, e10, e01, e08, e18, e28, e38, e48, e58, e68, e78, lt_lit, nI_add, pk_mul, n_le, n_lt, n_eq, n_cl, n_in, n_sub, n_div, n_rem, n_ite, Nat.zero_add, k_0, k_51]
  refine Call.mono h ?_
  intro r hi1 hl1 hr
  obtain ⟨v, e, q⟩ := hr
  subst e
  simp (disch := omega) only [b_Law_law_1087, true_and, and_true, true_implies, false_implies, not_true_eq_false, not_false_eq_true, eq_self, or_true, true_or, false_or, or_false, false_and, and_false, Option.toList_some, Option.toList_none, List.cons_append, List.nil_append, n10, n01, e10, e01, e08, e18, e28, e38, e48, e58, e68, e78, lt_lit, nI_add, pk_mul, n_le, n_lt, n_eq, n_cl, n_in, n_sub, n_div, n_rem, n_ite, Nat.zero_add, k_0, k_51]
  refine Call.mono q ?_
  intro r' hi2 hl2 hr
  obtain ⟨e, q2⟩ := hr
  subst e
  simp (disch := omega) only [b_Law_law_1092, b_Law_law_1594, true_and, and_true, true_implies, false_implies, not_true_eq_false, not_false_eq_true, eq_self, or_true, true_or, false_or, or_false, false_and, and_false, Option.toList_some, Option.toList_none, List.cons_append, List.nil_append, n10, n01, e10, e01, e08, e18, e28, e38, e48, e58, e68, e78, lt_lit, nI_add, pk_mul, n_le, n_lt, n_eq, n_cl, n_in, n_sub, n_div, n_rem, n_ite, Nat.zero_add, k_0, k_51]
  exact hn hi2 hl2 q2
set_option maxRecDepth 20000 in
theorem law_32 (hi6 : i + 6 ≤ xN u) (hN : xN u ≤ 3072) (h : Pr u B' 89 182 [.int (xX u (i + 1))] hi hl) (hn : ∀ hi2 hl2, InvE B' hi2 hl2 → Wp u 228 18 [.ref 99, .ref 0, .ref 51, .int (nI (i + 6))] [] hi2 hl2 K) : vc u (n + 150) 228 1096 [.ref 99, .ref 0, .ref 51, .int (nI i)] [] hi hl K := by
  unfold Pr at h
  simp (disch := omega) only [b_Law_law_1096, true_and, and_true, true_implies, false_implies, not_true_eq_false, not_false_eq_true, eq_self, or_true, true_or, false_or, or_false, false_and, and_false, Option.toList_some, Option.toList_none, List.cons_append, List.nil_append, n10, n01, e10, e01, e08, e18, e28, e38, e48, e58, e68, e78, lt_lit, nI_add, pk_mul, n_le, n_lt, n_eq, n_cl, n_in, n_sub, n_div, n_rem, n_ite, Nat.zero_add, k_0, k_51]
  refine Call.mono h ?_
  intro r hi1 hl1 hr
  obtain ⟨v, e, q⟩ := hr
  subst e
  simp (disch := omega) only [b_Law_law_1105, true_and, and_true, true_implies, false_implies, not_true_eq_false, not_false_eq_true, eq_self, or_true, true_or, false_or, or_false, false_and, and_false, Option.toList_some, Option.toList_none, List.cons_append, List.nil_append, n10, n01, e10, e01, e08, e18, e28, e38, e48, e58, e68, e78, lt_lit, nI_add, pk_mul, n_le, n_lt, n_eq, n_cl, n_in, n_sub, n_div, n_rem, n_ite, Nat.zero_add, k_0, k_51]
  refine Call.mono q ?_
  intro r' hi2 hl2 hr
  obtain ⟨e, q2⟩ := hr
  subst e
  simp (disch := omega) only [b_Law_law_1115, b_Law_law_1594, true_and, and_true, true_implies, false_implies, not_true_eq_false, not_false_eq_true, eq_self, or_true, true_or, false_or, or_false, false_and, and_false, Option.toList_some, Option.toList_none, List.cons_append, List.nil_append, n10, n01, e10, e01, e08, e18, e28, e38, e48, e58, e68, e78, lt_lit, nI_add, pk_mul, n_le, n_lt, n_eq, n_cl, n_in, n_sub, n_div, n_rem, n_ite, Nat.zero_add, k_0, k_51]
  exact hn hi2 hl2 q2
set_option maxRecDepth 20000 in
theorem law_33 (hi6 : i + 6 ≤ xN u) (hN : xN u ≤ 3072) (h : PrL u B' 90 184 [.int (xX u (i + 1)), .int (xX u (i + 2)), .int (xX u (i + 3)), .int (xX u (i + 4))] hi hl) (hn : ∀ hi2 hl2, InvE B' hi2 hl2 → Wp u 228 18 [.ref 99, .ref 0, .ref 51, .int (nI (i + 6))] [] hi2 hl2 K) : vc u (n + 150) 228 1119 [.ref 99, .ref 0, .ref 51, .int (nI i)] [] hi hl K := by
  unfold PrL at h
  simp (disch := omega) only [b_Law_law_1119, true_and, and_true, true_implies, false_implies, not_true_eq_false, not_false_eq_true, eq_self, or_true, true_or, false_or, or_false, false_and, and_false, Option.toList_some, Option.toList_none, List.cons_append, List.nil_append, n10, n01, e10, e01, e08, e18, e28, e38, e48, e58, e68, e78, lt_lit, nI_add, pk_mul, n_le, n_lt, n_eq, n_cl, n_in, n_sub, n_div, n_rem, n_ite, Nat.zero_add, k_0, k_51]
  refine Call.mono h ?_
  intro r hi1 hl1 hr
  obtain ⟨v, e, q⟩ := hr
  subst e
  simp (disch := omega) only [b_Law_law_1143, true_and, and_true, true_implies, false_implies, not_true_eq_false, not_false_eq_true, eq_self, or_true, true_or, false_or, or_false, false_and, and_false, Option.toList_some, Option.toList_none, List.cons_append, List.nil_append, n10, n01, e10, e01, e08, e18, e28, e38, e48, e58, e68, e78, lt_lit, nI_add, pk_mul, n_le, n_lt, n_eq, n_cl, n_in, n_sub, n_div, n_rem, n_ite, Nat.zero_add, k_0, k_51]
  refine Call.mono q ?_
  intro r' hi2 hl2 hr
  obtain ⟨e, q2⟩ := hr
  subst e
  simp (disch := omega) only [b_Law_law_1168, b_Law_law_1594, true_and, and_true, true_implies, false_implies, not_true_eq_false, not_false_eq_true, eq_self, or_true, true_or, false_or, or_false, false_and, and_false, Option.toList_some, Option.toList_none, List.cons_append, List.nil_append, n10, n01, e10, e01, e08, e18, e28, e38, e48, e58, e68, e78, lt_lit, nI_add, pk_mul, n_le, n_lt, n_eq, n_cl, n_in, n_sub, n_div, n_rem, n_ite, Nat.zero_add, k_0, k_51]
  exact hn hi2 hl2 q2
set_option maxRecDepth 20000 in
theorem law_34 (hi6 : i + 6 ≤ xN u) (hN : xN u ≤ 3072) (h : Pr u B' 92 185 [.int (xX u (i + 1)), .int (xX u (i + 2))] hi hl) (hn : ∀ hi2 hl2, InvE B' hi2 hl2 → Wp u 228 18 [.ref 99, .ref 0, .ref 51, .int (nI (i + 6))] [] hi2 hl2 K) : vc u (n + 150) 228 1172 [.ref 99, .ref 0, .ref 51, .int (nI i)] [] hi hl K := by
  unfold Pr at h
  simp (disch := omega) only [b_Law_law_1172, true_and, and_true, true_implies, false_implies, not_true_eq_false, not_false_eq_true, eq_self, or_true, true_or, false_or, or_false, false_and, and_false, Option.toList_some, Option.toList_none, List.cons_append, List.nil_append, n10, n01, e10, e01, e08, e18, e28, e38, e48, e58, e68, e78, lt_lit, nI_add, pk_mul, n_le, n_lt, n_eq, n_cl, n_in, n_sub, n_div, n_rem, n_ite, Nat.zero_add, k_0, k_51]
  refine Call.mono h ?_
  intro r hi1 hl1 hr
  obtain ⟨v, e, q⟩ := hr
  subst e
  simp (disch := omega) only [b_Law_law_1186, true_and, and_true, true_implies, false_implies, not_true_eq_false, not_false_eq_true, eq_self, or_true, true_or, false_or, or_false, false_and, and_false, Option.toList_some, Option.toList_none, List.cons_append, List.nil_append, n10, n01, e10, e01, e08, e18, e28, e38, e48, e58, e68, e78, lt_lit, nI_add, pk_mul, n_le, n_lt, n_eq, n_cl, n_in, n_sub, n_div, n_rem, n_ite, Nat.zero_add, k_0, k_51]
  refine Call.mono q ?_
  intro r' hi2 hl2 hr
  obtain ⟨e, q2⟩ := hr
  subst e
  simp (disch := omega) only [b_Law_law_1201, b_Law_law_1594, true_and, and_true, true_implies, false_implies, not_true_eq_false, not_false_eq_true, eq_self, or_true, true_or, false_or, or_false, false_and, and_false, Option.toList_some, Option.toList_none, List.cons_append, List.nil_append, n10, n01, e10, e01, e08, e18, e28, e38, e48, e58, e68, e78, lt_lit, nI_add, pk_mul, n_le, n_lt, n_eq, n_cl, n_in, n_sub, n_div, n_rem, n_ite, Nat.zero_add, k_0, k_51]
  exact hn hi2 hl2 q2
set_option maxRecDepth 20000 in
theorem law_35 (hi6 : i + 6 ≤ xN u) (hN : xN u ≤ 3072) (h : Pr u B' 93 186 [] hi hl) (hn : ∀ hi2 hl2, InvE B' hi2 hl2 → Wp u 228 18 [.ref 99, .ref 0, .ref 51, .int (nI (i + 6))] [] hi2 hl2 K) : vc u (n + 150) 228 1205 [.ref 99, .ref 0, .ref 51, .int (nI i)] [] hi hl K := by
  unfold Pr at h
  simp (disch := omega) only [b_Law_law_1205, true_and, and_true, true_implies, false_implies, not_true_eq_false, not_false_eq_true, eq_self, or_true, true_or, false_or, or_false, false_and, and_false, Option.toList_some, Option.toList_none, List.cons_append, List.nil_append, n10, n01, e10, e01, e08, e18, e28, e38, e48, e58, e68, e78, lt_lit, nI_add, pk_mul, n_le, n_lt, n_eq, n_cl, n_in, n_sub, n_div, n_rem, n_ite, Nat.zero_add, k_0, k_51]
  refine Call.mono h ?_
  intro r hi1 hl1 hr
  obtain ⟨v, e, q⟩ := hr
  subst e
  simp (disch := omega) only [b_Law_law_1209, true_and, and_true, true_implies, false_implies, not_true_eq_false, not_false_eq_true, eq_self, or_true, true_or, false_or, or_false, false_and, and_false, Option.toList_some, Option.toList_none, List.cons_append, List.nil_append, n10, n01, e10, e01, e08, e18, e28, e38, e48, e58, e68, e78, lt_lit, nI_add, pk_mul, n_le, n_lt, n_eq, n_cl, n_in, n_sub, n_div, n_rem, n_ite, Nat.zero_add, k_0, k_51]
  refine Call.mono q ?_
  intro r' hi2 hl2 hr
  obtain ⟨e, q2⟩ := hr
  subst e
  simp (disch := omega) only [b_Law_law_1214, b_Law_law_1594, true_and, and_true, true_implies, false_implies, not_true_eq_false, not_false_eq_true, eq_self, or_true, true_or, false_or, or_false, false_and, and_false, Option.toList_some, Option.toList_none, List.cons_append, List.nil_append, n10, n01, e10, e01, e08, e18, e28, e38, e48, e58, e68, e78, lt_lit, nI_add, pk_mul, n_le, n_lt, n_eq, n_cl, n_in, n_sub, n_div, n_rem, n_ite, Nat.zero_add, k_0, k_51]
  exact hn hi2 hl2 q2
set_option maxRecDepth 20000 in
theorem law_36 (hi6 : i + 6 ≤ xN u) (hN : xN u ≤ 3072) (h : Pr u B' 94 199 [] hi hl) (hn : ∀ hi2 hl2, InvE B' hi2 hl2 → Wp u 228 18 [.ref 99, .ref 0, .ref 51, .int (nI (i + 6))] [] hi2 hl2 K) : vc u (n + 150) 228 1218 [.ref 99, .ref 0, .ref 51, .int (nI i)] [] hi hl K := by
  unfold Pr at h
  simp (disch := omega) only [b_Law_law_1218, true_and, and_true, true_implies, false_implies, not_true_eq_false, not_false_eq_true, eq_self, or_true, true_or, false_or, or_false, false_and, and_false, Option.toList_some, Option.toList_none, List.cons_append, List.nil_append, n10, n01, e10, e01, e08, e18, e28, e38, e48, e58, e68, e78, lt_lit, nI_add, pk_mul, n_le, n_lt, n_eq, n_cl, n_in, n_sub, n_div, n_rem, n_ite, Nat.zero_add, k_0, k_51]
  refine Call.mono h ?_
  intro r hi1 hl1 hr
  obtain ⟨v, e, q⟩ := hr
  subst e
  simp (disch := omega) only [b_Law_law_1222, true_and, and_true, true_implies, false_implies, not_true_eq_false, not_false_eq_true, eq_self, or_true, true_or, false_or, or_false, false_and, and_false, Option.toList_some, Option.toList_none, List.cons_append, List.nil_append, n10, n01, e10, e01, e08, e18, e28, e38, e48, e58, e68, e78, lt_lit, nI_add, pk_mul, n_le, n_lt, n_eq, n_cl, n_in, n_sub, n_div, n_rem, n_ite, Nat.zero_add, k_0, k_51]
  refine Call.mono q ?_
  intro r' hi2 hl2 hr
  obtain ⟨e, q2⟩ := hr
  subst e
  simp (disch := omega) only [b_Law_law_1227, b_Law_law_1594, true_and, and_true, true_implies, false_implies, not_true_eq_false, not_false_eq_true, eq_self, or_true, true_or, false_or, or_false, false_and, and_false, Option.toList_some, Option.toList_none, List.cons_append, List.nil_append, n10, n01, e10, e01, e08, e18, e28, e38, e48, e58, e68, e78, lt_lit, nI_add, pk_mul, n_le, n_lt, n_eq, n_cl, n_in, n_sub, n_div, n_rem, n_ite, Nat.zero_add, k_0, k_51]
  exact hn hi2 hl2 q2
set_option maxRecDepth 20000 in
theorem law_37 (hi6 : i + 6 ≤ xN u) (hN : xN u ≤ 3072) (h : Pr u B' 95 202 [.int (xX u (i + 1)), .int (xX u (i + 2)), .int (xX u (i + 3))] hi hl) (hn : ∀ hi2 hl2, InvE B' hi2 hl2 → Wp u 228 18 [.ref 99, .ref 0, .ref 51, .int (nI (i + 6))] [] hi2 hl2 K) : vc u (n + 150) 228 1231 [.ref 99, .ref 0, .ref 51, .int (nI i)] [] hi hl K := by
  unfold Pr at h
  simp (disch := omega) only [b_Law_law_1231, true_and, and_true, true_implies, false_implies, not_true_eq_false, not_false_eq_true, eq_self, or_true, true_or, false_or, or_false, false_and, and_false, Option.toList_some, Option.toList_none, List.cons_append, List.nil_append, n10, n01, e10, e01, e08, e18, e28, e38, e48, e58, e68, e78, lt_lit, nI_add, pk_mul, n_le, n_lt, n_eq, n_cl, n_in, n_sub, n_div, n_rem, n_ite, Nat.zero_add, k_0, k_51]
  refine Call.mono h ?_
  intro r hi1 hl1 hr
  obtain ⟨v, e, q⟩ := hr
  subst e
  simp (disch := omega) only [b_Law_law_1250, true_and, and_true, true_implies, false_implies, not_true_eq_false, not_false_eq_true, eq_self, or_true, true_or, false_or, or_false, false_and, and_false, Option.toList_some, Option.toList_none, List.cons_append, List.nil_append, n10, n01, e10, e01, e08, e18, e28, e38, e48, e58, e68, e78, lt_lit, nI_add, pk_mul, n_le, n_lt, n_eq, n_cl, n_in, n_sub, n_div, n_rem, n_ite, Nat.zero_add, k_0, k_51]
  refine Call.mono q ?_
  intro r' hi2 hl2 hr
  obtain ⟨e, q2⟩ := hr
  subst e
  simp (disch := omega) only [b_Law_law_1270, b_Law_law_1594, true_and, and_true, true_implies, false_implies, not_true_eq_false, not_false_eq_true, eq_self, or_true, true_or, false_or, or_false, false_and, and_false, Option.toList_some, Option.toList_none, List.cons_append, List.nil_append, n10, n01, e10, e01, e08, e18, e28, e38, e48, e58, e68, e78, lt_lit, nI_add, pk_mul, n_le, n_lt, n_eq, n_cl, n_in, n_sub, n_div, n_rem, n_ite, Nat.zero_add, k_0, k_51]
  exact hn hi2 hl2 q2
set_option maxRecDepth 20000 in
theorem law_38 (hi6 : i + 6 ≤ xN u) (hN : xN u ≤ 3072) (h : ∀ w, PrL u B' 96 203 [.int (xX u (i + 1)), .int (xX u (i + 2)), .long w] hi hl) (hn : ∀ hi2 hl2, InvE B' hi2 hl2 → Wp u 228 18 [.ref 99, .ref 0, .ref 51, .int (nI (i + 6))] [] hi2 hl2 K) : vc u (n + 150) 228 1274 [.ref 99, .ref 0, .ref 51, .int (nI i)] [] hi hl K := by
  unfold PrL at h
  simp (disch := omega) only [b_Law_law_1274, true_and, and_true, true_implies, false_implies, not_true_eq_false, not_false_eq_true, eq_self, or_true, true_or, false_or, or_false, false_and, and_false, Option.toList_some, Option.toList_none, List.cons_append, List.nil_append, n10, n01, e10, e01, e08, e18, e28, e38, e48, e58, e68, e78, lt_lit, nI_add, pk_mul, n_le, n_lt, n_eq, n_cl, n_in, n_sub, n_div, n_rem, n_ite, Nat.zero_add, k_0, k_51]
  refine Call.mono (h _) ?_
  intro r hi1 hl1 hr
  obtain ⟨v, e, q⟩ := hr
  subst e
  simp (disch := omega) only [b_Law_law_1308, true_and, and_true, true_implies, false_implies, not_true_eq_false, not_false_eq_true, eq_self, or_true, true_or, false_or, or_false, false_and, and_false, Option.toList_some, Option.toList_none, List.cons_append, List.nil_append, n10, n01, e10, e01, e08, e18, e28, e38, e48, e58, e68, e78, lt_lit, nI_add, pk_mul, n_le, n_lt, n_eq, n_cl, n_in, n_sub, n_div, n_rem, n_ite, Nat.zero_add, k_0, k_51]
  refine Call.mono q ?_
  intro r' hi2 hl2 hr
  obtain ⟨e, q2⟩ := hr
  subst e
  simp (disch := omega) only [b_Law_law_1343, b_Law_law_1594, true_and, and_true, true_implies, false_implies, not_true_eq_false, not_false_eq_true, eq_self, or_true, true_or, false_or, or_false, false_and, and_false, Option.toList_some, Option.toList_none, List.cons_append, List.nil_append, n10, n01, e10, e01, e08, e18, e28, e38, e48, e58, e68, e78, lt_lit, nI_add, pk_mul, n_le, n_lt, n_eq, n_cl, n_in, n_sub, n_div, n_rem, n_ite, Nat.zero_add, k_0, k_51]
  exact hn hi2 hl2 q2
set_option maxRecDepth 20000 in
theorem law_39 (hi6 : i + 6 ≤ xN u) (hN : xN u ≤ 3072) (h : Pr u B' 97 204 [.int (xX u (i + 1)), .int (xX u (i + 2)), .int (xX u (i + 3)), .int (xX u (i + 4)), .int (xX u (i + 5))] hi hl) (hn : ∀ hi2 hl2, InvE B' hi2 hl2 → Wp u 228 18 [.ref 99, .ref 0, .ref 51, .int (nI (i + 6))] [] hi2 hl2 K) : vc u (n + 150) 228 1347 [.ref 99, .ref 0, .ref 51, .int (nI i)] [] hi hl K := by
  unfold Pr at h
  simp (disch := omega) only [b_Law_law_1347, true_and, and_true, true_implies, false_implies, not_true_eq_false, not_false_eq_true, eq_self, or_true, true_or, false_or, or_false, false_and, and_false, Option.toList_some, Option.toList_none, List.cons_append, List.nil_append, n10, n01, e10, e01, e08, e18, e28, e38, e48, e58, e68, e78, lt_lit, nI_add, pk_mul, n_le, n_lt, n_eq, n_cl, n_in, n_sub, n_div, n_rem, n_ite, Nat.zero_add, k_0, k_51]
  refine Call.mono h ?_
  intro r hi1 hl1 hr
  obtain ⟨v, e, q⟩ := hr
  subst e
  simp (disch := omega) only [b_Law_law_1376, true_and, and_true, true_implies, false_implies, not_true_eq_false, not_false_eq_true, eq_self, or_true, true_or, false_or, or_false, false_and, and_false, Option.toList_some, Option.toList_none, List.cons_append, List.nil_append, n10, n01, e10, e01, e08, e18, e28, e38, e48, e58, e68, e78, lt_lit, nI_add, pk_mul, n_le, n_lt, n_eq, n_cl, n_in, n_sub, n_div, n_rem, n_ite, Nat.zero_add, k_0, k_51]
  refine Call.mono q ?_
  intro r' hi2 hl2 hr
  obtain ⟨e, q2⟩ := hr
  subst e
  simp (disch := omega) only [b_Law_law_1406, b_Law_law_1594, true_and, and_true, true_implies, false_implies, not_true_eq_false, not_false_eq_true, eq_self, or_true, true_or, false_or, or_false, false_and, and_false, Option.toList_some, Option.toList_none, List.cons_append, List.nil_append, n10, n01, e10, e01, e08, e18, e28, e38, e48, e58, e68, e78, lt_lit, nI_add, pk_mul, n_le, n_lt, n_eq, n_cl, n_in, n_sub, n_div, n_rem, n_ite, Nat.zero_add, k_0, k_51]
  exact hn hi2 hl2 q2
set_option maxRecDepth 20000 in
theorem law_40 (hi6 : i + 6 ≤ xN u) (hN : xN u ≤ 3072) (h : Pr u B' 98 205 [.int (xX u (i + 1)), .int (xX u (i + 2))] hi hl) (hn : ∀ hi2 hl2, InvE B' hi2 hl2 → Wp u 228 18 [.ref 99, .ref 0, .ref 51, .int (nI (i + 6))] [] hi2 hl2 K) : vc u (n + 150) 228 1410 [.ref 99, .ref 0, .ref 51, .int (nI i)] [] hi hl K := by
  unfold Pr at h
  simp (disch := omega) only [b_Law_law_1410, true_and, and_true, true_implies, false_implies, not_true_eq_false, not_false_eq_true, eq_self, or_true, true_or, false_or, or_false, false_and, and_false, Option.toList_some, Option.toList_none, List.cons_append, List.nil_append, n10, n01, e10, e01, e08, e18, e28, e38, e48, e58, e68, e78, lt_lit, nI_add, pk_mul, n_le, n_lt, n_eq, n_cl, n_in, n_sub, n_div, n_rem, n_ite, Nat.zero_add, k_0, k_51]
  refine Call.mono h ?_
  intro r hi1 hl1 hr
  obtain ⟨v, e, q⟩ := hr
  subst e
  simp (disch := omega) only [b_Law_law_1424, true_and, and_true, true_implies, false_implies, not_true_eq_false, not_false_eq_true, eq_self, or_true, true_or, false_or, or_false, false_and, and_false, Option.toList_some, Option.toList_none, List.cons_append, List.nil_append, n10, n01, e10, e01, e08, e18, e28, e38, e48, e58, e68, e78, lt_lit, nI_add, pk_mul, n_le, n_lt, n_eq, n_cl, n_in, n_sub, n_div, n_rem, n_ite, Nat.zero_add, k_0, k_51]
  refine Call.mono q ?_
  intro r' hi2 hl2 hr
  obtain ⟨e, q2⟩ := hr
  subst e
  simp (disch := omega) only [b_Law_law_1439, b_Law_law_1594, true_and, and_true, true_implies, false_implies, not_true_eq_false, not_false_eq_true, eq_self, or_true, true_or, false_or, or_false, false_and, and_false, Option.toList_some, Option.toList_none, List.cons_append, List.nil_append, n10, n01, e10, e01, e08, e18, e28, e38, e48, e58, e68, e78, lt_lit, nI_add, pk_mul, n_le, n_lt, n_eq, n_cl, n_in, n_sub, n_div, n_rem, n_ite, Nat.zero_add, k_0, k_51]
  exact hn hi2 hl2 q2
set_option maxRecDepth 20000 in
theorem law_41 (hi6 : i + 6 ≤ xN u) (hN : xN u ≤ 3072) (h : Pr u B' 99 207 [.int (xX u (i + 1)), .int (xX u (i + 2))] hi hl) (hn : ∀ hi2 hl2, InvE B' hi2 hl2 → Wp u 228 18 [.ref 99, .ref 0, .ref 51, .int (nI (i + 6))] [] hi2 hl2 K) : vc u (n + 150) 228 1443 [.ref 99, .ref 0, .ref 51, .int (nI i)] [] hi hl K := by
  unfold Pr at h
  simp (disch := omega) only [b_Law_law_1443, true_and, and_true, true_implies, false_implies, not_true_eq_false, not_false_eq_true, eq_self, or_true, true_or, false_or, or_false, false_and, and_false, Option.toList_some, Option.toList_none, List.cons_append, List.nil_append, n10, n01, e10, e01, e08, e18, e28, e38, e48, e58, e68, e78, lt_lit, nI_add, pk_mul, n_le, n_lt, n_eq, n_cl, n_in, n_sub, n_div, n_rem, n_ite, Nat.zero_add, k_0, k_51]
  refine Call.mono h ?_
  intro r hi1 hl1 hr
  obtain ⟨v, e, q⟩ := hr
  subst e
  simp (disch := omega) only [b_Law_law_1457, true_and, and_true, true_implies, false_implies, not_true_eq_false, not_false_eq_true, eq_self, or_true, true_or, false_or, or_false, false_and, and_false, Option.toList_some, Option.toList_none, List.cons_append, List.nil_append, n10, n01, e10, e01, e08, e18, e28, e38, e48, e58, e68, e78, lt_lit, nI_add, pk_mul, n_le, n_lt, n_eq, n_cl, n_in, n_sub, n_div, n_rem, n_ite, Nat.zero_add, k_0, k_51]
  refine Call.mono q ?_
  intro r' hi2 hl2 hr
  obtain ⟨e, q2⟩ := hr
  subst e
  simp (disch := omega) only [b_Law_law_1472, b_Law_law_1594, true_and, and_true, true_implies, false_implies, not_true_eq_false, not_false_eq_true, eq_self, or_true, true_or, false_or, or_false, false_and, and_false, Option.toList_some, Option.toList_none, List.cons_append, List.nil_append, n10, n01, e10, e01, e08, e18, e28, e38, e48, e58, e68, e78, lt_lit, nI_add, pk_mul, n_le, n_lt, n_eq, n_cl, n_in, n_sub, n_div, n_rem, n_ite, Nat.zero_add, k_0, k_51]
  exact hn hi2 hl2 q2
set_option maxRecDepth 20000 in
theorem law_42 (hi6 : i + 6 ≤ xN u) (hN : xN u ≤ 3072) (h : PrS u B' 100 208 [.int (xX u (i + 1)), .int (xX u (i + 2))] hi hl) (hn : ∀ hi2 hl2, InvE B' hi2 hl2 → Wp u 228 18 [.ref 99, .ref 0, .ref 51, .int (nI (i + 6))] [] hi2 hl2 K) : vc u (n + 150) 228 1476 [.ref 99, .ref 0, .ref 51, .int (nI i)] [] hi hl K := by
  unfold PrS at h
  simp (disch := omega) only [b_Law_law_1476, true_and, and_true, true_implies, false_implies, not_true_eq_false, not_false_eq_true, eq_self, or_true, true_or, false_or, or_false, false_and, and_false, Option.toList_some, Option.toList_none, List.cons_append, List.nil_append, n10, n01, e10, e01, e08, e18, e28, e38, e48, e58, e68, e78, lt_lit, nI_add, pk_mul, n_le, n_lt, n_eq, n_cl, n_in, n_sub, n_div, n_rem, n_ite, Nat.zero_add, k_0, k_51]
  refine Call.mono h ?_
  intro r hi1 hl1 hr
  obtain ⟨v, e, q⟩ := hr
  subst e
  simp (disch := omega) only [b_Law_law_1490, true_and, and_true, true_implies, false_implies, not_true_eq_false, not_false_eq_true, eq_self, or_true, true_or, false_or, or_false, false_and, and_false, Option.toList_some, Option.toList_none, List.cons_append, List.nil_append, n10, n01, e10, e01, e08, e18, e28, e38, e48, e58, e68, e78, lt_lit, nI_add, pk_mul, n_le, n_lt, n_eq, n_cl, n_in, n_sub, n_div, n_rem, n_ite, Nat.zero_add, k_0, k_51]
  refine Call.mono q ?_
  intro r' hi2 hl2 hr
  obtain ⟨v', e, q2⟩ := hr
  subst e
  simp (disch := omega) only [b_Law_law_1505, b_Law_law_1594, true_and, and_true, true_implies, false_implies, not_true_eq_false, not_false_eq_true, eq_self, or_true, true_or, false_or, or_false, false_and, and_false, Option.toList_some, Option.toList_none, List.cons_append, List.nil_append, n10, n01, e10, e01, e08, e18, e28, e38, e48, e58, e68, e78, lt_lit, nI_add, pk_mul, n_le, n_lt, n_eq, n_cl, n_in, n_sub, n_div, n_rem, n_ite, Nat.zero_add, k_0, k_51]
  exact hn hi2 hl2 q2
set_option maxRecDepth 20000 in
theorem law_43 (hi6 : i + 6 ≤ xN u) (hN : xN u ≤ 3072) (h : Pr u B' 102 209 [] hi hl) (hn : ∀ hi2 hl2, InvE B' hi2 hl2 → Wp u 228 18 [.ref 99, .ref 0, .ref 51, .int (nI (i + 6))] [] hi2 hl2 K) : vc u (n + 150) 228 1509 [.ref 99, .ref 0, .ref 51, .int (nI i)] [] hi hl K := by
  unfold Pr at h
  simp (disch := omega) only [b_Law_law_1509, true_and, and_true, true_implies, false_implies, not_true_eq_false, not_false_eq_true, eq_self, or_true, true_or, false_or, or_false, false_and, and_false, Option.toList_some, Option.toList_none, List.cons_append, List.nil_append, n10, n01, e10, e01, e08, e18, e28, e38, e48, e58, e68, e78, lt_lit, nI_add, pk_mul, n_le, n_lt, n_eq, n_cl, n_in, n_sub, n_div, n_rem, n_ite, Nat.zero_add, k_0, k_51]
  refine Call.mono h ?_
  intro r hi1 hl1 hr
  obtain ⟨v, e, q⟩ := hr
  subst e
  simp (disch := omega) only [b_Law_law_1513, true_and, and_true, true_implies, false_implies, not_true_eq_false, not_false_eq_true, eq_self, or_true, true_or, false_or, or_false, false_and, and_false, Option.toList_some, Option.toList_none, List.cons_append, List.nil_append, n10, n01, e10, e01, e08, e18, e28, e38, e48, e58, e68, e78, lt_lit, nI_add, pk_mul, n_le, n_lt, n_eq, n_cl, n_in, n_sub, n_div, n_rem, n_ite, Nat.zero_add, k_0, k_51]
  refine Call.mono q ?_
  intro r' hi2 hl2 hr
  obtain ⟨e, q2⟩ := hr
  subst e
  simp (disch := omega) only [b_Law_law_1518, b_Law_law_1594, true_and, and_true, true_implies, false_implies, not_true_eq_false, not_false_eq_true, eq_self, or_true, true_or, false_or, or_false, false_and, and_false, Option.toList_some, Option.toList_none, List.cons_append, List.nil_append, n10, n01, e10, e01, e08, e18, e28, e38, e48, e58, e68, e78, lt_lit, nI_add, pk_mul, n_le, n_lt, n_eq, n_cl, n_in, n_sub, n_div, n_rem, n_ite, Nat.zero_add, k_0, k_51]
  exact hn hi2 hl2 q2
set_option maxRecDepth 20000 in
theorem law_44 (hi6 : i + 6 ≤ xN u) (hN : xN u ≤ 3072) (h : Pr u B' 103 210 [] hi hl) (hn : ∀ hi2 hl2, InvE B' hi2 hl2 → Wp u 228 18 [.ref 99, .ref 0, .ref 51, .int (nI (i + 6))] [] hi2 hl2 K) : vc u (n + 150) 228 1522 [.ref 99, .ref 0, .ref 51, .int (nI i)] [] hi hl K := by
  unfold Pr at h
  simp (disch := omega) only [b_Law_law_1522, true_and, and_true, true_implies, false_implies, not_true_eq_false, not_false_eq_true, eq_self, or_true, true_or, false_or, or_false, false_and, and_false, Option.toList_some, Option.toList_none, List.cons_append, List.nil_append, n10, n01, e10, e01, e08, e18, e28, e38, e48, e58, e68, e78, lt_lit, nI_add, pk_mul, n_le, n_lt, n_eq, n_cl, n_in, n_sub, n_div, n_rem, n_ite, Nat.zero_add, k_0, k_51]
  refine Call.mono h ?_
  intro r hi1 hl1 hr
  obtain ⟨v, e, q⟩ := hr
  subst e
  simp (disch := omega) only [b_Law_law_1526, true_and, and_true, true_implies, false_implies, not_true_eq_false, not_false_eq_true, eq_self, or_true, true_or, false_or, or_false, false_and, and_false, Option.toList_some, Option.toList_none, List.cons_append, List.nil_append, n10, n01, e10, e01, e08, e18, e28, e38, e48, e58, e68, e78, lt_lit, nI_add, pk_mul, n_le, n_lt, n_eq, n_cl, n_in, n_sub, n_div, n_rem, n_ite, Nat.zero_add, k_0, k_51]
  refine Call.mono q ?_
  intro r' hi2 hl2 hr
  obtain ⟨e, q2⟩ := hr
  subst e
  simp (disch := omega) only [b_Law_law_1531, b_Law_law_1594, true_and, and_true, true_implies, false_implies, not_true_eq_false, not_false_eq_true, eq_self, or_true, true_or, false_or, or_false, false_and, and_false, Option.toList_some, Option.toList_none, List.cons_append, List.nil_append, n10, n01, e10, e01, e08, e18, e28, e38, e48, e58, e68, e78, lt_lit, nI_add, pk_mul, n_le, n_lt, n_eq, n_cl, n_in, n_sub, n_div, n_rem, n_ite, Nat.zero_add, k_0, k_51]
  exact hn hi2 hl2 q2
set_option maxRecDepth 20000 in
theorem law_45 (hi6 : i + 6 ≤ xN u) (hN : xN u ≤ 3072) (h : Pr u B' 104 211 [] hi hl) (hn : ∀ hi2 hl2, InvE B' hi2 hl2 → Wp u 228 18 [.ref 99, .ref 0, .ref 51, .int (nI (i + 6))] [] hi2 hl2 K) : vc u (n + 150) 228 1535 [.ref 99, .ref 0, .ref 51, .int (nI i)] [] hi hl K := by
  unfold Pr at h
  simp (disch := omega) only [b_Law_law_1535, true_and, and_true, true_implies, false_implies, not_true_eq_false, not_false_eq_true, eq_self, or_true, true_or, false_or, or_false, false_and, and_false, Option.toList_some, Option.toList_none, List.cons_append, List.nil_append, n10, n01, e10, e01, e08, e18, e28, e38, e48, e58, e68, e78, lt_lit, nI_add, pk_mul, n_le, n_lt, n_eq, n_cl, n_in, n_sub, n_div, n_rem, n_ite, Nat.zero_add, k_0, k_51]
  refine Call.mono h ?_
  intro r hi1 hl1 hr
  obtain ⟨v, e, q⟩ := hr
  subst e
  simp (disch := omega) only [b_Law_law_1539, true_and, and_true, true_implies, false_implies, not_true_eq_false, not_false_eq_true, eq_self, or_true, true_or, false_or, or_false, false_and, and_false, Option.toList_some, Option.toList_none, List.cons_append, List.nil_append, n10, n01, e10, e01, e08, e18, e28, e38, e48, e58, e68, e78, lt_lit, nI_add, pk_mul, n_le, n_lt, n_eq, n_cl, n_in, n_sub, n_div, n_rem, n_ite, Nat.zero_add, k_0, k_51]
  refine Call.mono q ?_
  intro r' hi2 hl2 hr
  obtain ⟨e, q2⟩ := hr
  subst e
  simp (disch := omega) only [b_Law_law_1544, b_Law_law_1594, true_and, and_true, true_implies, false_implies, not_true_eq_false, not_false_eq_true, eq_self, or_true, true_or, false_or, or_false, false_and, and_false, Option.toList_some, Option.toList_none, List.cons_append, List.nil_append, n10, n01, e10, e01, e08, e18, e28, e38, e48, e58, e68, e78, lt_lit, nI_add, pk_mul, n_le, n_lt, n_eq, n_cl, n_in, n_sub, n_div, n_rem, n_ite, Nat.zero_add, k_0, k_51]
  exact hn hi2 hl2 q2
set_option maxRecDepth 20000 in
theorem law_46 (hi6 : i + 6 ≤ xN u) (hN : xN u ≤ 3072) (h : Pr u B' 105 212 [.int (xX u (i + 1))] hi hl) (hn : ∀ hi2 hl2, InvE B' hi2 hl2 → Wp u 228 18 [.ref 99, .ref 0, .ref 51, .int (nI (i + 6))] [] hi2 hl2 K) : vc u (n + 150) 228 1548 [.ref 99, .ref 0, .ref 51, .int (nI i)] [] hi hl K := by
  unfold Pr at h
  simp (disch := omega) only [b_Law_law_1548, true_and, and_true, true_implies, false_implies, not_true_eq_false, not_false_eq_true, eq_self, or_true, true_or, false_or, or_false, false_and, and_false, Option.toList_some, Option.toList_none, List.cons_append, List.nil_append, n10, n01, e10, e01, e08, e18, e28, e38, e48, e58, e68, e78, lt_lit, nI_add, pk_mul, n_le, n_lt, n_eq, n_cl, n_in, n_sub, n_div, n_rem, n_ite, Nat.zero_add, k_0, k_51]
  refine Call.mono h ?_
  intro r hi1 hl1 hr
  obtain ⟨v, e, q⟩ := hr
  subst e
  simp (disch := omega) only [b_Law_law_1557, true_and, and_true, true_implies, false_implies, not_true_eq_false, not_false_eq_true, eq_self, or_true, true_or, false_or, or_false, false_and, and_false, Option.toList_some, Option.toList_none, List.cons_append, List.nil_append, n10, n01, e10, e01, e08, e18, e28, e38, e48, e58, e68, e78, lt_lit, nI_add, pk_mul, n_le, n_lt, n_eq, n_cl, n_in, n_sub, n_div, n_rem, n_ite, Nat.zero_add, k_0, k_51]
  refine Call.mono q ?_
  intro r' hi2 hl2 hr
  obtain ⟨e, q2⟩ := hr
  subst e
  simp (disch := omega) only [b_Law_law_1567, b_Law_law_1594, true_and, and_true, true_implies, false_implies, not_true_eq_false, not_false_eq_true, eq_self, or_true, true_or, false_or, or_false, false_and, and_false, Option.toList_some, Option.toList_none, List.cons_append, List.nil_append, n10, n01, e10, e01, e08, e18, e28, e38, e48, e58, e68, e78, lt_lit, nI_add, pk_mul, n_le, n_lt, n_eq, n_cl, n_in, n_sub, n_div, n_rem, n_ite, Nat.zero_add, k_0, k_51]
  exact hn hi2 hl2 q2
set_option maxRecDepth 20000 in
theorem law_47 (hi6 : i + 6 ≤ xN u) (hN : xN u ≤ 3072) (h : Pr u B' 106 213 [.int (xX u (i + 1))] hi hl) (hn : ∀ hi2 hl2, InvE B' hi2 hl2 → Wp u 228 18 [.ref 99, .ref 0, .ref 51, .int (nI (i + 6))] [] hi2 hl2 K) : vc u (n + 150) 228 1571 [.ref 99, .ref 0, .ref 51, .int (nI i)] [] hi hl K := by
  unfold Pr at h
  simp (disch := omega) only [b_Law_law_1571, true_and, and_true, true_implies, false_implies, not_true_eq_false, not_false_eq_true, eq_self, or_true, true_or, false_or, or_false, false_and, and_false, Option.toList_some, Option.toList_none, List.cons_append, List.nil_append, n10, n01, e10, e01, e08, e18, e28, e38, e48, e58, e68, e78, lt_lit, nI_add, pk_mul, n_le, n_lt, n_eq, n_cl, n_in, n_sub, n_div, n_rem, n_ite, Nat.zero_add, k_0, k_51]
  refine Call.mono h ?_
  intro r hi1 hl1 hr
  obtain ⟨v, e, q⟩ := hr
  subst e
  simp (disch := omega) only [b_Law_law_1580, true_and, and_true, true_implies, false_implies, not_true_eq_false, not_false_eq_true, eq_self, or_true, true_or, false_or, or_false, false_and, and_false, Option.toList_some, Option.toList_none, List.cons_append, List.nil_append, n10, n01, e10, e01, e08, e18, e28, e38, e48, e58, e68, e78, lt_lit, nI_add, pk_mul, n_le, n_lt, n_eq, n_cl, n_in, n_sub, n_div, n_rem, n_ite, Nat.zero_add, k_0, k_51]
  refine Call.mono q ?_
  intro r' hi2 hl2 hr
  obtain ⟨e, q2⟩ := hr
  subst e
  simp (disch := omega) only [b_Law_law_1589, b_Law_law_1594, true_and, and_true, true_implies, false_implies, not_true_eq_false, not_false_eq_true, eq_self, or_true, true_or, false_or, or_false, false_and, and_false, Option.toList_some, Option.toList_none, List.cons_append, List.nil_append, n10, n01, e10, e01, e08, e18, e28, e38, e48, e58, e68, e78, lt_lit, nI_add, pk_mul, n_le, n_lt, n_eq, n_cl, n_in, n_sub, n_div, n_rem, n_ite, Nat.zero_add, k_0, k_51]
  exact hn hi2 hl2 q2
theorem law_d (hi6 : i + 6 ≤ xN u) (hN : xN u ≤ 3072) (hn : Wp u 228 18 [.ref 99, .ref 0, .ref 51, .int (nI (i + 6))] [] hi hl K) : vc u (n + 150) 228 1594 [.ref 99, .ref 0, .ref 51, .int (nI i)] [] hi hl K := by
  simp (disch := omega) only [b_Law_law_1594, true_and, and_true, true_implies, false_implies, not_true_eq_false, not_false_eq_true, eq_self, or_true, true_or, false_or, or_false, false_and, and_false, Option.toList_some, Option.toList_none, List.cons_append, List.nil_append, n10, n01, e10, e01, e08, e18, e28, e38, e48, e58, e68, e78, lt_lit, nI_add, pk_mul, n_le, n_lt, n_eq, n_cl, n_in, n_sub, n_div, n_rem, n_ite, Nat.zero_add, k_0, k_51]
  exact hn
end L1
