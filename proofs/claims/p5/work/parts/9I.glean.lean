def kdF (N : Nat → Nat) (L p : Nat) : Nat → Nat → Nat
  | 0, k => k
  | n + 1, k => if wdT N L p k = true then k else kdF N L p n (k + 1)
theorem kdF_le (N : Nat → Nat) (L p : Nat) : ∀ n k, kdF N L p n k ≤ k + n := by
  intro n
  induction n with
  | zero => intro k; exact Nat.le_refl _
  | succ n ih =>
    intro k
    rw [kdF]
    have := ih (k + 1)
    split <;> omega
def optT (N : Nat → Nat) (L i g p : Nat) : Bool × Nat × Nat := if wdT N L p i = true then (if tkS N L (nxT N L p) = 2 ∧ nuT N L (nxT N L p) ≤ g then (true, nxT N L (nxT N L p), nuT N L (nxT N L p)) else (false, nxT N L p, 0)) else (true, p, 0)
theorem optT_le (N : Nat → Nat) (L i g p : Nat) : (optT N L i g p).2.2 ≤ g := by
  unfold optT
  split
  · split
    · rename_i q; exact q.2
    · exact Nat.zero_le _
  · exact Nat.zero_le _
def glA (N : Nat → Nat) (L k r w h p : Nat) : Rd := if wdT N L p 15 = true then (true, nxT N L p, [(k, r, w, h, 1)]) else (true, p, [(k, r, w, h, 0)])
def glB (N : Nat → Nat) (L k r w p : Nat) : Rd := if (optT N L 14 4 p).1 = true then glA N L k r w (optT N L 14 4 p).2.2 (optT N L 14 4 p).2.1 else (false, (optT N L 14 4 p).2.1, [])
def glC (N : Nat → Nat) (L k r p : Nat) : Rd := if (optT N L 13 7 p).1 = true then glB N L k r (optT N L 13 7 p).2.2 (optT N L 13 7 p).2.1 else (false, (optT N L 13 7 p).2.1, [])
def glD (N : Nat → Nat) (L k p : Nat) : Rd := if tkS N L p = 2 ∧ nuT N L p ≤ 7 then glC N L k (nuT N L p) (nxT N L p) else (false, p, [])
def glE (N : Nat → Nat) (L k p : Nat) : Rd := if wdT N L p 12 = true then glD N L k (nxT N L p) else (false, p, [])
def glT (N : Nat → Nat) (L g p : Nat) : Rd := if kdF N L p 6 0 = 6 ∨ g = 9 then (false, p, []) else glE N L (kdF N L p 6 0) (nxT N L p)
section P34
variable {u : UV} {hi : HI} {hl : HL} {K : Option Value → HI → HL → Prop} {N : Nat → Nat} {L p : Nat} {A : Nat → Nat} {B : Nat}
theorem c_kindNamed (hk : LkC hi N L p) (h1 : kdF N L p 6 0 < 6 → K (some (.int (nI (kdF N L p 6 0)))) hi hl) (h0 : kdF N L p 6 0 = 6 → K (some (.int m1)) hi hl) : Call u 44 [.ref 39] hi hl K := by
  have loop : ∀ n k, k + n = 6 → kdF N L p n k = kdF N L p 6 0 → Wp u 44 2 [.ref 39, .int (nI k)] [] hi hl K := by
    intro n
    induction n with
    | zero =>
      intro k e ek
      rw [kdF] at ek
      refine wv (by decide) ?_
      simp (disch := omega) only [b_R_kindNamed_0, b_R_kindNamed_2, b_R_kindNamed_8, b_R_kindNamed_16, b_R_kindNamed_19, b_R_kindNamed_22, b_R_kindNamed_24, b_R_kindNamed_30, true_and, and_true, true_implies, false_implies, not_true_eq_false, not_false_eq_true, eq_self, or_true, true_or, false_or, or_false, false_and, and_false, Option.toList_some, Option.toList_none, List.cons_append, List.nil_append, n10, n01, e10, e01, e08, e18, e28, e38, e48, e58, e68, e78, exI, exL, ↓fd0, ↓fd1, ↓fd2, ↓fd3, ↓fd4, ↓fd5, ↓fd6, ↓m1e, lt_lit, nI_add, pk_mul, n_le, n_lt, n_eq, n_cl, n_in, n_sub, n_div, n_rem, n_ite, Nat.zero_add, r_0_0, r_0_1, r_0_2, r_0_4, r_0_5, r_0_6, r_0_7, r_37_0, r_39_0, r_40_0, k_0, k_1, k_13, k_25, k_37, k_38, k_39, k_40, k_41, k_42, n_38, n_41, n_42, r_51_0, r_51_1, r_51_2, r_51_4, r_51_6, r_51_13, r_51_14, r_51_18, r_51_19, r_51_20, r_51_21, k_51, k_52, k_53, k_54, k_55, k_56, k_57, k_58, k_59, k_60, k_61, k_62, n_52, n_53, n_54, n_55, n_56, n_57, n_58, n_59, n_60, n_61, n_62, ix1, ix2, ix3, ix4, ix5, ix6, ix7, Nat.add_zero, ofn, x88, F_k isF1, F_k isF13, F_k isF25, F_k1 isF1, F_k1 isF13, F_k1 isF25, F_l1 isF1, F_l1 isF13, F_l1 isF25, F_r0 isF1, F_r0 isF13, F_r0 isF25, F_r1 isF1, F_r1 isF13, F_r1 isF25, F_k2 isF1, F_k2 isF13, F_k2 isF25, F_l2 isF1, F_l2 isF13, F_l2 isF25, F_rg isF1, F_rg isF13, F_rg isF25, F_kg isF1, F_kg isF13, F_kg isF25]
      exact ⟨fun _ => h0 (by omega), fun q => absurd (by omega) q⟩
    | succ n ih =>
      intro k e ek
      rw [kdF] at ek
      refine wv (by decide) ?_
      simp (disch := omega) only [b_R_kindNamed_0, b_R_kindNamed_2, b_R_kindNamed_8, b_R_kindNamed_16, b_R_kindNamed_19, b_R_kindNamed_22, b_R_kindNamed_24, b_R_kindNamed_30, true_and, and_true, true_implies, false_implies, not_true_eq_false, not_false_eq_true, eq_self, or_true, true_or, false_or, or_false, false_and, and_false, Option.toList_some, Option.toList_none, List.cons_append, List.nil_append, n10, n01, e10, e01, e08, e18, e28, e38, e48, e58, e68, e78, exI, exL, ↓fd0, ↓fd1, ↓fd2, ↓fd3, ↓fd4, ↓fd5, ↓fd6, ↓m1e, lt_lit, nI_add, pk_mul, n_le, n_lt, n_eq, n_cl, n_in, n_sub, n_div, n_rem, n_ite, Nat.zero_add, r_0_0, r_0_1, r_0_2, r_0_4, r_0_5, r_0_6, r_0_7, r_37_0, r_39_0, r_40_0, k_0, k_1, k_13, k_25, k_37, k_38, k_39, k_40, k_41, k_42, n_38, n_41, n_42, r_51_0, r_51_1, r_51_2, r_51_4, r_51_6, r_51_13, r_51_14, r_51_18, r_51_19, r_51_20, r_51_21, k_51, k_52, k_53, k_54, k_55, k_56, k_57, k_58, k_59, k_60, k_61, k_62, n_52, n_53, n_54, n_55, n_56, n_57, n_58, n_59, n_60, n_61, n_62, ix1, ix2, ix3, ix4, ix5, ix6, ix7, Nat.add_zero, ofn, x88, F_k isF1, F_k isF13, F_k isF25, F_k1 isF1, F_k1 isF13, F_k1 isF25, F_l1 isF1, F_l1 isF13, F_l1 isF25, F_r0 isF1, F_r0 isF13, F_r0 isF25, F_r1 isF1, F_r1 isF13, F_r1 isF25, F_k2 isF1, F_k2 isF13, F_k2 isF25, F_l2 isF1, F_l2 isF13, F_l2 isF25, F_rg isF1, F_rg isF13, F_rg isF25, F_kg isF1, F_kg isF13, F_kg isF25]
      refine ⟨fun q => absurd q (by omega), fun _ => ?_⟩
      refine c_nameOf (by omega) ?_
      simp (disch := omega) only [b_R_kindNamed_0, b_R_kindNamed_2, b_R_kindNamed_8, b_R_kindNamed_16, b_R_kindNamed_19, b_R_kindNamed_22, b_R_kindNamed_24, b_R_kindNamed_30, true_and, and_true, true_implies, false_implies, not_true_eq_false, not_false_eq_true, eq_self, or_true, true_or, false_or, or_false, false_and, and_false, Option.toList_some, Option.toList_none, List.cons_append, List.nil_append, n10, n01, e10, e01, e08, e18, e28, e38, e48, e58, e68, e78, exI, exL, ↓fd0, ↓fd1, ↓fd2, ↓fd3, ↓fd4, ↓fd5, ↓fd6, ↓m1e, lt_lit, nI_add, pk_mul, n_le, n_lt, n_eq, n_cl, n_in, n_sub, n_div, n_rem, n_ite, Nat.zero_add, r_0_0, r_0_1, r_0_2, r_0_4, r_0_5, r_0_6, r_0_7, r_37_0, r_39_0, r_40_0, k_0, k_1, k_13, k_25, k_37, k_38, k_39, k_40, k_41, k_42, n_38, n_41, n_42, r_51_0, r_51_1, r_51_2, r_51_4, r_51_6, r_51_13, r_51_14, r_51_18, r_51_19, r_51_20, r_51_21, k_51, k_52, k_53, k_54, k_55, k_56, k_57, k_58, k_59, k_60, k_61, k_62, n_52, n_53, n_54, n_55, n_56, n_57, n_58, n_59, n_60, n_61, n_62, ix1, ix2, ix3, ix4, ix5, ix6, ix7, Nat.add_zero, ofn, x88, F_k isF1, F_k isF13, F_k isF25, F_k1 isF1, F_k1 isF13, F_k1 isF25, F_l1 isF1, F_l1 isF13, F_l1 isF25, F_r0 isF1, F_r0 isF13, F_r0 isF25, F_r1 isF1, F_r1 isF13, F_r1 isF25, F_k2 isF1, F_k2 isF13, F_k2 isF25, F_l2 isF1, F_l2 isF13, F_l2 isF25, F_rg isF1, F_rg isF13, F_rg isF25, F_kg isF1, F_kg isF13, F_kg isF25]
      refine c_isWordP hk (by omega) (fun q => ?_) (fun q => ?_)
      · rw [if_pos q] at ek
        simp (disch := omega) only [b_R_kindNamed_0, b_R_kindNamed_2, b_R_kindNamed_8, b_R_kindNamed_16, b_R_kindNamed_19, b_R_kindNamed_22, b_R_kindNamed_24, b_R_kindNamed_30, true_and, and_true, true_implies, false_implies, not_true_eq_false, not_false_eq_true, eq_self, or_true, true_or, false_or, or_false, false_and, and_false, Option.toList_some, Option.toList_none, List.cons_append, List.nil_append, n10, n01, e10, e01, e08, e18, e28, e38, e48, e58, e68, e78, exI, exL, ↓fd0, ↓fd1, ↓fd2, ↓fd3, ↓fd4, ↓fd5, ↓fd6, ↓m1e, lt_lit, nI_add, pk_mul, n_le, n_lt, n_eq, n_cl, n_in, n_sub, n_div, n_rem, n_ite, Nat.zero_add, r_0_0, r_0_1, r_0_2, r_0_4, r_0_5, r_0_6, r_0_7, r_37_0, r_39_0, r_40_0, k_0, k_1, k_13, k_25, k_37, k_38, k_39, k_40, k_41, k_42, n_38, n_41, n_42, r_51_0, r_51_1, r_51_2, r_51_4, r_51_6, r_51_13, r_51_14, r_51_18, r_51_19, r_51_20, r_51_21, k_51, k_52, k_53, k_54, k_55, k_56, k_57, k_58, k_59, k_60, k_61, k_62, n_52, n_53, n_54, n_55, n_56, n_57, n_58, n_59, n_60, n_61, n_62, ix1, ix2, ix3, ix4, ix5, ix6, ix7, Nat.add_zero, ofn, x88, F_k isF1, F_k isF13, F_k isF25, F_k1 isF1, F_k1 isF13, F_k1 isF25, F_l1 isF1, F_l1 isF13, F_l1 isF25, F_r0 isF1, F_r0 isF13, F_r0 isF25, F_r1 isF1, F_r1 isF13, F_r1 isF25, F_k2 isF1, F_k2 isF13, F_k2 isF25, F_l2 isF1, F_l2 isF13, F_l2 isF25, F_rg isF1, F_rg isF13, F_rg isF25, F_kg isF1, F_kg isF13, F_kg isF25, Nat.reduceEqDiff, Nat.reduceLeDiff, Nat.reduceLT, Nat.reduceAdd, Nat.reduceMul, Nat.reduceSub]
        have := h1 (by omega)
        rw [← ek] at this
        exact this
      · rw [if_neg q] at ek
        simp (disch := omega) only [b_R_kindNamed_0, b_R_kindNamed_2, b_R_kindNamed_8, b_R_kindNamed_16, b_R_kindNamed_19, b_R_kindNamed_22, b_R_kindNamed_24, b_R_kindNamed_30, true_and, and_true, true_implies, false_implies, not_true_eq_false, not_false_eq_true, eq_self, or_true, true_or, false_or, or_false, false_and, and_false, Option.toList_some, Option.toList_none, List.cons_append, List.nil_append, n10, n01, e10, e01, e08, e18, e28, e38, e48, e58, e68, e78, exI, exL, ↓fd0, ↓fd1, ↓fd2, ↓fd3, ↓fd4, ↓fd5, ↓fd6, ↓m1e, lt_lit, nI_add, pk_mul, n_le, n_lt, n_eq, n_cl, n_in, n_sub, n_div, n_rem, n_ite, Nat.zero_add, r_0_0, r_0_1, r_0_2, r_0_4, r_0_5, r_0_6, r_0_7, r_37_0, r_39_0, r_40_0, k_0, k_1, k_13, k_25, k_37, k_38, k_39, k_40, k_41, k_42, n_38, n_41, n_42, r_51_0, r_51_1, r_51_2, r_51_4, r_51_6, r_51_13, r_51_14, r_51_18, r_51_19, r_51_20, r_51_21, k_51, k_52, k_53, k_54, k_55, k_56, k_57, k_58, k_59, k_60, k_61, k_62, n_52, n_53, n_54, n_55, n_56, n_57, n_58, n_59, n_60, n_61, n_62, ix1, ix2, ix3, ix4, ix5, ix6, ix7, Nat.add_zero, ofn, x88, F_k isF1, F_k isF13, F_k isF25, F_k1 isF1, F_k1 isF13, F_k1 isF25, F_l1 isF1, F_l1 isF13, F_l1 isF25, F_r0 isF1, F_r0 isF13, F_r0 isF25, F_r1 isF1, F_r1 isF13, F_r1 isF25, F_k2 isF1, F_k2 isF13, F_k2 isF25, F_l2 isF1, F_l2 isF13, F_l2 isF25, F_rg isF1, F_rg isF13, F_rg isF25, F_kg isF1, F_kg isF13, F_kg isF25, Nat.reduceEqDiff, Nat.reduceLeDiff, Nat.reduceLT, Nat.reduceAdd, Nat.reduceMul, Nat.reduceSub]
        exact ih (k + 1) (by omega) ek
  refine i_R_kindNamed ?_
  simp (disch := omega) only [b_R_kindNamed_0, b_R_kindNamed_2, b_R_kindNamed_8, b_R_kindNamed_16, b_R_kindNamed_19, b_R_kindNamed_22, b_R_kindNamed_24, b_R_kindNamed_30, true_and, and_true, true_implies, false_implies, not_true_eq_false, not_false_eq_true, eq_self, or_true, true_or, false_or, or_false, false_and, and_false, Option.toList_some, Option.toList_none, List.cons_append, List.nil_append, n10, n01, e10, e01, e08, e18, e28, e38, e48, e58, e68, e78, exI, exL, ↓fd0, ↓fd1, ↓fd2, ↓fd3, ↓fd4, ↓fd5, ↓fd6, ↓m1e, lt_lit, nI_add, pk_mul, n_le, n_lt, n_eq, n_cl, n_in, n_sub, n_div, n_rem, n_ite, Nat.zero_add, r_0_0, r_0_1, r_0_2, r_0_4, r_0_5, r_0_6, r_0_7, r_37_0, r_39_0, r_40_0, k_0, k_1, k_13, k_25, k_37, k_38, k_39, k_40, k_41, k_42, n_38, n_41, n_42, r_51_0, r_51_1, r_51_2, r_51_4, r_51_6, r_51_13, r_51_14, r_51_18, r_51_19, r_51_20, r_51_21, k_51, k_52, k_53, k_54, k_55, k_56, k_57, k_58, k_59, k_60, k_61, k_62, n_52, n_53, n_54, n_55, n_56, n_57, n_58, n_59, n_60, n_61, n_62, ix1, ix2, ix3, ix4, ix5, ix6, ix7, Nat.add_zero, ofn, x88, F_k isF1, F_k isF13, F_k isF25, F_k1 isF1, F_k1 isF13, F_k1 isF25, F_l1 isF1, F_l1 isF13, F_l1 isF25, F_r0 isF1, F_r0 isF13, F_r0 isF25, F_r1 isF1, F_r1 isF13, F_r1 isF25, F_k2 isF1, F_k2 isF13, F_k2 isF25, F_l2 isF1, F_l2 isF13, F_l2 isF25, F_rg isF1, F_rg isF13, F_rg isF25, F_kg isF1, F_kg isF13, F_kg isF25]
  exact loop 6 0 (by omega) rfl
theorem add_pb {k r w h b : Nat} : up (up (addN A k r 0 h 0) (71 + 8 * A 68) w) (75 + 8 * A 68) b = addN A k r w h b := by
  funext j
  unfold up addN
  (repeat' split) <;> first | rfl | omega
end P34
