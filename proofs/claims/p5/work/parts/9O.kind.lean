theorem ws_ne : ∀ i, i < 16 → ∀ j, j < 16 → lenS.getD i 0 = lenS.getD j 0 → (∀ k, k < lenS.getD i 0 → chN i k = chN j k) → i = j := by decide +kernel
theorem eqW_at {N : Nat → Nat} {b i : Nat} : ∀ n k, eqW N b i n k = true → ∀ j, k ≤ j → j < k + n → N (b + j) = chN i j := by
  intro n
  induction n with
  | zero => intro k _ j h1 h2; omega
  | succ n ih =>
    intro k h j h1 h2
    rw [eqW] at h
    split at h
    · rename_i q
      by_cases z : j = k
      · subst z; exact q
      · exact ih (k + 1) h j (by omega) (by omega)
    · exact absurd h (by decide)
/-- a token is one word at most -/
theorem wd_one {N : Nat → Nat} {L p i j : Nat} (hi : i < 16) (hj : j < 16) (h1 : wdT N L p i = true) (h2 : wdT N L p j = true) : i = j := by
  unfold wdT isW at h1 h2
  split at h1
  · rename_i q1
    split at h2
    · rename_i q2
      refine ws_ne i hi j hj (q1.2.symm.trans q2.2) (fun k hk => ?_)
      have e := q1.2.symm.trans q2.2
      rw [← eqW_at _ 0 h1 k (by omega) (by omega), ← eqW_at _ 0 h2 k (by omega) (by omega)]
    · exact absurd h2 (by decide)
  · exact absurd h1 (by decide)
theorem kdF_wd {N : Nat → Nat} {L p : Nat} : ∀ n k, kdF N L p n k < k + n → wdT N L p (kdF N L p n k) = true ∧ k ≤ kdF N L p n k := by
  intro n
  induction n with
  | zero => intro k h; rw [kdF] at h; omega
  | succ n ih =>
    intro k h
    rw [kdF] at h ⊢
    split at h
    · rename_i q; rw [if_pos q]; exact ⟨q, Nat.le_refl _⟩
    · rename_i q; rw [if_neg q]; have := ih (k + 1) (by omega); exact ⟨this.1, by omega⟩
theorem kdF_no {N : Nat → Nat} {L p : Nat} : ∀ n k, kdF N L p n k = k + n → ∀ j, k ≤ j → j < k + n → ¬ wdT N L p j = true := by
  intro n
  induction n with
  | zero => intro k _ j h1 h2; omega
  | succ n ih =>
    intro k h j h1 h2
    rw [kdF] at h
    split at h
    · omega
    · rename_i q
      by_cases z : j = k
      · subst z; exact q
      · exact ih (k + 1) (by omega) j (by omega) (by omega)
section P40
variable {u : UV} {hi : HI} {hl : HL} {K : Option Value → HI → HL → Prop} {N : Nat → Nat} {L p : Nat}
theorem c_kindTold (hk : LkM hi N L p) (h1 : kdF N L p 6 0 < 6 → K (some (.int (nI (kdF N L p 6 0)))) hi hl) (h0 : kdF N L p 6 0 = 6 → K (some (.int m1)) hi hl) : Call u 193 [.ref 51] hi hl K := by
  have k6 := kdF_le N L p 6 0
  by_cases q : kdF N L p 6 0 < 6
  · obtain ⟨w, -⟩ := kdF_wd 6 0 (by omega) (N := N) (L := L) (p := p)
    have h := h1 q
    generalize kdF N L p 6 0 = c at w q h
    have loop : ∀ n k x, k + n = 6 → (if c < k then x = nI c else True) → Wp u 193 4 [.ref 51, .int x, .int (nI k)] [] hi hl K := by
      intro n
      induction n with
      | zero =>
        intro k x e hx
        rw [if_pos (by omega)] at hx
        subst hx
        refine wv (by decide) ?_
        simp (disch := omega) only [b_M_kindTold_0, b_M_kindTold_4, b_M_kindTold_13, b_M_kindTold_23, b_M_kindTold_26, b_M_kindTold_30, b_M_kindTold_31, b_M_kindTold_38, true_and, and_true, true_implies, false_implies, not_true_eq_false, not_false_eq_true, eq_self, or_true, true_or, false_or, or_false, false_and, and_false, Option.toList_some, Option.toList_none, List.cons_append, List.nil_append, n10, n01, e10, e01, e08, e18, e28, e38, e48, e58, e68, e78, exI, exL, ↓fd0, ↓fd1, ↓fd2, ↓fd3, ↓fd4, ↓fd5, ↓fd6, ↓m1e, lt_lit, nI_add, pk_mul, n_le, n_lt, n_eq, n_cl, n_in, n_sub, n_div, n_rem, n_ite, Nat.zero_add, r_0_0, r_0_1, r_0_2, r_0_4, r_0_5, r_0_6, r_0_7, r_37_0, r_39_0, r_40_0, k_0, k_1, k_13, k_25, k_37, k_38, k_39, k_40, k_41, k_42, n_38, n_41, n_42, r_51_0, r_51_1, r_51_2, r_51_4, r_51_6, r_51_13, r_51_14, r_51_18, r_51_19, r_51_20, r_51_21, k_51, k_52, k_53, k_54, k_55, k_56, k_57, k_58, k_59, k_60, k_61, k_62, n_52, n_53, n_54, n_55, n_56, n_57, n_58, n_59, n_60, n_61, n_62, ix1, ix2, ix3, ix4, ix5, ix6, ix7, Nat.add_zero, ofn, x88, F_k isF1, F_k isF13, F_k isF25, F_k1 isF1, F_k1 isF13, F_k1 isF25, F_l1 isF1, F_l1 isF13, F_l1 isF25, F_r0 isF1, F_r0 isF13, F_r0 isF25, F_r1 isF1, F_r1 isF13, F_r1 isF25, F_k2 isF1, F_k2 isF13, F_k2 isF25, F_l2 isF1, F_l2 isF13, F_l2 isF25, F_rg isF1, F_rg isF13, F_rg isF25, F_kg isF1, F_kg isF13, F_kg isF25, x13a, x13b]
        exact ⟨fun _ => h, fun z => absurd (by omega) z⟩
      | succ n ih =>
        intro k x e hx
        refine wv (by decide) ?_
        simp (disch := omega) only [b_M_kindTold_0, b_M_kindTold_4, b_M_kindTold_13, b_M_kindTold_23, b_M_kindTold_26, b_M_kindTold_30, b_M_kindTold_31, b_M_kindTold_38, true_and, and_true, true_implies, false_implies, not_true_eq_false, not_false_eq_true, eq_self, or_true, true_or, false_or, or_false, false_and, and_false, Option.toList_some, Option.toList_none, List.cons_append, List.nil_append, n10, n01, e10, e01, e08, e18, e28, e38, e48, e58, e68, e78, exI, exL, ↓fd0, ↓fd1, ↓fd2, ↓fd3, ↓fd4, ↓fd5, ↓fd6, ↓m1e, lt_lit, nI_add, pk_mul, n_le, n_lt, n_eq, n_cl, n_in, n_sub, n_div, n_rem, n_ite, Nat.zero_add, r_0_0, r_0_1, r_0_2, r_0_4, r_0_5, r_0_6, r_0_7, r_37_0, r_39_0, r_40_0, k_0, k_1, k_13, k_25, k_37, k_38, k_39, k_40, k_41, k_42, n_38, n_41, n_42, r_51_0, r_51_1, r_51_2, r_51_4, r_51_6, r_51_13, r_51_14, r_51_18, r_51_19, r_51_20, r_51_21, k_51, k_52, k_53, k_54, k_55, k_56, k_57, k_58, k_59, k_60, k_61, k_62, n_52, n_53, n_54, n_55, n_56, n_57, n_58, n_59, n_60, n_61, n_62, ix1, ix2, ix3, ix4, ix5, ix6, ix7, Nat.add_zero, ofn, x88, F_k isF1, F_k isF13, F_k isF25, F_k1 isF1, F_k1 isF13, F_k1 isF25, F_l1 isF1, F_l1 isF13, F_l1 isF25, F_r0 isF1, F_r0 isF13, F_r0 isF25, F_r1 isF1, F_r1 isF13, F_r1 isF25, F_k2 isF1, F_k2 isF13, F_k2 isF25, F_l2 isF1, F_l2 isF13, F_l2 isF25, F_rg isF1, F_rg isF13, F_rg isF25, F_kg isF1, F_kg isF13, F_kg isF25, x13a, x13b, rk57]
        refine ⟨fun z => absurd z (by omega), fun _ => ?_⟩
        refine c_misWordP hk (by omega) (fun y => ?_) (fun y => ?_)
        · simp (disch := omega) only [b_M_kindTold_0, b_M_kindTold_4, b_M_kindTold_13, b_M_kindTold_23, b_M_kindTold_26, b_M_kindTold_30, b_M_kindTold_31, b_M_kindTold_38, true_and, and_true, true_implies, false_implies, not_true_eq_false, not_false_eq_true, eq_self, or_true, true_or, false_or, or_false, false_and, and_false, Option.toList_some, Option.toList_none, List.cons_append, List.nil_append, n10, n01, e10, e01, e08, e18, e28, e38, e48, e58, e68, e78, exI, exL, ↓fd0, ↓fd1, ↓fd2, ↓fd3, ↓fd4, ↓fd5, ↓fd6, ↓m1e, lt_lit, nI_add, pk_mul, n_le, n_lt, n_eq, n_cl, n_in, n_sub, n_div, n_rem, n_ite, Nat.zero_add, r_0_0, r_0_1, r_0_2, r_0_4, r_0_5, r_0_6, r_0_7, r_37_0, r_39_0, r_40_0, k_0, k_1, k_13, k_25, k_37, k_38, k_39, k_40, k_41, k_42, n_38, n_41, n_42, r_51_0, r_51_1, r_51_2, r_51_4, r_51_6, r_51_13, r_51_14, r_51_18, r_51_19, r_51_20, r_51_21, k_51, k_52, k_53, k_54, k_55, k_56, k_57, k_58, k_59, k_60, k_61, k_62, n_52, n_53, n_54, n_55, n_56, n_57, n_58, n_59, n_60, n_61, n_62, ix1, ix2, ix3, ix4, ix5, ix6, ix7, Nat.add_zero, ofn, x88, F_k isF1, F_k isF13, F_k isF25, F_k1 isF1, F_k1 isF13, F_k1 isF25, F_l1 isF1, F_l1 isF13, F_l1 isF25, F_r0 isF1, F_r0 isF13, F_r0 isF25, F_r1 isF1, F_r1 isF13, F_r1 isF25, F_k2 isF1, F_k2 isF13, F_k2 isF25, F_l2 isF1, F_l2 isF13, F_l2 isF25, F_rg isF1, F_rg isF13, F_rg isF25, F_kg isF1, F_kg isF13, F_kg isF25, Nat.reduceEqDiff, Nat.reduceLeDiff, Nat.reduceLT, Nat.reduceAdd, Nat.reduceMul, Nat.reduceSub]
          have := wd_one (by omega) (by omega) y w
          subst this
          exact ih (k + 1) _ (by omega) (by rw [if_pos (by omega)])
        · simp (disch := omega) only [b_M_kindTold_0, b_M_kindTold_4, b_M_kindTold_13, b_M_kindTold_23, b_M_kindTold_26, b_M_kindTold_30, b_M_kindTold_31, b_M_kindTold_38, true_and, and_true, true_implies, false_implies, not_true_eq_false, not_false_eq_true, eq_self, or_true, true_or, false_or, or_false, false_and, and_false, Option.toList_some, Option.toList_none, List.cons_append, List.nil_append, n10, n01, e10, e01, e08, e18, e28, e38, e48, e58, e68, e78, exI, exL, ↓fd0, ↓fd1, ↓fd2, ↓fd3, ↓fd4, ↓fd5, ↓fd6, ↓m1e, lt_lit, nI_add, pk_mul, n_le, n_lt, n_eq, n_cl, n_in, n_sub, n_div, n_rem, n_ite, Nat.zero_add, r_0_0, r_0_1, r_0_2, r_0_4, r_0_5, r_0_6, r_0_7, r_37_0, r_39_0, r_40_0, k_0, k_1, k_13, k_25, k_37, k_38, k_39, k_40, k_41, k_42, n_38, n_41, n_42, r_51_0, r_51_1, r_51_2, r_51_4, r_51_6, r_51_13, r_51_14, r_51_18, r_51_19, r_51_20, r_51_21, k_51, k_52, k_53, k_54, k_55, k_56, k_57, k_58, k_59, k_60, k_61, k_62, n_52, n_53, n_54, n_55, n_56, n_57, n_58, n_59, n_60, n_61, n_62, ix1, ix2, ix3, ix4, ix5, ix6, ix7, Nat.add_zero, ofn, x88, F_k isF1, F_k isF13, F_k isF25, F_k1 isF1, F_k1 isF13, F_k1 isF25, F_l1 isF1, F_l1 isF13, F_l1 isF25, F_r0 isF1, F_r0 isF13, F_r0 isF25, F_r1 isF1, F_r1 isF13, F_r1 isF25, F_k2 isF1, F_k2 isF13, F_k2 isF25, F_l2 isF1, F_l2 isF13, F_l2 isF25, F_rg isF1, F_rg isF13, F_rg isF25, F_kg isF1, F_kg isF13, F_kg isF25, Nat.reduceEqDiff, Nat.reduceLeDiff, Nat.reduceLT, Nat.reduceAdd, Nat.reduceMul, Nat.reduceSub]
          refine ih (k + 1) _ (by omega) ?_
          by_cases z : c < k
          · rw [if_pos z] at hx; rw [if_pos (by omega)]; exact hx
          · by_cases z2 : c = k
            · subst z2; exact absurd w y
            · rw [if_neg (by omega)]; trivial
    refine i_M_kindTold ?_
    simp (disch := omega) only [b_M_kindTold_0, b_M_kindTold_4, b_M_kindTold_13, b_M_kindTold_23, b_M_kindTold_26, b_M_kindTold_30, b_M_kindTold_31, b_M_kindTold_38, true_and, and_true, true_implies, false_implies, not_true_eq_false, not_false_eq_true, eq_self, or_true, true_or, false_or, or_false, false_and, and_false, Option.toList_some, Option.toList_none, List.cons_append, List.nil_append, n10, n01, e10, e01, e08, e18, e28, e38, e48, e58, e68, e78, exI, exL, ↓fd0, ↓fd1, ↓fd2, ↓fd3, ↓fd4, ↓fd5, ↓fd6, ↓m1e, lt_lit, nI_add, pk_mul, n_le, n_lt, n_eq, n_cl, n_in, n_sub, n_div, n_rem, n_ite, Nat.zero_add, r_0_0, r_0_1, r_0_2, r_0_4, r_0_5, r_0_6, r_0_7, r_37_0, r_39_0, r_40_0, k_0, k_1, k_13, k_25, k_37, k_38, k_39, k_40, k_41, k_42, n_38, n_41, n_42, r_51_0, r_51_1, r_51_2, r_51_4, r_51_6, r_51_13, r_51_14, r_51_18, r_51_19, r_51_20, r_51_21, k_51, k_52, k_53, k_54, k_55, k_56, k_57, k_58, k_59, k_60, k_61, k_62, n_52, n_53, n_54, n_55, n_56, n_57, n_58, n_59, n_60, n_61, n_62, ix1, ix2, ix3, ix4, ix5, ix6, ix7, Nat.add_zero, ofn, x88, F_k isF1, F_k isF13, F_k isF25, F_k1 isF1, F_k1 isF13, F_k1 isF25, F_l1 isF1, F_l1 isF13, F_l1 isF25, F_r0 isF1, F_r0 isF13, F_r0 isF25, F_r1 isF1, F_r1 isF13, F_r1 isF25, F_k2 isF1, F_k2 isF13, F_k2 isF25, F_l2 isF1, F_l2 isF13, F_l2 isF25, F_rg isF1, F_rg isF13, F_rg isF25, F_kg isF1, F_kg isF13, F_kg isF25]
    exact loop 6 0 _ (by omega) (by rw [if_neg (by omega)]; trivial)
  · have no := kdF_no 6 0 (by omega) (N := N) (L := L) (p := p)
    have h := h0 (by omega)
    have loop : ∀ n k, k + n = 6 → Wp u 193 4 [.ref 51, .int m1, .int (nI k)] [] hi hl K := by
      intro n
      induction n with
      | zero =>
        intro k e
        refine wv (by decide) ?_
        simp (disch := omega) only [b_M_kindTold_0, b_M_kindTold_4, b_M_kindTold_13, b_M_kindTold_23, b_M_kindTold_26, b_M_kindTold_30, b_M_kindTold_31, b_M_kindTold_38, true_and, and_true, true_implies, false_implies, not_true_eq_false, not_false_eq_true, eq_self, or_true, true_or, false_or, or_false, false_and, and_false, Option.toList_some, Option.toList_none, List.cons_append, List.nil_append, n10, n01, e10, e01, e08, e18, e28, e38, e48, e58, e68, e78, exI, exL, ↓fd0, ↓fd1, ↓fd2, ↓fd3, ↓fd4, ↓fd5, ↓fd6, ↓m1e, lt_lit, nI_add, pk_mul, n_le, n_lt, n_eq, n_cl, n_in, n_sub, n_div, n_rem, n_ite, Nat.zero_add, r_0_0, r_0_1, r_0_2, r_0_4, r_0_5, r_0_6, r_0_7, r_37_0, r_39_0, r_40_0, k_0, k_1, k_13, k_25, k_37, k_38, k_39, k_40, k_41, k_42, n_38, n_41, n_42, r_51_0, r_51_1, r_51_2, r_51_4, r_51_6, r_51_13, r_51_14, r_51_18, r_51_19, r_51_20, r_51_21, k_51, k_52, k_53, k_54, k_55, k_56, k_57, k_58, k_59, k_60, k_61, k_62, n_52, n_53, n_54, n_55, n_56, n_57, n_58, n_59, n_60, n_61, n_62, ix1, ix2, ix3, ix4, ix5, ix6, ix7, Nat.add_zero, ofn, x88, F_k isF1, F_k isF13, F_k isF25, F_k1 isF1, F_k1 isF13, F_k1 isF25, F_l1 isF1, F_l1 isF13, F_l1 isF25, F_r0 isF1, F_r0 isF13, F_r0 isF25, F_r1 isF1, F_r1 isF13, F_r1 isF25, F_k2 isF1, F_k2 isF13, F_k2 isF25, F_l2 isF1, F_l2 isF13, F_l2 isF25, F_rg isF1, F_rg isF13, F_rg isF25, F_kg isF1, F_kg isF13, F_kg isF25, x13a, x13b]
        exact ⟨fun _ => h, fun z => absurd (by omega) z⟩
      | succ n ih =>
        intro k e
        refine wv (by decide) ?_
        simp (disch := omega) only [b_M_kindTold_0, b_M_kindTold_4, b_M_kindTold_13, b_M_kindTold_23, b_M_kindTold_26, b_M_kindTold_30, b_M_kindTold_31, b_M_kindTold_38, true_and, and_true, true_implies, false_implies, not_true_eq_false, not_false_eq_true, eq_self, or_true, true_or, false_or, or_false, false_and, and_false, Option.toList_some, Option.toList_none, List.cons_append, List.nil_append, n10, n01, e10, e01, e08, e18, e28, e38, e48, e58, e68, e78, exI, exL, ↓fd0, ↓fd1, ↓fd2, ↓fd3, ↓fd4, ↓fd5, ↓fd6, ↓m1e, lt_lit, nI_add, pk_mul, n_le, n_lt, n_eq, n_cl, n_in, n_sub, n_div, n_rem, n_ite, Nat.zero_add, r_0_0, r_0_1, r_0_2, r_0_4, r_0_5, r_0_6, r_0_7, r_37_0, r_39_0, r_40_0, k_0, k_1, k_13, k_25, k_37, k_38, k_39, k_40, k_41, k_42, n_38, n_41, n_42, r_51_0, r_51_1, r_51_2, r_51_4, r_51_6, r_51_13, r_51_14, r_51_18, r_51_19, r_51_20, r_51_21, k_51, k_52, k_53, k_54, k_55, k_56, k_57, k_58, k_59, k_60, k_61, k_62, n_52, n_53, n_54, n_55, n_56, n_57, n_58, n_59, n_60, n_61, n_62, ix1, ix2, ix3, ix4, ix5, ix6, ix7, Nat.add_zero, ofn, x88, F_k isF1, F_k isF13, F_k isF25, F_k1 isF1, F_k1 isF13, F_k1 isF25, F_l1 isF1, F_l1 isF13, F_l1 isF25, F_r0 isF1, F_r0 isF13, F_r0 isF25, F_r1 isF1, F_r1 isF13, F_r1 isF25, F_k2 isF1, F_k2 isF13, F_k2 isF25, F_l2 isF1, F_l2 isF13, F_l2 isF25, F_rg isF1, F_rg isF13, F_rg isF25, F_kg isF1, F_kg isF13, F_kg isF25, x13a, x13b, rk57]
        refine ⟨fun z => absurd z (by omega), fun _ => ?_⟩
        refine c_misWordP hk (by omega) (fun y => absurd y (no k (by omega) (by omega))) (fun y => ?_)
        simp (disch := omega) only [b_M_kindTold_0, b_M_kindTold_4, b_M_kindTold_13, b_M_kindTold_23, b_M_kindTold_26, b_M_kindTold_30, b_M_kindTold_31, b_M_kindTold_38, true_and, and_true, true_implies, false_implies, not_true_eq_false, not_false_eq_true, eq_self, or_true, true_or, false_or, or_false, false_and, and_false, Option.toList_some, Option.toList_none, List.cons_append, List.nil_append, n10, n01, e10, e01, e08, e18, e28, e38, e48, e58, e68, e78, exI, exL, ↓fd0, ↓fd1, ↓fd2, ↓fd3, ↓fd4, ↓fd5, ↓fd6, ↓m1e, lt_lit, nI_add, pk_mul, n_le, n_lt, n_eq, n_cl, n_in, n_sub, n_div, n_rem, n_ite, Nat.zero_add, r_0_0, r_0_1, r_0_2, r_0_4, r_0_5, r_0_6, r_0_7, r_37_0, r_39_0, r_40_0, k_0, k_1, k_13, k_25, k_37, k_38, k_39, k_40, k_41, k_42, n_38, n_41, n_42, r_51_0, r_51_1, r_51_2, r_51_4, r_51_6, r_51_13, r_51_14, r_51_18, r_51_19, r_51_20, r_51_21, k_51, k_52, k_53, k_54, k_55, k_56, k_57, k_58, k_59, k_60, k_61, k_62, n_52, n_53, n_54, n_55, n_56, n_57, n_58, n_59, n_60, n_61, n_62, ix1, ix2, ix3, ix4, ix5, ix6, ix7, Nat.add_zero, ofn, x88, F_k isF1, F_k isF13, F_k isF25, F_k1 isF1, F_k1 isF13, F_k1 isF25, F_l1 isF1, F_l1 isF13, F_l1 isF25, F_r0 isF1, F_r0 isF13, F_r0 isF25, F_r1 isF1, F_r1 isF13, F_r1 isF25, F_k2 isF1, F_k2 isF13, F_k2 isF25, F_l2 isF1, F_l2 isF13, F_l2 isF25, F_rg isF1, F_rg isF13, F_rg isF25, F_kg isF1, F_kg isF13, F_kg isF25, Nat.reduceEqDiff, Nat.reduceLeDiff, Nat.reduceLT, Nat.reduceAdd, Nat.reduceMul, Nat.reduceSub]
        exact ih (k + 1) (by omega)
    refine i_M_kindTold ?_
    simp (disch := omega) only [b_M_kindTold_0, b_M_kindTold_4, b_M_kindTold_13, b_M_kindTold_23, b_M_kindTold_26, b_M_kindTold_30, b_M_kindTold_31, b_M_kindTold_38, true_and, and_true, true_implies, false_implies, not_true_eq_false, not_false_eq_true, eq_self, or_true, true_or, false_or, or_false, false_and, and_false, Option.toList_some, Option.toList_none, List.cons_append, List.nil_append, n10, n01, e10, e01, e08, e18, e28, e38, e48, e58, e68, e78, exI, exL, ↓fd0, ↓fd1, ↓fd2, ↓fd3, ↓fd4, ↓fd5, ↓fd6, ↓m1e, lt_lit, nI_add, pk_mul, n_le, n_lt, n_eq, n_cl, n_in, n_sub, n_div, n_rem, n_ite, Nat.zero_add, r_0_0, r_0_1, r_0_2, r_0_4, r_0_5, r_0_6, r_0_7, r_37_0, r_39_0, r_40_0, k_0, k_1, k_13, k_25, k_37, k_38, k_39, k_40, k_41, k_42, n_38, n_41, n_42, r_51_0, r_51_1, r_51_2, r_51_4, r_51_6, r_51_13, r_51_14, r_51_18, r_51_19, r_51_20, r_51_21, k_51, k_52, k_53, k_54, k_55, k_56, k_57, k_58, k_59, k_60, k_61, k_62, n_52, n_53, n_54, n_55, n_56, n_57, n_58, n_59, n_60, n_61, n_62, ix1, ix2, ix3, ix4, ix5, ix6, ix7, Nat.add_zero, ofn, x88, F_k isF1, F_k isF13, F_k isF25, F_k1 isF1, F_k1 isF13, F_k1 isF25, F_l1 isF1, F_l1 isF13, F_l1 isF25, F_r0 isF1, F_r0 isF13, F_r0 isF25, F_r1 isF1, F_r1 isF13, F_r1 isF25, F_k2 isF1, F_k2 isF13, F_k2 isF25, F_l2 isF1, F_l2 isF13, F_l2 isF25, F_rg isF1, F_rg isF13, F_rg isF25, F_kg isF1, F_kg isF13, F_kg isF25]
    exact loop 6 0 (by omega)
end P40
