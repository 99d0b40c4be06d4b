theorem n_neg1 {a : Nat} (h : 1 ≤ a) (ha : a < 2147483648) : nI a + -nI 1 = nI (a - 1) := by
  rw [← Int32.sub_eq_add_neg]; exact n_sub h
section M3
variable {u : UV} {hi : HI} {hl : HL} {K : Option Value → HI → HL → Prop} {A : Nat → Nat} {B : Nat}
theorem c_step {g : Nat} (hr : Mr hi A) (ok : rowOk B A) (hg : g < A 68) (h : ∀ hi', Mr hi' (stepN A g) → (∀ o, o ≠ 52 → hi' o = hi o) → K none hi' hl) : Call u 149 [.ref 51, .int (nI g)] hi hl K := by
  obtain ⟨o1, o2, o3, o4, o5, o6, o7⟩ := ok
  obtain ⟨g1, g2, g3, g4, g5, g6, g7, g8⟩ := o7 g hg
  have hr' : ∀ k, k < 69 + 8 * A 68 → hi 52 k = nI (A k) := hr
  have fr : ∀ k v o, o ≠ 52 → up2 hi 52 k v o = hi o := fun k v o ho => by funext j; rw [u2_nh ho]
  have fr2 : ∀ k v k2 v2 o, o ≠ 52 → up2 (up2 hi 52 k v) 52 k2 v2 o = hi o := fun k v k2 v2 o ho => by funext j; rw [u2_nh ho, u2_nh ho]
  refine i_M_step ?_
  simp (disch := omega) only [b_M_step_0, b_M_step_7, b_M_step_14, b_M_step_21, b_M_step_25, b_M_step_27, b_M_step_30, b_M_step_39, b_M_step_46, b_M_step_50, b_M_step_51, b_M_step_56, b_M_step_62, b_M_step_67, b_M_step_77, b_M_step_82, b_M_step_91, b_M_step_106, b_M_step_110, true_and, and_true, true_implies, false_implies, not_true_eq_false, not_false_eq_true, eq_self, or_true, true_or, false_or, or_false, false_and, and_false, Option.toList_some, Option.toList_none, List.cons_append, List.nil_append, e10, e01, e08, e18, e28, e38, e48, e58, e68, e78, lt_lit, nI_add, pk_mul, n_le, n_lt, n_eq, n_cl, n_in, n_sub, n_div, n_rem, n_ite, Nat.zero_add, r_51_0, r_51_1, r_51_2, r_51_4, r_51_6, r_51_13, r_51_14, r_51_18, r_51_19, r_51_20, r_51_21, k_51, k_52, k_53, k_54, k_55, k_56, k_57, k_58, k_59, k_60, k_61, k_62, n_52, n_53, n_54, n_55, n_56, n_57, n_58, n_59, n_60, n_61, n_62]
  refine c_gleanerIs hr o6 hg (by omega) ?_
  simp (disch := omega) only [b_M_step_0, b_M_step_7, b_M_step_14, b_M_step_21, b_M_step_25, b_M_step_27, b_M_step_30, b_M_step_39, b_M_step_46, b_M_step_50, b_M_step_51, b_M_step_56, b_M_step_62, b_M_step_67, b_M_step_77, b_M_step_82, b_M_step_91, b_M_step_106, b_M_step_110, true_and, and_true, true_implies, false_implies, not_true_eq_false, not_false_eq_true, eq_self, or_true, true_or, false_or, or_false, false_and, and_false, Option.toList_some, Option.toList_none, List.cons_append, List.nil_append, e10, e01, e08, e18, e28, e38, e48, e58, e68, e78, lt_lit, nI_add, pk_mul, n_le, n_lt, n_eq, n_cl, n_in, n_sub, n_div, n_rem, n_ite, Nat.zero_add, r_51_0, r_51_1, r_51_2, r_51_4, r_51_6, r_51_13, r_51_14, r_51_18, r_51_19, r_51_20, r_51_21, k_51, k_52, k_53, k_54, k_55, k_56, k_57, k_58, k_59, k_60, k_61, k_62, n_52, n_53, n_54, n_55, n_56, n_57, n_58, n_59, n_60, n_61, n_62]
  refine c_gleanerIs hr o6 hg (by omega) ?_
  simp (disch := omega) only [b_M_step_0, b_M_step_7, b_M_step_14, b_M_step_21, b_M_step_25, b_M_step_27, b_M_step_30, b_M_step_39, b_M_step_46, b_M_step_50, b_M_step_51, b_M_step_56, b_M_step_62, b_M_step_67, b_M_step_77, b_M_step_82, b_M_step_91, b_M_step_106, b_M_step_110, true_and, and_true, true_implies, false_implies, not_true_eq_false, not_false_eq_true, eq_self, or_true, true_or, false_or, or_false, false_and, and_false, Option.toList_some, Option.toList_none, List.cons_append, List.nil_append, e10, e01, e08, e18, e28, e38, e48, e58, e68, e78, lt_lit, nI_add, pk_mul, n_le, n_lt, n_eq, n_cl, n_in, n_sub, n_div, n_rem, n_ite, Nat.zero_add, r_51_0, r_51_1, r_51_2, r_51_4, r_51_6, r_51_13, r_51_14, r_51_18, r_51_19, r_51_20, r_51_21, k_51, k_52, k_53, k_54, k_55, k_56, k_57, k_58, k_59, k_60, k_61, k_62, n_52, n_53, n_54, n_55, n_56, n_57, n_58, n_59, n_60, n_61, n_62, show 69 + 8 * g + 6 = 75 + 8 * g by omega, show 69 + 8 * g + 2 = 71 + 8 * g by omega]
  trace_state
  sorry
end M3
