/-- a row of places is raked, from place a on, n of them -/
def wipeN (A : Nat → Nat) : Nat → Nat → (Nat → Nat)
  | _, 0 => A
  | k, n + 1 => wipeN (up A k 0) (k + 1) n
theorem wipe_ne (n : Nat) : ∀ (A : Nat → Nat) (k j : Nat), (j < k ∨ k + n ≤ j) → wipeN A k n j = A j := by
  induction n with
  | zero => intro A k j _; rfl
  | succ n ih => intro A k j h; rw [wipeN, ih _ _ _ (by omega), up_ne _ (by omega)]
theorem wipe_eq (n : Nat) : ∀ (A : Nat → Nat) (k j : Nat), k ≤ j → j < k + n → wipeN A k n j = 0 := by
  induction n with
  | zero => intro A k j _ _; omega
  | succ n ih =>
    intro A k j h h2
    rw [wipeN]
    by_cases q : j = k
    · subst q; rw [wipe_ne _ _ _ _ (by omega), up_eq]
    · exact ih _ _ _ (by omega) (by omega)
section M4
variable {u : UV} {hi : HI} {hl : HL} {K : Option Value → HI → HL → Prop} {A : Nat → Nat} {B : Nat}
theorem c_raked {r : Nat} (hr : Mr hi A) (ok : rowOk B A) (hr8 : r < 8) (h : ∀ hi', Mr hi' (wipeN A (8 * r) 8) → (∀ o, o ≠ 52 → hi' o = hi o) → K (some (.int (nI (smN A (8 * r) 8)))) hi' hl) : Call u 128 [.ref 51, .int (nI r)] hi hl K := by
  have loop : ∀ n k hi' A' v, k + n = 8 → Mr hi' A' → (∀ o, o ≠ 52 → hi' o = hi o) → (∀ hi2, Mr hi2 (wipeN A' (8 * r + k) n) → (∀ o, o ≠ 52 → hi2 o = hi o) → K (some (.int v)) hi2 hl) → Wp u 128 18 [.ref 51, .int (nI r), .int v, .int (nI k)] [] hi' hl K := by
    intro n
    induction n with
    | zero =>
      intro k hi' A' v e hm fr h
      refine wv (by decide) ?_
      simp (disch := omega) only [b_M_raked_0, b_M_raked_15, b_M_raked_18, b_M_raked_24, b_M_raked_44, true_and, and_true, true_implies, false_implies, not_true_eq_false, not_false_eq_true, eq_self, or_true, true_or, false_or, or_false, false_and, and_false, Option.toList_some, Option.toList_none, List.cons_append, List.nil_append, n10, n01, e10, e01, e08, e18, e28, e38, e48, e58, e68, e78, lt_lit, nI_add, pk_mul, n_le, n_lt, n_eq, n_cl, n_in, n_sub, n_div, n_rem, n_ite, Nat.zero_add, r_51_0, r_51_1, r_51_2, r_51_4, r_51_6, r_51_13, r_51_14, r_51_18, r_51_19, r_51_20, r_51_21, k_51, k_52, k_53, k_54, k_55, k_56, k_57, k_58, k_59, k_60, k_61, k_62, n_52, n_53, n_54, n_55, n_56, n_57, n_58, n_59, n_60, n_61, n_62]
      exact ⟨fun _ => h _ hm fr, fun q => absurd (by omega) q⟩
    | succ n ih =>
      intro k hi' A' v e hm fr h
      refine wv (by decide) ?_
      simp (disch := omega) only [b_M_raked_0, b_M_raked_15, b_M_raked_18, b_M_raked_24, b_M_raked_44, true_and, and_true, true_implies, false_implies, not_true_eq_false, not_false_eq_true, eq_self, or_true, true_or, false_or, or_false, false_and, and_false, Option.toList_some, Option.toList_none, List.cons_append, List.nil_append, n10, n01, e10, e01, e08, e18, e28, e38, e48, e58, e68, e78, lt_lit, nI_add, pk_mul, n_le, n_lt, n_eq, n_cl, n_in, n_sub, n_div, n_rem, n_ite, Nat.zero_add, r_51_0, r_51_1, r_51_2, r_51_4, r_51_6, r_51_13, r_51_14, r_51_18, r_51_19, r_51_20, r_51_21, k_51, k_52, k_53, k_54, k_55, k_56, k_57, k_58, k_59, k_60, k_61, k_62, n_52, n_53, n_54, n_55, n_56, n_57, n_58, n_59, n_60, n_61, n_62]
      refine ⟨fun q => absurd q (by omega), fun _ => ?_⟩
      exact ih (k + 1) _ _ v (by omega) (hm.up (k := 8 * r + k) (by omega)) (fun o ho => by rw [← fr o ho]; funext j; rw [u2_nh ho]) (fun hi2 a b => h hi2 a b)
  refine i_M_raked ?_
  simp (disch := omega) only [b_M_raked_0, b_M_raked_15, b_M_raked_18, b_M_raked_24, b_M_raked_44, true_and, and_true, true_implies, false_implies, not_true_eq_false, not_false_eq_true, eq_self, or_true, true_or, false_or, or_false, false_and, and_false, Option.toList_some, Option.toList_none, List.cons_append, List.nil_append, n10, n01, e10, e01, e08, e18, e28, e38, e48, e58, e68, e78, lt_lit, nI_add, pk_mul, n_le, n_lt, n_eq, n_cl, n_in, n_sub, n_div, n_rem, n_ite, Nat.zero_add, r_51_0, r_51_1, r_51_2, r_51_4, r_51_6, r_51_13, r_51_14, r_51_18, r_51_19, r_51_20, r_51_21, k_51, k_52, k_53, k_54, k_55, k_56, k_57, k_58, k_59, k_60, k_61, k_62, n_52, n_53, n_54, n_55, n_56, n_57, n_58, n_59, n_60, n_61, n_62]
  refine c_earsOf hr ok.1 (by omega) (by omega) ?_
  simp (disch := omega) only [b_M_raked_0, b_M_raked_15, b_M_raked_18, b_M_raked_24, b_M_raked_44, true_and, and_true, true_implies, false_implies, not_true_eq_false, not_false_eq_true, eq_self, or_true, true_or, false_or, or_false, false_and, and_false, Option.toList_some, Option.toList_none, List.cons_append, List.nil_append, n10, n01, e10, e01, e08, e18, e28, e38, e48, e58, e68, e78, lt_lit, nI_add, pk_mul, n_le, n_lt, n_eq, n_cl, n_in, n_sub, n_div, n_rem, n_ite, Nat.zero_add, r_51_0, r_51_1, r_51_2, r_51_4, r_51_6, r_51_13, r_51_14, r_51_18, r_51_19, r_51_20, r_51_21, k_51, k_52, k_53, k_54, k_55, k_56, k_57, k_58, k_59, k_60, k_61, k_62, n_52, n_53, n_54, n_55, n_56, n_57, n_58, n_59, n_60, n_61, n_62]
  refine loop 8 0 hi A _ (by omega) hr (fun _ _ => rfl) ?_
  rw [show 8 * r + 8 - 8 * r = 8 by omega]
  exact h
end M4
