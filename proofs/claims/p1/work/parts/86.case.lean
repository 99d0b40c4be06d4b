section L1
variable {u : UV} {hi : HI} {hl : HL} {K : Option Value → HI → HL → Prop} {Q : HI → HL → Prop} {i n : Nat}
set_option maxRecDepth 20000 in
theorem law_0 (hi6 : i + 6 ≤ xN u) (hN : xN u ≤ 3072) (h : Call u 54 [.ref 0, .int (xX u (i + 1)), .int (xX u (i + 2)), .int (xX u (i + 3))] hi hl (fun r hi1 hl1 => ∃ v, r = some (.int v) ∧ Call u 124 [.ref 51, .int (xX u (i + 1)), .int (xX u (i + 2)), .int (xX u (i + 3))] hi1 hl1 (fun r' hi2 hl2 => r' = some (.int v) ∧ Q hi2 hl2))) (hn : ∀ hi2 hl2, Q hi2 hl2 → Wp u 228 18 [.ref 99, .ref 0, .ref 51, .int (nI (i + 6))] [] hi2 hl2 K) : vc u (n + 150) 228 240 [.ref 99, .ref 0, .ref 51, .int (nI i)] [] hi hl K := by
  simp (disch := omega) only [b_Law_law_240, true_and, and_true, true_implies, false_implies, not_true_eq_false, not_false_eq_true, eq_self, or_true, true_or, false_or, or_false, false_and, and_false, Option.toList_some, Option.toList_none, List.cons_append, List.nil_append, n10, n01, e10, e01, e08, e18, e28, e38, e48, e58, e68, e78, lt_lit, nI_add, pk_mul, n_le, n_lt, n_eq, n_cl, n_in, n_sub, n_div, n_rem, n_ite, Nat.zero_add, k_0, k_51]
  refine Call.mono h ?_
  intro r hi1 hl1 hr
  obtain ⟨v, e, q⟩ := hr
  subst e
  simp (disch := omega) only [b_Law_law_259, true_and, and_true, true_implies, false_implies, not_true_eq_false, not_false_eq_true, eq_self, or_true, true_or, false_or, or_false, false_and, and_false, Option.toList_some, Option.toList_none, List.cons_append, List.nil_append, n10, n01, e10, e01, e08, e18, e28, e38, e48, e58, e68, e78, lt_lit, nI_add, pk_mul, n_le, n_lt, n_eq, n_cl, n_in, n_sub, n_div, n_rem, n_ite, Nat.zero_add, k_0, k_51]
  refine Call.mono q ?_
  intro r' hi2 hl2 hr
  obtain ⟨e, q2⟩ := hr
  subst e
  simp (disch := omega) only [b_Law_law_278, b_Law_law_1596, true_and, and_true, true_implies, false_implies, not_true_eq_false, not_false_eq_true, eq_self, or_true, true_or, false_or, or_false, false_and, and_false, Option.toList_some, Option.toList_none, List.cons_append, List.nil_append, n10, n01, e10, e01, e08, e18, e28, e38, e48, e58, e68, e78, lt_lit, nI_add, pk_mul, n_le, n_lt, n_eq, n_cl, n_in, n_sub, n_div, n_rem, n_ite, Nat.zero_add, k_0, k_51]
  exact hn hi2 hl2 q2
set_option maxRecDepth 20000 in
theorem law_1 (hi6 : i + 6 ≤ xN u) (hN : xN u ≤ 3072) (h : Call u 55 [.ref 0, .int (xX u (i + 1)), .int (xX u (i + 2))] hi hl (fun r hi1 hl1 => ∃ v, r = some (.int v) ∧ Call u 125 [.ref 51, .int (xX u (i + 1)), .int (xX u (i + 2))] hi1 hl1 (fun r' hi2 hl2 => r' = some (.int v) ∧ Q hi2 hl2))) (hn : ∀ hi2 hl2, Q hi2 hl2 → Wp u 228 18 [.ref 99, .ref 0, .ref 51, .int (nI (i + 6))] [] hi2 hl2 K) : vc u (n + 150) 228 283 [.ref 99, .ref 0, .ref 51, .int (nI i)] [] hi hl K := by
  simp (disch := omega) only [b_Law_law_283, true_and, and_true, true_implies, false_implies, not_true_eq_false, not_false_eq_true, eq_self, or_true, true_or, false_or, or_false, false_and, and_false, Option.toList_some, Option.toList_none, List.cons_append, List.nil_append, n10, n01, e10, e01, e08, e18, e28, e38, e48, e58, e68, e78, lt_lit, nI_add, pk_mul, n_le, n_lt, n_eq, n_cl, n_in, n_sub, n_div, n_rem, n_ite, Nat.zero_add, k_0, k_51]
  refine Call.mono h ?_
  intro r hi1 hl1 hr
  obtain ⟨v, e, q⟩ := hr
  subst e
  simp (disch := omega) only [b_Law_law_297, true_and, and_true, true_implies, false_implies, not_true_eq_false, not_false_eq_true, eq_self, or_true, true_or, false_or, or_false, false_and, and_false, Option.toList_some, Option.toList_none, List.cons_append, List.nil_append, n10, n01, e10, e01, e08, e18, e28, e38, e48, e58, e68, e78, lt_lit, nI_add, pk_mul, n_le, n_lt, n_eq, n_cl, n_in, n_sub, n_div, n_rem, n_ite, Nat.zero_add, k_0, k_51]
  refine Call.mono q ?_
  intro r' hi2 hl2 hr
  obtain ⟨e, q2⟩ := hr
  subst e
  simp (disch := omega) only [b_Law_law_311, b_Law_law_1596, true_and, and_true, true_implies, false_implies, not_true_eq_false, not_false_eq_true, eq_self, or_true, true_or, false_or, or_false, false_and, and_false, Option.toList_some, Option.toList_none, List.cons_append, List.nil_append, n10, n01, e10, e01, e08, e18, e28, e38, e48, e58, e68, e78, lt_lit, nI_add, pk_mul, n_le, n_lt, n_eq, n_cl, n_in, n_sub, n_div, n_rem, n_ite, Nat.zero_add, k_0, k_51]
  exact hn hi2 hl2 q2
set_option maxRecDepth 20000 in
theorem law_2 (hi6 : i + 6 ≤ xN u) (hN : xN u ≤ 3072) (h : Call u 56 [.ref 0, .int (xX u (i + 1))] hi hl (fun r hi1 hl1 => ∃ v, r = some (.int v) ∧ Call u 127 [.ref 51, .int (xX u (i + 1))] hi1 hl1 (fun r' hi2 hl2 => r' = some (.int v) ∧ Q hi2 hl2))) (hn : ∀ hi2 hl2, Q hi2 hl2 → Wp u 228 18 [.ref 99, .ref 0, .ref 51, .int (nI (i + 6))] [] hi2 hl2 K) : vc u (n + 150) 228 316 [.ref 99, .ref 0, .ref 51, .int (nI i)] [] hi hl K := by
  simp (disch := omega) only [b_Law_law_316, true_and, and_true, true_implies, false_implies, not_true_eq_false, not_false_eq_true, eq_self, or_true, true_or, false_or, or_false, false_and, and_false, Option.toList_some, Option.toList_none, List.cons_append, List.nil_append, n10, n01, e10, e01, e08, e18, e28, e38, e48, e58, e68, e78, lt_lit, nI_add, pk_mul, n_le, n_lt, n_eq, n_cl, n_in, n_sub, n_div, n_rem, n_ite, Nat.zero_add, k_0, k_51]
  refine Call.mono h ?_
  intro r hi1 hl1 hr
  obtain ⟨v, e, q⟩ := hr
  subst e
  simp (disch := omega) only [b_Law_law_325, true_and, and_true, true_implies, false_implies, not_true_eq_false, not_false_eq_true, eq_self, or_true, true_or, false_or, or_false, false_and, and_false, Option.toList_some, Option.toList_none, List.cons_append, List.nil_append, n10, n01, e10, e01, e08, e18, e28, e38, e48, e58, e68, e78, lt_lit, nI_add, pk_mul, n_le, n_lt, n_eq, n_cl, n_in, n_sub, n_div, n_rem, n_ite, Nat.zero_add, k_0, k_51]
  refine Call.mono q ?_
  intro r' hi2 hl2 hr
  obtain ⟨e, q2⟩ := hr
  subst e
  simp (disch := omega) only [b_Law_law_334, b_Law_law_1596, true_and, and_true, true_implies, false_implies, not_true_eq_false, not_false_eq_true, eq_self, or_true, true_or, false_or, or_false, false_and, and_false, Option.toList_some, Option.toList_none, List.cons_append, List.nil_append, n10, n01, e10, e01, e08, e18, e28, e38, e48, e58, e68, e78, lt_lit, nI_add, pk_mul, n_le, n_lt, n_eq, n_cl, n_in, n_sub, n_div, n_rem, n_ite, Nat.zero_add, k_0, k_51]
  exact hn hi2 hl2 q2
set_option maxRecDepth 20000 in
theorem law_3 (hi6 : i + 6 ≤ xN u) (hN : xN u ≤ 3072) (h : Call u 57 [.ref 0, .int (xX u (i + 1))] hi hl (fun r hi1 hl1 => ∃ v, r = some (.int v) ∧ Call u 129 [.ref 51, .int (xX u (i + 1))] hi1 hl1 (fun r' hi2 hl2 => r' = some (.int v) ∧ Q hi2 hl2))) (hn : ∀ hi2 hl2, Q hi2 hl2 → Wp u 228 18 [.ref 99, .ref 0, .ref 51, .int (nI (i + 6))] [] hi2 hl2 K) : vc u (n + 150) 228 339 [.ref 99, .ref 0, .ref 51, .int (nI i)] [] hi hl K := by
  simp (disch := omega) only [b_Law_law_339, true_and, and_true, true_implies, false_implies, not_true_eq_false, not_false_eq_true, eq_self, or_true, true_or, false_or, or_false, false_and, and_false, Option.toList_some, Option.toList_none, List.cons_append, List.nil_append, n10, n01, e10, e01, e08, e18, e28, e38, e48, e58, e68, e78, lt_lit, nI_add, pk_mul, n_le, n_lt, n_eq, n_cl, n_in, n_sub, n_div, n_rem, n_ite, Nat.zero_add, k_0, k_51]
  refine Call.mono h ?_
  intro r hi1 hl1 hr
  obtain ⟨v, e, q⟩ := hr
  subst e
  simp (disch := omega) only [b_Law_law_348, true_and, and_true, true_implies, false_implies, not_true_eq_false, not_false_eq_true, eq_self, or_true, true_or, false_or, or_false, false_and, and_false, Option.toList_some, Option.toList_none, List.cons_append, List.nil_append, n10, n01, e10, e01, e08, e18, e28, e38, e48, e58, e68, e78, lt_lit, nI_add, pk_mul, n_le, n_lt, n_eq, n_cl, n_in, n_sub, n_div, n_rem, n_ite, Nat.zero_add, k_0, k_51]
  refine Call.mono q ?_
  intro r' hi2 hl2 hr
  obtain ⟨e, q2⟩ := hr
  subst e
  simp (disch := omega) only [b_Law_law_357, b_Law_law_1596, true_and, and_true, true_implies, false_implies, not_true_eq_false, not_false_eq_true, eq_self, or_true, true_or, false_or, or_false, false_and, and_false, Option.toList_some, Option.toList_none, List.cons_append, List.nil_append, n10, n01, e10, e01, e08, e18, e28, e38, e48, e58, e68, e78, lt_lit, nI_add, pk_mul, n_le, n_lt, n_eq, n_cl, n_in, n_sub, n_div, n_rem, n_ite, Nat.zero_add, k_0, k_51]
  exact hn hi2 hl2 q2
set_option maxRecDepth 20000 in
theorem law_4 (hi6 : i + 6 ≤ xN u) (hN : xN u ≤ 3072) (h : Call u 58 [.ref 0, .int (xX u (i + 1)), .int (xX u (i + 2))] hi hl (fun r hi1 hl1 => ∃ v, r = some (.int v) ∧ Call u 130 [.ref 51, .int (xX u (i + 1)), .int (xX u (i + 2))] hi1 hl1 (fun r' hi2 hl2 => r' = some (.int v) ∧ Q hi2 hl2))) (hn : ∀ hi2 hl2, Q hi2 hl2 → Wp u 228 18 [.ref 99, .ref 0, .ref 51, .int (nI (i + 6))] [] hi2 hl2 K) : vc u (n + 150) 228 362 [.ref 99, .ref 0, .ref 51, .int (nI i)] [] hi hl K := by
  simp (disch := omega) only [b_Law_law_362, true_and, and_true, true_implies, false_implies, not_true_eq_false, not_false_eq_true, eq_self, or_true, true_or, false_or, or_false, false_and, and_false, Option.toList_some, Option.toList_none, List.cons_append, List.nil_append, n10, n01, e10, e01, e08, e18, e28, e38, e48, e58, e68, e78, lt_lit, nI_add, pk_mul, n_le, n_lt, n_eq, n_cl, n_in, n_sub, n_div, n_rem, n_ite, Nat.zero_add, k_0, k_51]
  refine Call.mono h ?_
  intro r hi1 hl1 hr
  obtain ⟨v, e, q⟩ := hr
  subst e
  simp (disch := omega) only [b_Law_law_376, true_and, and_true, true_implies, false_implies, not_true_eq_false, not_false_eq_true, eq_self, or_true, true_or, false_or, or_false, false_and, and_false, Option.toList_some, Option.toList_none, List.cons_append, List.nil_append, n10, n01, e10, e01, e08, e18, e28, e38, e48, e58, e68, e78, lt_lit, nI_add, pk_mul, n_le, n_lt, n_eq, n_cl, n_in, n_sub, n_div, n_rem, n_ite, Nat.zero_add, k_0, k_51]
  refine Call.mono q ?_
  intro r' hi2 hl2 hr
  obtain ⟨e, q2⟩ := hr
  subst e
  simp (disch := omega) only [b_Law_law_390, b_Law_law_1596, true_and, and_true, true_implies, false_implies, not_true_eq_false, not_false_eq_true, eq_self, or_true, true_or, false_or, or_false, false_and, and_false, Option.toList_some, Option.toList_none, List.cons_append, List.nil_append, n10, n01, e10, e01, e08, e18, e28, e38, e48, e58, e68, e78, lt_lit, nI_add, pk_mul, n_le, n_lt, n_eq, n_cl, n_in, n_sub, n_div, n_rem, n_ite, Nat.zero_add, k_0, k_51]
  exact hn hi2 hl2 q2
set_option maxRecDepth 20000 in
theorem law_5 (hi6 : i + 6 ≤ xN u) (hN : xN u ≤ 3072) (h : Call u 60 [.ref 0, .int (xX u (i + 1)), .int (xX u (i + 2)), .int (xX u (i + 3))] hi hl (fun r hi1 hl1 => ∃ v, r = some (.int v) ∧ Call u 137 [.ref 51, .int (xX u (i + 1)), .int (xX u (i + 2)), .int (xX u (i + 3))] hi1 hl1 (fun r' hi2 hl2 => r' = some (.int v) ∧ Q hi2 hl2))) (hn : ∀ hi2 hl2, Q hi2 hl2 → Wp u 228 18 [.ref 99, .ref 0, .ref 51, .int (nI (i + 6))] [] hi2 hl2 K) : vc u (n + 150) 228 395 [.ref 99, .ref 0, .ref 51, .int (nI i)] [] hi hl K := by
  simp (disch := omega) only [b_Law_law_395, true_and, and_true, true_implies, false_implies, not_true_eq_false, not_false_eq_true, eq_self, or_true, true_or, false_or, or_false, false_and, and_false, Option.toList_some, Option.toList_none, List.cons_append, List.nil_append, n10, n01, e10, e01, e08, e18, e28, e38, e48, e58, e68, e78, lt_lit, nI_add, pk_mul, n_le, n_lt, n_eq, n_cl, n_in, n_sub, n_div, n_rem, n_ite, Nat.zero_add, k_0, k_51]
  refine Call.mono h ?_
  intro r hi1 hl1 hr
  obtain ⟨v, e, q⟩ := hr
  subst e
  simp (disch := omega) only [b_Law_law_414, true_and, and_true, true_implies, false_implies, not_true_eq_false, not_false_eq_true, eq_self, or_true, true_or, false_or, or_false, false_and, and_false, Option.toList_some, Option.toList_none, List.cons_append, List.nil_append, n10, n01, e10, e01, e08, e18, e28, e38, e48, e58, e68, e78, lt_lit, nI_add, pk_mul, n_le, n_lt, n_eq, n_cl, n_in, n_sub, n_div, n_rem, n_ite, Nat.zero_add, k_0, k_51]
  refine Call.mono q ?_
  intro r' hi2 hl2 hr
  obtain ⟨e, q2⟩ := hr
  subst e
  simp (disch := omega) only [b_Law_law_433, b_Law_law_1596, true_and, and_true, true_implies, false_implies, not_true_eq_false, not_false_eq_true, eq_self, or_true, true_or, false_or, or_false, false_and, and_false, Option.toList_some, Option.toList_none, List.cons_append, List.nil_append, n10, n01, e10, e01, e08, e18, e28, e38, e48, e58, e68, e78, lt_lit, nI_add, pk_mul, n_le, n_lt, n_eq, n_cl, n_in, n_sub, n_div, n_rem, n_ite, Nat.zero_add, k_0, k_51]
  exact hn hi2 hl2 q2
set_option maxRecDepth 20000 in
theorem law_6 (hi6 : i + 6 ≤ xN u) (hN : xN u ≤ 3072) (h : Call u 61 [.ref 0, .int (xX u (i + 1)), .int (xX u (i + 2))] hi hl (fun r hi1 hl1 => ∃ v, r = some (.int v) ∧ Call u 141 [.ref 51, .int (xX u (i + 1)), .int (xX u (i + 2))] hi1 hl1 (fun r' hi2 hl2 => r' = some (.int v) ∧ Q hi2 hl2))) (hn : ∀ hi2 hl2, Q hi2 hl2 → Wp u 228 18 [.ref 99, .ref 0, .ref 51, .int (nI (i + 6))] [] hi2 hl2 K) : vc u (n + 150) 228 438 [.ref 99, .ref 0, .ref 51, .int (nI i)] [] hi hl K := by
  simp (disch := omega) only [b_Law_law_438, true_and, and_true, true_implies, false_implies, not_true_eq_false, not_false_eq_true, eq_self, or_true, true_or, false_or, or_false, false_and, and_false, Option.toList_some, Option.toList_none, List.cons_append, List.nil_append, n10, n01, e10, e01, e08, e18, e28, e38, e48, e58, e68, e78, lt_lit, nI_add, pk_mul, n_le, n_lt, n_eq, n_cl, n_in, n_sub, n_div, n_rem, n_ite, Nat.zero_add, k_0, k_51]
  refine Call.mono h ?_
  intro r hi1 hl1 hr
  obtain ⟨v, e, q⟩ := hr
  subst e
  simp (disch := omega) only [b_Law_law_452, true_and, and_true, true_implies, false_implies, not_true_eq_false, not_false_eq_true, eq_self, or_true, true_or, false_or, or_false, false_and, and_false, Option.toList_some, Option.toList_none, List.cons_append, List.nil_append, n10, n01, e10, e01, e08, e18, e28, e38, e48, e58, e68, e78, lt_lit, nI_add, pk_mul, n_le, n_lt, n_eq, n_cl, n_in, n_sub, n_div, n_rem, n_ite, Nat.zero_add, k_0, k_51]
  refine Call.mono q ?_
  intro r' hi2 hl2 hr
  obtain ⟨e, q2⟩ := hr
  subst e
  simp (disch := omega) only [b_Law_law_466, b_Law_law_1596, true_and, and_true, true_implies, false_implies, not_true_eq_false, not_false_eq_true, eq_self, or_true, true_or, false_or, or_false, false_and, and_false, Option.toList_some, Option.toList_none, List.cons_append, List.nil_append, n10, n01, e10, e01, e08, e18, e28, e38, e48, e58, e68, e78, lt_lit, nI_add, pk_mul, n_le, n_lt, n_eq, n_cl, n_in, n_sub, n_div, n_rem, n_ite, Nat.zero_add, k_0, k_51]
  exact hn hi2 hl2 q2
set_option maxRecDepth 20000 in
theorem law_7 (hi6 : i + 6 ≤ xN u) (hN : xN u ≤ 3072) (h : Call u 62 [.ref 0, .int (xX u (i + 1)), .int (xX u (i + 2)), .int (xX u (i + 3))] hi hl (fun r hi1 hl1 => ∃ v, r = some (.int v) ∧ Call u 142 [.ref 51, .int (xX u (i + 1)), .int (xX u (i + 2)), .int (xX u (i + 3))] hi1 hl1 (fun r' hi2 hl2 => r' = some (.int v) ∧ Q hi2 hl2))) (hn : ∀ hi2 hl2, Q hi2 hl2 → Wp u 228 18 [.ref 99, .ref 0, .ref 51, .int (nI (i + 6))] [] hi2 hl2 K) : vc u (n + 150) 228 471 [.ref 99, .ref 0, .ref 51, .int (nI i)] [] hi hl K := by
  simp (disch := omega) only [b_Law_law_471, true_and, and_true, true_implies, false_implies, not_true_eq_false, not_false_eq_true, eq_self, or_true, true_or, false_or, or_false, false_and, and_false, Option.toList_some, Option.toList_none, List.cons_append, List.nil_append, n10, n01, e10, e01, e08, e18, e28, e38, e48, e58, e68, e78, lt_lit, nI_add, pk_mul, n_le, n_lt, n_eq, n_cl, n_in, n_sub, n_div, n_rem, n_ite, Nat.zero_add, k_0, k_51]
  refine Call.mono h ?_
  intro r hi1 hl1 hr
  obtain ⟨v, e, q⟩ := hr
  subst e
  simp (disch := omega) only [b_Law_law_490, true_and, and_true, true_implies, false_implies, not_true_eq_false, not_false_eq_true, eq_self, or_true, true_or, false_or, or_false, false_and, and_false, Option.toList_some, Option.toList_none, List.cons_append, List.nil_append, n10, n01, e10, e01, e08, e18, e28, e38, e48, e58, e68, e78, lt_lit, nI_add, pk_mul, n_le, n_lt, n_eq, n_cl, n_in, n_sub, n_div, n_rem, n_ite, Nat.zero_add, k_0, k_51]
  refine Call.mono q ?_
  intro r' hi2 hl2 hr
  obtain ⟨e, q2⟩ := hr
  subst e
  simp (disch := omega) only [b_Law_law_509, b_Law_law_1596, true_and, and_true, true_implies, false_implies, not_true_eq_false, not_false_eq_true, eq_self, or_true, true_or, false_or, or_false, false_and, and_false, Option.toList_some, Option.toList_none, List.cons_append, List.nil_append, n10, n01, e10, e01, e08, e18, e28, e38, e48, e58, e68, e78, lt_lit, nI_add, pk_mul, n_le, n_lt, n_eq, n_cl, n_in, n_sub, n_div, n_rem, n_ite, Nat.zero_add, k_0, k_51]
  exact hn hi2 hl2 q2
set_option maxRecDepth 20000 in
theorem law_8 (hi6 : i + 6 ≤ xN u) (hN : xN u ≤ 3072) (h : Call u 64 [.ref 0, .int (xX u (i + 1)), .int (xX u (i + 2))] hi hl (fun r hi1 hl1 => ∃ v, r = some (.int v) ∧ Call u 143 [.ref 51, .int (xX u (i + 1)), .int (xX u (i + 2))] hi1 hl1 (fun r' hi2 hl2 => r' = some (.int v) ∧ Q hi2 hl2))) (hn : ∀ hi2 hl2, Q hi2 hl2 → Wp u 228 18 [.ref 99, .ref 0, .ref 51, .int (nI (i + 6))] [] hi2 hl2 K) : vc u (n + 150) 228 514 [.ref 99, .ref 0, .ref 51, .int (nI i)] [] hi hl K := by
  simp (disch := omega) only [b_Law_law_514, true_and, and_true, true_implies, false_implies, not_true_eq_false, not_false_eq_true, eq_self, or_true, true_or, false_or, or_false, false_and, and_false, Option.toList_some, Option.toList_none, List.cons_append, List.nil_append, n10, n01, e10, e01, e08, e18, e28, e38, e48, e58, e68, e78, lt_lit, nI_add, pk_mul, n_le, n_lt, n_eq, n_cl, n_in, n_sub, n_div, n_rem, n_ite, Nat.zero_add, k_0, k_51]
  refine Call.mono h ?_
  intro r hi1 hl1 hr
  obtain ⟨v, e, q⟩ := hr
  subst e
  simp (disch := omega) only [b_Law_law_528, true_and, and_true, true_implies, false_implies, not_true_eq_false, not_false_eq_true, eq_self, or_true, true_or, false_or, or_false, false_and, and_false, Option.toList_some, Option.toList_none, List.cons_append, List.nil_append, n10, n01, e10, e01, e08, e18, e28, e38, e48, e58, e68, e78, lt_lit, nI_add, pk_mul, n_le, n_lt, n_eq, n_cl, n_in, n_sub, n_div, n_rem, n_ite, Nat.zero_add, k_0, k_51]
  refine Call.mono q ?_
  intro r' hi2 hl2 hr
  obtain ⟨e, q2⟩ := hr
  subst e
  simp (disch := omega) only [b_Law_law_542, b_Law_law_1596, true_and, and_true, true_implies, false_implies, not_true_eq_false, not_false_eq_true, eq_self, or_true, true_or, false_or, or_false, false_and, and_false, Option.toList_some, Option.toList_none, List.cons_append, List.nil_append, n10, n01, e10, e01, e08, e18, e28, e38, e48, e58, e68, e78, lt_lit, nI_add, pk_mul, n_le, n_lt, n_eq, n_cl, n_in, n_sub, n_div, n_rem, n_ite, Nat.zero_add, k_0, k_51]
  exact hn hi2 hl2 q2
set_option maxRecDepth 20000 in
theorem law_9 (hi6 : i + 6 ≤ xN u) (hN : xN u ≤ 3072) (h : Call u 65 [.ref 0, .int (xX u (i + 1)), .int (xX u (i + 2))] hi hl (fun r hi1 hl1 => ∃ v, r = some (.int v) ∧ Call u 145 [.ref 51, .int (xX u (i + 1)), .int (xX u (i + 2))] hi1 hl1 (fun r' hi2 hl2 => r' = some (.int v) ∧ Q hi2 hl2))) (hn : ∀ hi2 hl2, Q hi2 hl2 → Wp u 228 18 [.ref 99, .ref 0, .ref 51, .int (nI (i + 6))] [] hi2 hl2 K) : vc u (n + 150) 228 547 [.ref 99, .ref 0, .ref 51, .int (nI i)] [] hi hl K := by
  simp (disch := omega) only [b_Law_law_547, true_and, and_true, true_implies, false_implies, not_true_eq_false, not_false_eq_true, eq_self, or_true, true_or, false_or, or_false, false_and, and_false, Option.toList_some, Option.toList_none, List.cons_append, List.nil_append, n10, n01, e10, e01, e08, e18, e28, e38, e48, e58, e68, e78, lt_lit, nI_add, pk_mul, n_le, n_lt, n_eq, n_cl, n_in, n_sub, n_div, n_rem, n_ite, Nat.zero_add, k_0, k_51]
  refine Call.mono h ?_
  intro r hi1 hl1 hr
  obtain ⟨v, e, q⟩ := hr
  subst e
  simp (disch := omega) only [b_Law_law_561, true_and, and_true, true_implies, false_implies, not_true_eq_false, not_false_eq_true, eq_self, or_true, true_or, false_or, or_false, false_and, and_false, Option.toList_some, Option.toList_none, List.cons_append, List.nil_append, n10, n01, e10, e01, e08, e18, e28, e38, e48, e58, e68, e78, lt_lit, nI_add, pk_mul, n_le, n_lt, n_eq, n_cl, n_in, n_sub, n_div, n_rem, n_ite, Nat.zero_add, k_0, k_51]
  refine Call.mono q ?_
  intro r' hi2 hl2 hr
  obtain ⟨e, q2⟩ := hr
  subst e
  simp (disch := omega) only [b_Law_law_575, b_Law_law_1596, true_and, and_true, true_implies, false_implies, not_true_eq_false, not_false_eq_true, eq_self, or_true, true_or, false_or, or_false, false_and, and_false, Option.toList_some, Option.toList_none, List.cons_append, List.nil_append, n10, n01, e10, e01, e08, e18, e28, e38, e48, e58, e68, e78, lt_lit, nI_add, pk_mul, n_le, n_lt, n_eq, n_cl, n_in, n_sub, n_div, n_rem, n_ite, Nat.zero_add, k_0, k_51]
  exact hn hi2 hl2 q2
set_option maxRecDepth 20000 in
theorem law_10 (hi6 : i + 6 ≤ xN u) (hN : xN u ≤ 3072) (h : Call u 66 [.ref 0, .int (xX u (i + 1)), .int (xX u (i + 2))] hi hl (fun r hi1 hl1 => ∃ v, r = some (.int v) ∧ Call u 146 [.ref 51, .int (xX u (i + 1)), .int (xX u (i + 2))] hi1 hl1 (fun r' hi2 hl2 => r' = some (.int v) ∧ Q hi2 hl2))) (hn : ∀ hi2 hl2, Q hi2 hl2 → Wp u 228 18 [.ref 99, .ref 0, .ref 51, .int (nI (i + 6))] [] hi2 hl2 K) : vc u (n + 150) 228 580 [.ref 99, .ref 0, .ref 51, .int (nI i)] [] hi hl K := by
  simp (disch := omega) only [b_Law_law_580, true_and, and_true, true_implies, false_implies, not_true_eq_false, not_false_eq_true, eq_self, or_true, true_or, false_or, or_false, false_and, and_false, Option.toList_some, Option.toList_none, List.cons_append, List.nil_append, n10, n01, e10, e01, e08, e18, e28, e38, e48, e58, e68, e78, lt_lit, nI_add, pk_mul, n_le, n_lt, n_eq, n_cl, n_in, n_sub, n_div, n_rem, n_ite, Nat.zero_add, k_0, k_51]
  refine Call.mono h ?_
  intro r hi1 hl1 hr
  obtain ⟨v, e, q⟩ := hr
  subst e
  simp (disch := omega) only [b_Law_law_594, true_and, and_true, true_implies, false_implies, not_true_eq_false, not_false_eq_true, eq_self, or_true, true_or, false_or, or_false, false_and, and_false, Option.toList_some, Option.toList_none, List.cons_append, List.nil_append, n10, n01, e10, e01, e08, e18, e28, e38, e48, e58, e68, e78, lt_lit, nI_add, pk_mul, n_le, n_lt, n_eq, n_cl, n_in, n_sub, n_div, n_rem, n_ite, Nat.zero_add, k_0, k_51]
  refine Call.mono q ?_
  intro r' hi2 hl2 hr
  obtain ⟨e, q2⟩ := hr
  subst e
  simp (disch := omega) only [b_Law_law_608, b_Law_law_1596, true_and, and_true, true_implies, false_implies, not_true_eq_false, not_false_eq_true, eq_self, or_true, true_or, false_or, or_false, false_and, and_false, Option.toList_some, Option.toList_none, List.cons_append, List.nil_append, n10, n01, e10, e01, e08, e18, e28, e38, e48, e58, e68, e78, lt_lit, nI_add, pk_mul, n_le, n_lt, n_eq, n_cl, n_in, n_sub, n_div, n_rem, n_ite, Nat.zero_add, k_0, k_51]
  exact hn hi2 hl2 q2
set_option maxRecDepth 20000 in
theorem law_11 (hi6 : i + 6 ≤ xN u) (hN : xN u ≤ 3072) (h : Call u 67 [.ref 0, .int (xX u (i + 1))] hi hl (fun r hi1 hl1 => ∃ v, r = some (.int v) ∧ Call u 147 [.ref 51, .int (xX u (i + 1))] hi1 hl1 (fun r' hi2 hl2 => r' = some (.int v) ∧ Q hi2 hl2))) (hn : ∀ hi2 hl2, Q hi2 hl2 → Wp u 228 18 [.ref 99, .ref 0, .ref 51, .int (nI (i + 6))] [] hi2 hl2 K) : vc u (n + 150) 228 613 [.ref 99, .ref 0, .ref 51, .int (nI i)] [] hi hl K := by
  simp (disch := omega) only [b_Law_law_613, true_and, and_true, true_implies, false_implies, not_true_eq_false, not_false_eq_true, eq_self, or_true, true_or, false_or, or_false, false_and, and_false, Option.toList_some, Option.toList_none, List.cons_append, List.nil_append, n10, n01, e10, e01, e08, e18, e28, e38, e48, e58, e68, e78, lt_lit, nI_add, pk_mul, n_le, n_lt, n_eq, n_cl, n_in, n_sub, n_div, n_rem, n_ite, Nat.zero_add, k_0, k_51]
  refine Call.mono h ?_
  intro r hi1 hl1 hr
  obtain ⟨v, e, q⟩ := hr
  subst e
  simp (disch := omega) only [b_Law_law_622, true_and, and_true, true_implies, false_implies, not_true_eq_false, not_false_eq_true, eq_self, or_true, true_or, false_or, or_false, false_and, and_false, Option.toList_some, Option.toList_none, List.cons_append, List.nil_append, n10, n01, e10, e01, e08, e18, e28, e38, e48, e58, e68, e78, lt_lit, nI_add, pk_mul, n_le, n_lt, n_eq, n_cl, n_in, n_sub, n_div, n_rem, n_ite, Nat.zero_add, k_0, k_51]
  refine Call.mono q ?_
  intro r' hi2 hl2 hr
  obtain ⟨e, q2⟩ := hr
  subst e
  simp (disch := omega) only [b_Law_law_631, b_Law_law_1596, true_and, and_true, true_implies, false_implies, not_true_eq_false, not_false_eq_true, eq_self, or_true, true_or, false_or, or_false, false_and, and_false, Option.toList_some, Option.toList_none, List.cons_append, List.nil_append, n10, n01, e10, e01, e08, e18, e28, e38, e48, e58, e68, e78, lt_lit, nI_add, pk_mul, n_le, n_lt, n_eq, n_cl, n_in, n_sub, n_div, n_rem, n_ite, Nat.zero_add, k_0, k_51]
  exact hn hi2 hl2 q2
set_option maxRecDepth 20000 in
theorem law_12 (hi6 : i + 6 ≤ xN u) (hN : xN u ≤ 3072) (h : Call u 68 [.ref 0, .int (xX u (i + 1))] hi hl (fun r hi1 hl1 => ∃ v, r = some (.int v) ∧ Call u 154 [.ref 51, .int (xX u (i + 1))] hi1 hl1 (fun r' hi2 hl2 => r' = some (.int v) ∧ Q hi2 hl2))) (hn : ∀ hi2 hl2, Q hi2 hl2 → Wp u 228 18 [.ref 99, .ref 0, .ref 51, .int (nI (i + 6))] [] hi2 hl2 K) : vc u (n + 150) 228 636 [.ref 99, .ref 0, .ref 51, .int (nI i)] [] hi hl K := by
  simp (disch := omega) only [b_Law_law_636, true_and, and_true, true_implies, false_implies, not_true_eq_false, not_false_eq_true, eq_self, or_true, true_or, false_or, or_false, false_and, and_false, Option.toList_some, Option.toList_none, List.cons_append, List.nil_append, n10, n01, e10, e01, e08, e18, e28, e38, e48, e58, e68, e78, lt_lit, nI_add, pk_mul, n_le, n_lt, n_eq, n_cl, n_in, n_sub, n_div, n_rem, n_ite, Nat.zero_add, k_0, k_51]
  refine Call.mono h ?_
  intro r hi1 hl1 hr
  obtain ⟨v, e, q⟩ := hr
  subst e
  simp (disch := omega) only [b_Law_law_645, true_and, and_true, true_implies, false_implies, not_true_eq_false, not_false_eq_true, eq_self, or_true, true_or, false_or, or_false, false_and, and_false, Option.toList_some, Option.toList_none, List.cons_append, List.nil_append, n10, n01, e10, e01, e08, e18, e28, e38, e48, e58, e68, e78, lt_lit, nI_add, pk_mul, n_le, n_lt, n_eq, n_cl, n_in, n_sub, n_div, n_rem, n_ite, Nat.zero_add, k_0, k_51]
  refine Call.mono q ?_
  intro r' hi2 hl2 hr
  obtain ⟨e, q2⟩ := hr
  subst e
  simp (disch := omega) only [b_Law_law_654, b_Law_law_1596, true_and, and_true, true_implies, false_implies, not_true_eq_false, not_false_eq_true, eq_self, or_true, true_or, false_or, or_false, false_and, and_false, Option.toList_some, Option.toList_none, List.cons_append, List.nil_append, n10, n01, e10, e01, e08, e18, e28, e38, e48, e58, e68, e78, lt_lit, nI_add, pk_mul, n_le, n_lt, n_eq, n_cl, n_in, n_sub, n_div, n_rem, n_ite, Nat.zero_add, k_0, k_51]
  exact hn hi2 hl2 q2
set_option maxRecDepth 20000 in
theorem law_13 (hi6 : i + 6 ≤ xN u) (hN : xN u ≤ 3072) (h : Call u 69 [.ref 0] hi hl (fun r hi1 hl1 => ∃ v, r = some (.int v) ∧ Call u 155 [.ref 51] hi1 hl1 (fun r' hi2 hl2 => r' = some (.int v) ∧ Q hi2 hl2))) (hn : ∀ hi2 hl2, Q hi2 hl2 → Wp u 228 18 [.ref 99, .ref 0, .ref 51, .int (nI (i + 6))] [] hi2 hl2 K) : vc u (n + 150) 228 659 [.ref 99, .ref 0, .ref 51, .int (nI i)] [] hi hl K := by
  simp (disch := omega) only [b_Law_law_659, true_and, and_true, true_implies, false_implies, not_true_eq_false, not_false_eq_true, eq_self, or_true, true_or, false_or, or_false, false_and, and_false, Option.toList_some, Option.toList_none, List.cons_append, List.nil_append, n10, n01, e10, e01, e08, e18, e28, e38, e48, e58, e68, e78, lt_lit, nI_add, pk_mul, n_le, n_lt, n_eq, n_cl, n_in, n_sub, n_div, n_rem, n_ite, Nat.zero_add, k_0, k_51]
  refine Call.mono h ?_
  intro r hi1 hl1 hr
  obtain ⟨v, e, q⟩ := hr
  subst e
  simp (disch := omega) only [b_Law_law_663, true_and, and_true, true_implies, false_implies, not_true_eq_false, not_false_eq_true, eq_self, or_true, true_or, false_or, or_false, false_and, and_false, Option.toList_some, Option.toList_none, List.cons_append, List.nil_append, n10, n01, e10, e01, e08, e18, e28, e38, e48, e58, e68, e78, lt_lit, nI_add, pk_mul, n_le, n_lt, n_eq, n_cl, n_in, n_sub, n_div, n_rem, n_ite, Nat.zero_add, k_0, k_51]
  refine Call.mono q ?_
  intro r' hi2 hl2 hr
  obtain ⟨e, q2⟩ := hr
  subst e
  simp (disch := omega) only [b_Law_law_667, b_Law_law_1596, true_and, and_true, true_implies, false_implies, not_true_eq_false, not_false_eq_true, eq_self, or_true, true_or, false_or, or_false, false_and, and_false, Option.toList_some, Option.toList_none, List.cons_append, List.nil_append, n10, n01, e10, e01, e08, e18, e28, e38, e48, e58, e68, e78, lt_lit, nI_add, pk_mul, n_le, n_lt, n_eq, n_cl, n_in, n_sub, n_div, n_rem, n_ite, Nat.zero_add, k_0, k_51]
  exact hn hi2 hl2 q2
set_option maxRecDepth 20000 in
theorem law_14 (hi6 : i + 6 ≤ xN u) (hN : xN u ≤ 3072) (h : Call u 70 [.ref 0] hi hl (fun r hi1 hl1 => ∃ v, r = some (.int v) ∧ Call u 157 [.ref 51] hi1 hl1 (fun r' hi2 hl2 => r' = some (.int v) ∧ Q hi2 hl2))) (hn : ∀ hi2 hl2, Q hi2 hl2 → Wp u 228 18 [.ref 99, .ref 0, .ref 51, .int (nI (i + 6))] [] hi2 hl2 K) : vc u (n + 150) 228 672 [.ref 99, .ref 0, .ref 51, .int (nI i)] [] hi hl K := by
  simp (disch := omega) only [b_Law_law_672, true_and, and_true, true_implies, false_implies, not_true_eq_false, not_false_eq_true, eq_self, or_true, true_or, false_or, or_false, false_and, and_false, Option.toList_some, Option.toList_none, List.cons_append, List.nil_append, n10, n01, e10, e01, e08, e18, e28, e38, e48, e58, e68, e78, lt_lit, nI_add, pk_mul, n_le, n_lt, n_eq, n_cl, n_in, n_sub, n_div, n_rem, n_ite, Nat.zero_add, k_0, k_51]
  refine Call.mono h ?_
  intro r hi1 hl1 hr
  obtain ⟨v, e, q⟩ := hr
  subst e
  simp (disch := omega) only [b_Law_law_676, true_and, and_true, true_implies, false_implies, not_true_eq_false, not_false_eq_true, eq_self, or_true, true_or, false_or, or_false, false_and, and_false, Option.toList_some, Option.toList_none, List.cons_append, List.nil_append, n10, n01, e10, e01, e08, e18, e28, e38, e48, e58, e68, e78, lt_lit, nI_add, pk_mul, n_le, n_lt, n_eq, n_cl, n_in, n_sub, n_div, n_rem, n_ite, Nat.zero_add, k_0, k_51]
  refine Call.mono q ?_
  intro r' hi2 hl2 hr
  obtain ⟨e, q2⟩ := hr
  subst e
  simp (disch := omega) only [b_Law_law_680, b_Law_law_1596, true_and, and_true, true_implies, false_implies, not_true_eq_false, not_false_eq_true, eq_self, or_true, true_or, false_or, or_false, false_and, and_false, Option.toList_some, Option.toList_none, List.cons_append, List.nil_append, n10, n01, e10, e01, e08, e18, e28, e38, e48, e58, e68, e78, lt_lit, nI_add, pk_mul, n_le, n_lt, n_eq, n_cl, n_in, n_sub, n_div, n_rem, n_ite, Nat.zero_add, k_0, k_51]
  exact hn hi2 hl2 q2
set_option maxRecDepth 20000 in
theorem law_15 (hi6 : i + 6 ≤ xN u) (hN : xN u ≤ 3072) (h : Call u 71 [.ref 0, .int (xX u (i + 1))] hi hl (fun r hi1 hl1 => ∃ v, r = some (.int v) ∧ Call u 158 [.ref 51, .int (xX u (i + 1))] hi1 hl1 (fun r' hi2 hl2 => r' = some (.int v) ∧ Q hi2 hl2))) (hn : ∀ hi2 hl2, Q hi2 hl2 → Wp u 228 18 [.ref 99, .ref 0, .ref 51, .int (nI (i + 6))] [] hi2 hl2 K) : vc u (n + 150) 228 685 [.ref 99, .ref 0, .ref 51, .int (nI i)] [] hi hl K := by
  simp (disch := omega) only [b_Law_law_685, true_and, and_true, true_implies, false_implies, not_true_eq_false, not_false_eq_true, eq_self, or_true, true_or, false_or, or_false, false_and, and_false, Option.toList_some, Option.toList_none, List.cons_append, List.nil_append, n10, n01, e10, e01, e08, e18, e28, e38, e48, e58, e68, e78, lt_lit, nI_add, pk_mul, n_le, n_lt, n_eq, n_cl, n_in, n_sub, n_div, n_rem, n_ite, Nat.zero_add, k_0, k_51]
  refine Call.mono h ?_
  intro r hi1 hl1 hr
  obtain ⟨v, e, q⟩ := hr
  subst e
  simp (disch := omega) only [b_Law_law_694, true_and, and_true, true_implies, false_implies, not_true_eq_false, not_false_eq_true, eq_self, or_true, true_or, false_or, or_false, false_and, and_false, Option.toList_some, Option.toList_none, List.cons_append, List.nil_append, n10, n01, e10, e01, e08, e18, e28, e38, e48, e58, e68, e78, lt_lit, nI_add, pk_mul, n_le, n_lt, n_eq, n_cl, n_in, n_sub, n_div, n_rem, n_ite, Nat.zero_add, k_0, k_51]
  refine Call.mono q ?_
  intro r' hi2 hl2 hr
  obtain ⟨e, q2⟩ := hr
  subst e
  simp (disch := omega) only [b_Law_law_703, b_Law_law_1596, true_and, and_true, true_implies, false_implies, not_true_eq_false, not_false_eq_true, eq_self, or_true, true_or, false_or, or_false, false_and, and_false, Option.toList_some, Option.toList_none, List.cons_append, List.nil_append, n10, n01, e10, e01, e08, e18, e28, e38, e48, e58, e68, e78, lt_lit, nI_add, pk_mul, n_le, n_lt, n_eq, n_cl, n_in, n_sub, n_div, n_rem, n_ite, Nat.zero_add, k_0, k_51]
  exact hn hi2 hl2 q2
set_option maxRecDepth 20000 in
theorem law_16 (hi6 : i + 6 ≤ xN u) (hN : xN u ≤ 3072) (h : Call u 72 [.ref 0, .int (xX u (i + 1)), .int (xX u (i + 2))] hi hl (fun r hi1 hl1 => ∃ v, r = some (.int v) ∧ Call u 160 [.ref 51, .int (xX u (i + 1)), .int (xX u (i + 2))] hi1 hl1 (fun r' hi2 hl2 => r' = some (.int v) ∧ Q hi2 hl2))) (hn : ∀ hi2 hl2, Q hi2 hl2 → Wp u 228 18 [.ref 99, .ref 0, .ref 51, .int (nI (i + 6))] [] hi2 hl2 K) : vc u (n + 150) 228 708 [.ref 99, .ref 0, .ref 51, .int (nI i)] [] hi hl K := by
  simp (disch := omega) only [b_Law_law_708, true_and, and_true, true_implies, false_implies, not_true_eq_false, not_false_eq_true, eq_self, or_true, true_or, false_or, or_false, false_and, and_false, Option.toList_some, Option.toList_none, List.cons_append, List.nil_append, n10, n01, e10, e01, e08, e18, e28, e38, e48, e58, e68, e78, lt_lit, nI_add, pk_mul, n_le, n_lt, n_eq, n_cl, n_in, n_sub, n_div, n_rem, n_ite, Nat.zero_add, k_0, k_51]
  refine Call.mono h ?_
  intro r hi1 hl1 hr
  obtain ⟨v, e, q⟩ := hr
  subst e
  simp (disch := omega) only [b_Law_law_722, true_and, and_true, true_implies, false_implies, not_true_eq_false, not_false_eq_true, eq_self, or_true, true_or, false_or, or_false, false_and, and_false, Option.toList_some, Option.toList_none, List.cons_append, List.nil_append, n10, n01, e10, e01, e08, e18, e28, e38, e48, e58, e68, e78, lt_lit, nI_add, pk_mul, n_le, n_lt, n_eq, n_cl, n_in, n_sub, n_div, n_rem, n_ite, Nat.zero_add, k_0, k_51]
  refine Call.mono q ?_
  intro r' hi2 hl2 hr
  obtain ⟨e, q2⟩ := hr
  subst e
  simp (disch := omega) only [b_Law_law_736, b_Law_law_1596, true_and, and_true, true_implies, false_implies, not_true_eq_false, not_false_eq_true, eq_self, or_true, true_or, false_or, or_false, false_and, and_false, Option.toList_some, Option.toList_none, List.cons_append, List.nil_append, n10, n01, e10, e01, e08, e18, e28, e38, e48, e58, e68, e78, lt_lit, nI_add, pk_mul, n_le, n_lt, n_eq, n_cl, n_in, n_sub, n_div, n_rem, n_ite, Nat.zero_add, k_0, k_51]
  exact hn hi2 hl2 q2
set_option maxRecDepth 20000 in
theorem law_17 (hi6 : i + 6 ≤ xN u) (hN : xN u ≤ 3072) (h : Call u 73 [.ref 0, .int (xX u (i + 1)), .int (xX u (i + 2))] hi hl (fun r hi1 hl1 => ∃ v, r = some (.int v) ∧ Call u 161 [.ref 51, .int (xX u (i + 1)), .int (xX u (i + 2))] hi1 hl1 (fun r' hi2 hl2 => r' = some (.int v) ∧ Q hi2 hl2))) (hn : ∀ hi2 hl2, Q hi2 hl2 → Wp u 228 18 [.ref 99, .ref 0, .ref 51, .int (nI (i + 6))] [] hi2 hl2 K) : vc u (n + 150) 228 741 [.ref 99, .ref 0, .ref 51, .int (nI i)] [] hi hl K := by
  simp (disch := omega) only [b_Law_law_741, true_and, and_true, true_implies, false_implies, not_true_eq_false, not_false_eq_true, eq_self, or_true, true_or, false_or, or_false, false_and, and_false, Option.toList_some, Option.toList_none, List.cons_append, List.nil_append, n10, n01, e10, e01, e08, e18, e28, e38, e48, e58, e68, e78, lt_lit, nI_add, pk_mul, n_le, n_lt, n_eq, n_cl, n_in, n_sub, n_div, n_rem, n_ite, Nat.zero_add, k_0, k_51]
  refine Call.mono h ?_
  intro r hi1 hl1 hr
  obtain ⟨v, e, q⟩ := hr
  subst e
  simp (disch := omega) only [b_Law_law_755, true_and, and_true, true_implies, false_implies, not_true_eq_false, not_false_eq_true, eq_self, or_true, true_or, false_or, or_false, false_and, and_false, Option.toList_some, Option.toList_none, List.cons_append, List.nil_append, n10, n01, e10, e01, e08, e18, e28, e38, e48, e58, e68, e78, lt_lit, nI_add, pk_mul, n_le, n_lt, n_eq, n_cl, n_in, n_sub, n_div, n_rem, n_ite, Nat.zero_add, k_0, k_51]
  refine Call.mono q ?_
  intro r' hi2 hl2 hr
  obtain ⟨e, q2⟩ := hr
  subst e
  simp (disch := omega) only [b_Law_law_769, b_Law_law_1596, true_and, and_true, true_implies, false_implies, not_true_eq_false, not_false_eq_true, eq_self, or_true, true_or, false_or, or_false, false_and, and_false, Option.toList_some, Option.toList_none, List.cons_append, List.nil_append, n10, n01, e10, e01, e08, e18, e28, e38, e48, e58, e68, e78, lt_lit, nI_add, pk_mul, n_le, n_lt, n_eq, n_cl, n_in, n_sub, n_div, n_rem, n_ite, Nat.zero_add, k_0, k_51]
  exact hn hi2 hl2 q2
set_option maxRecDepth 20000 in
theorem law_18 (hi6 : i + 6 ≤ xN u) (hN : xN u ≤ 3072) (h : Call u 74 [.ref 0, .int (xX u (i + 1))] hi hl (fun r hi1 hl1 => ∃ v, r = some (.int v) ∧ Call u 162 [.ref 51, .int (xX u (i + 1))] hi1 hl1 (fun r' hi2 hl2 => r' = some (.int v) ∧ Q hi2 hl2))) (hn : ∀ hi2 hl2, Q hi2 hl2 → Wp u 228 18 [.ref 99, .ref 0, .ref 51, .int (nI (i + 6))] [] hi2 hl2 K) : vc u (n + 150) 228 774 [.ref 99, .ref 0, .ref 51, .int (nI i)] [] hi hl K := by
  simp (disch := omega) only [b_Law_law_774, true_and, and_true, true_implies, false_implies, not_true_eq_false, not_false_eq_true, eq_self, or_true, true_or, false_or, or_false, false_and, and_false, Option.toList_some, Option.toList_none, List.cons_append, List.nil_append, n10, n01, e10, e01, e08, e18, e28, e38, e48, e58, e68, e78, lt_lit, nI_add, pk_mul, n_le, n_lt, n_eq, n_cl, n_in, n_sub, n_div, n_rem, n_ite, Nat.zero_add, k_0, k_51]
  refine Call.mono h ?_
  intro r hi1 hl1 hr
  obtain ⟨v, e, q⟩ := hr
  subst e
  simp (disch := omega) only [b_Law_law_783, true_and, and_true, true_implies, false_implies, not_true_eq_false, not_false_eq_true, eq_self, or_true, true_or, false_or, or_false, false_and, and_false, Option.toList_some, Option.toList_none, List.cons_append, List.nil_append, n10, n01, e10, e01, e08, e18, e28, e38, e48, e58, e68, e78, lt_lit, nI_add, pk_mul, n_le, n_lt, n_eq, n_cl, n_in, n_sub, n_div, n_rem, n_ite, Nat.zero_add, k_0, k_51]
  refine Call.mono q ?_
  intro r' hi2 hl2 hr
  obtain ⟨e, q2⟩ := hr
  subst e
  simp (disch := omega) only [b_Law_law_792, b_Law_law_1596, true_and, and_true, true_implies, false_implies, not_true_eq_false, not_false_eq_true, eq_self, or_true, true_or, false_or, or_false, false_and, and_false, Option.toList_some, Option.toList_none, List.cons_append, List.nil_append, n10, n01, e10, e01, e08, e18, e28, e38, e48, e58, e68, e78, lt_lit, nI_add, pk_mul, n_le, n_lt, n_eq, n_cl, n_in, n_sub, n_div, n_rem, n_ite, Nat.zero_add, k_0, k_51]
  exact hn hi2 hl2 q2
set_option maxRecDepth 20000 in
theorem law_19 (hi6 : i + 6 ≤ xN u) (hN : xN u ≤ 3072) (h : Call u 75 [.ref 0] hi hl (fun r hi1 hl1 => ∃ v, r = some (.int v) ∧ Call u 166 [.ref 51] hi1 hl1 (fun r' hi2 hl2 => r' = some (.int v) ∧ Q hi2 hl2))) (hn : ∀ hi2 hl2, Q hi2 hl2 → Wp u 228 18 [.ref 99, .ref 0, .ref 51, .int (nI (i + 6))] [] hi2 hl2 K) : vc u (n + 150) 228 797 [.ref 99, .ref 0, .ref 51, .int (nI i)] [] hi hl K := by
  simp (disch := omega) only [b_Law_law_797, true_and, and_true, true_implies, false_implies, not_true_eq_false, not_false_eq_true, eq_self, or_true, true_or, false_or, or_false, false_and, and_false, Option.toList_some, Option.toList_none, List.cons_append, List.nil_append, n10, n01, e10, e01, e08, e18, e28, e38, e48, e58, e68, e78, lt_lit, nI_add, pk_mul, n_le, n_lt, n_eq, n_cl, n_in, n_sub, n_div, n_rem, n_ite, Nat.zero_add, k_0, k_51]
  refine Call.mono h ?_
  intro r hi1 hl1 hr
  obtain ⟨v, e, q⟩ := hr
  subst e
  simp (disch := omega) only [b_Law_law_801, true_and, and_true, true_implies, false_implies, not_true_eq_false, not_false_eq_true, eq_self, or_true, true_or, false_or, or_false, false_and, and_false, Option.toList_some, Option.toList_none, List.cons_append, List.nil_append, n10, n01, e10, e01, e08, e18, e28, e38, e48, e58, e68, e78, lt_lit, nI_add, pk_mul, n_le, n_lt, n_eq, n_cl, n_in, n_sub, n_div, n_rem, n_ite, Nat.zero_add, k_0, k_51]
  refine Call.mono q ?_
  intro r' hi2 hl2 hr
  obtain ⟨e, q2⟩ := hr
  subst e
  simp (disch := omega) only [b_Law_law_805, b_Law_law_1596, true_and, and_true, true_implies, false_implies, not_true_eq_false, not_false_eq_true, eq_self, or_true, true_or, false_or, or_false, false_and, and_false, Option.toList_some, Option.toList_none, List.cons_append, List.nil_append, n10, n01, e10, e01, e08, e18, e28, e38, e48, e58, e68, e78, lt_lit, nI_add, pk_mul, n_le, n_lt, n_eq, n_cl, n_in, n_sub, n_div, n_rem, n_ite, Nat.zero_add, k_0, k_51]
  exact hn hi2 hl2 q2
set_option maxRecDepth 20000 in
theorem law_20 (hi6 : i + 6 ≤ xN u) (hN : xN u ≤ 3072) (h : Call u 76 [.ref 0] hi hl (fun r hi1 hl1 => ∃ v, r = some (.int v) ∧ Call u 167 [.ref 51] hi1 hl1 (fun r' hi2 hl2 => r' = some (.int v) ∧ Q hi2 hl2))) (hn : ∀ hi2 hl2, Q hi2 hl2 → Wp u 228 18 [.ref 99, .ref 0, .ref 51, .int (nI (i + 6))] [] hi2 hl2 K) : vc u (n + 150) 228 810 [.ref 99, .ref 0, .ref 51, .int (nI i)] [] hi hl K := by
  simp (disch := omega) only [b_Law_law_810, true_and, and_true, true_implies, false_implies, not_true_eq_false, not_false_eq_true, eq_self, or_true, true_or, false_or, or_false, false_and, and_false, Option.toList_some, Option.toList_none, List.cons_append, List.nil_append, n10, n01, e10, e01, e08, e18, e28, e38, e48, e58, e68, e78, lt_lit, nI_add, pk_mul, n_le, n_lt, n_eq, n_cl, n_in, n_sub, n_div, n_rem, n_ite, Nat.zero_add, k_0, k_51]
  refine Call.mono h ?_
  intro r hi1 hl1 hr
  obtain ⟨v, e, q⟩ := hr
  subst e
  simp (disch := omega) only [b_Law_law_814, true_and, and_true, true_implies, false_implies, not_true_eq_false, not_false_eq_true, eq_self, or_true, true_or, false_or, or_false, false_and, and_false, Option.toList_some, Option.toList_none, List.cons_append, List.nil_append, n10, n01, e10, e01, e08, e18, e28, e38, e48, e58, e68, e78, lt_lit, nI_add, pk_mul, n_le, n_lt, n_eq, n_cl, n_in, n_sub, n_div, n_rem, n_ite, Nat.zero_add, k_0, k_51]
  refine Call.mono q ?_
  intro r' hi2 hl2 hr
  obtain ⟨e, q2⟩ := hr
  subst e
  simp (disch := omega) only [b_Law_law_818, b_Law_law_1596, true_and, and_true, true_implies, false_implies, not_true_eq_false, not_false_eq_true, eq_self, or_true, true_or, false_or, or_false, false_and, and_false, Option.toList_some, Option.toList_none, List.cons_append, List.nil_append, n10, n01, e10, e01, e08, e18, e28, e38, e48, e58, e68, e78, lt_lit, nI_add, pk_mul, n_le, n_lt, n_eq, n_cl, n_in, n_sub, n_div, n_rem, n_ite, Nat.zero_add, k_0, k_51]
  exact hn hi2 hl2 q2
set_option maxRecDepth 20000 in
theorem law_21 (hi6 : i + 6 ≤ xN u) (hN : xN u ≤ 3072) (h : Call u 77 [.ref 0, .int (xX u (i + 1)), .int (xX u (i + 2))] hi hl (fun r hi1 hl1 => ∃ v, r = some (.int v) ∧ Call u 168 [.ref 51, .int (xX u (i + 1)), .int (xX u (i + 2))] hi1 hl1 (fun r' hi2 hl2 => r' = some (.int v) ∧ Q hi2 hl2))) (hn : ∀ hi2 hl2, Q hi2 hl2 → Wp u 228 18 [.ref 99, .ref 0, .ref 51, .int (nI (i + 6))] [] hi2 hl2 K) : vc u (n + 150) 228 823 [.ref 99, .ref 0, .ref 51, .int (nI i)] [] hi hl K := by
  simp (disch := omega) only [b_Law_law_823, true_and, and_true, true_implies, false_implies, not_true_eq_false, not_false_eq_true, eq_self, or_true, true_or, false_or, or_false, false_and, and_false, Option.toList_some, Option.toList_none, List.cons_append, List.nil_append, n10, n01, e10, e01, e08, e18, e28, e38, e48, e58, e68, e78, lt_lit, nI_add, pk_mul, n_le, n_lt, n_eq, n_cl, n_in, n_sub, n_div, n_rem, n_ite, Nat.zero_add, k_0, k_51]
  refine Call.mono h ?_
  intro r hi1 hl1 hr
  obtain ⟨v, e, q⟩ := hr
  subst e
  simp (disch := omega) only [b_Law_law_837, true_and, and_true, true_implies, false_implies, not_true_eq_false, not_false_eq_true, eq_self, or_true, true_or, false_or, or_false, false_and, and_false, Option.toList_some, Option.toList_none, List.cons_append, List.nil_append, n10, n01, e10, e01, e08, e18, e28, e38, e48, e58, e68, e78, lt_lit, nI_add, pk_mul, n_le, n_lt, n_eq, n_cl, n_in, n_sub, n_div, n_rem, n_ite, Nat.zero_add, k_0, k_51]
  refine Call.mono q ?_
  intro r' hi2 hl2 hr
  obtain ⟨e, q2⟩ := hr
  subst e
  simp (disch := omega) only [b_Law_law_851, b_Law_law_1596, true_and, and_true, true_implies, false_implies, not_true_eq_false, not_false_eq_true, eq_self, or_true, true_or, false_or, or_false, false_and, and_false, Option.toList_some, Option.toList_none, List.cons_append, List.nil_append, n10, n01, e10, e01, e08, e18, e28, e38, e48, e58, e68, e78, lt_lit, nI_add, pk_mul, n_le, n_lt, n_eq, n_cl, n_in, n_sub, n_div, n_rem, n_ite, Nat.zero_add, k_0, k_51]
  exact hn hi2 hl2 q2
set_option maxRecDepth 20000 in
theorem law_22 (hi6 : i + 6 ≤ xN u) (hN : xN u ≤ 3072) (h : Call u 79 [.ref 0, .int (xX u (i + 1))] hi hl (fun r hi1 hl1 => ∃ v, r = some (.int v) ∧ Call u 169 [.ref 51, .int (xX u (i + 1))] hi1 hl1 (fun r' hi2 hl2 => r' = some (.int v) ∧ Q hi2 hl2))) (hn : ∀ hi2 hl2, Q hi2 hl2 → Wp u 228 18 [.ref 99, .ref 0, .ref 51, .int (nI (i + 6))] [] hi2 hl2 K) : vc u (n + 150) 228 856 [.ref 99, .ref 0, .ref 51, .int (nI i)] [] hi hl K := by
  simp (disch := omega) only [b_Law_law_856, true_and, and_true, true_implies, false_implies, not_true_eq_false, not_false_eq_true, eq_self, or_true, true_or, false_or, or_false, false_and, and_false, Option.toList_some, Option.toList_none, List.cons_append, List.nil_append, n10, n01, e10, e01, e08, e18, e28, e38, e48, e58, e68, e78, lt_lit, nI_add, pk_mul, n_le, n_lt, n_eq, n_cl, n_in, n_sub, n_div, n_rem, n_ite, Nat.zero_add, k_0, k_51]
  refine Call.mono h ?_
  intro r hi1 hl1 hr
  obtain ⟨v, e, q⟩ := hr
  subst e
  simp (disch := omega) only [b_Law_law_865, true_and, and_true, true_implies, false_implies, not_true_eq_false, not_false_eq_true, eq_self, or_true, true_or, false_or, or_false, false_and, and_false, Option.toList_some, Option.toList_none, List.cons_append, List.nil_append, n10, n01, e10, e01, e08, e18, e28, e38, e48, e58, e68, e78, lt_lit, nI_add, pk_mul, n_le, n_lt, n_eq, n_cl, n_in, n_sub, n_div, n_rem, n_ite, Nat.zero_add, k_0, k_51]
  refine Call.mono q ?_
  intro r' hi2 hl2 hr
  obtain ⟨e, q2⟩ := hr
  subst e
  simp (disch := omega) only [b_Law_law_874, b_Law_law_1596, true_and, and_true, true_implies, false_implies, not_true_eq_false, not_false_eq_true, eq_self, or_true, true_or, false_or, or_false, false_and, and_false, Option.toList_some, Option.toList_none, List.cons_append, List.nil_append, n10, n01, e10, e01, e08, e18, e28, e38, e48, e58, e68, e78, lt_lit, nI_add, pk_mul, n_le, n_lt, n_eq, n_cl, n_in, n_sub, n_div, n_rem, n_ite, Nat.zero_add, k_0, k_51]
  exact hn hi2 hl2 q2
set_option maxRecDepth 20000 in
theorem law_23 (hi6 : i + 6 ≤ xN u) (hN : xN u ≤ 3072) (h : Call u 80 [.ref 0, .int (xX u (i + 1))] hi hl (fun r hi1 hl1 => ∃ v, r = some (.int v) ∧ Call u 170 [.ref 51, .int (xX u (i + 1))] hi1 hl1 (fun r' hi2 hl2 => r' = some (.int v) ∧ Q hi2 hl2))) (hn : ∀ hi2 hl2, Q hi2 hl2 → Wp u 228 18 [.ref 99, .ref 0, .ref 51, .int (nI (i + 6))] [] hi2 hl2 K) : vc u (n + 150) 228 879 [.ref 99, .ref 0, .ref 51, .int (nI i)] [] hi hl K := by
  simp (disch := omega) only [b_Law_law_879, true_and, and_true, true_implies, false_implies, not_true_eq_false, not_false_eq_true, eq_self, or_true, true_or, false_or, or_false, false_and, and_false, Option.toList_some, Option.toList_none, List.cons_append, List.nil_append, n10, n01, e10, e01, e08, e18, e28, e38, e48, e58, e68, e78, lt_lit, nI_add, pk_mul, n_le, n_lt, n_eq, n_cl, n_in, n_sub, n_div, n_rem, n_ite, Nat.zero_add, k_0, k_51]
  refine Call.mono h ?_
  intro r hi1 hl1 hr
  obtain ⟨v, e, q⟩ := hr
  subst e
  simp (disch := omega) only [b_Law_law_888, true_and, and_true, true_implies, false_implies, not_true_eq_false, not_false_eq_true, eq_self, or_true, true_or, false_or, or_false, false_and, and_false, Option.toList_some, Option.toList_none, List.cons_append, List.nil_append, n10, n01, e10, e01, e08, e18, e28, e38, e48, e58, e68, e78, lt_lit, nI_add, pk_mul, n_le, n_lt, n_eq, n_cl, n_in, n_sub, n_div, n_rem, n_ite, Nat.zero_add, k_0, k_51]
  refine Call.mono q ?_
  intro r' hi2 hl2 hr
  obtain ⟨e, q2⟩ := hr
  subst e
  simp (disch := omega) only [b_Law_law_897, b_Law_law_1596, true_and, and_true, true_implies, false_implies, not_true_eq_false, not_false_eq_true, eq_self, or_true, true_or, false_or, or_false, false_and, and_false, Option.toList_some, Option.toList_none, List.cons_append, List.nil_append, n10, n01, e10, e01, e08, e18, e28, e38, e48, e58, e68, e78, lt_lit, nI_add, pk_mul, n_le, n_lt, n_eq, n_cl, n_in, n_sub, n_div, n_rem, n_ite, Nat.zero_add, k_0, k_51]
  exact hn hi2 hl2 q2
set_option maxRecDepth 20000 in
theorem law_24 (hi6 : i + 6 ≤ xN u) (hN : xN u ≤ 3072) (h : Call u 81 [.ref 0, .int (xX u (i + 1))] hi hl (fun r hi1 hl1 => ∃ v, r = some (.int v) ∧ Call u 171 [.ref 51, .int (xX u (i + 1))] hi1 hl1 (fun r' hi2 hl2 => r' = some (.int v) ∧ Q hi2 hl2))) (hn : ∀ hi2 hl2, Q hi2 hl2 → Wp u 228 18 [.ref 99, .ref 0, .ref 51, .int (nI (i + 6))] [] hi2 hl2 K) : vc u (n + 150) 228 902 [.ref 99, .ref 0, .ref 51, .int (nI i)] [] hi hl K := by
  simp (disch := omega) only [b_Law_law_902, true_and, and_true, true_implies, false_implies, not_true_eq_false, not_false_eq_true, eq_self, or_true, true_or, false_or, or_false, false_and, and_false, Option.toList_some, Option.toList_none, List.cons_append, List.nil_append, n10, n01, e10, e01, e08, e18, e28, e38, e48, e58, e68, e78, lt_lit, nI_add, pk_mul, n_le, n_lt, n_eq, n_cl, n_in, n_sub, n_div, n_rem, n_ite, Nat.zero_add, k_0, k_51]
  refine Call.mono h ?_
  intro r hi1 hl1 hr
  obtain ⟨v, e, q⟩ := hr
  subst e
  simp (disch := omega) only [b_Law_law_911, true_and, and_true, true_implies, false_implies, not_true_eq_false, not_false_eq_true, eq_self, or_true, true_or, false_or, or_false, false_and, and_false, Option.toList_some, Option.toList_none, List.cons_append, List.nil_append, n10, n01, e10, e01, e08, e18, e28, e38, e48, e58, e68, e78, lt_lit, nI_add, pk_mul, n_le, n_lt, n_eq, n_cl, n_in, n_sub, n_div, n_rem, n_ite, Nat.zero_add, k_0, k_51]
  refine Call.mono q ?_
  intro r' hi2 hl2 hr
  obtain ⟨e, q2⟩ := hr
  subst e
  simp (disch := omega) only [b_Law_law_920, b_Law_law_1596, true_and, and_true, true_implies, false_implies, not_true_eq_false, not_false_eq_true, eq_self, or_true, true_or, false_or, or_false, false_and, and_false, Option.toList_some, Option.toList_none, List.cons_append, List.nil_append, n10, n01, e10, e01, e08, e18, e28, e38, e48, e58, e68, e78, lt_lit, nI_add, pk_mul, n_le, n_lt, n_eq, n_cl, n_in, n_sub, n_div, n_rem, n_ite, Nat.zero_add, k_0, k_51]
  exact hn hi2 hl2 q2
set_option maxRecDepth 20000 in
theorem law_25 (hi6 : i + 6 ≤ xN u) (hN : xN u ≤ 3072) (h : Call u 82 [.ref 0, .int (xX u (i + 1))] hi hl (fun r hi1 hl1 => ∃ v, r = some (.int v) ∧ Call u 172 [.ref 51, .int (xX u (i + 1))] hi1 hl1 (fun r' hi2 hl2 => r' = some (.int v) ∧ Q hi2 hl2))) (hn : ∀ hi2 hl2, Q hi2 hl2 → Wp u 228 18 [.ref 99, .ref 0, .ref 51, .int (nI (i + 6))] [] hi2 hl2 K) : vc u (n + 150) 228 925 [.ref 99, .ref 0, .ref 51, .int (nI i)] [] hi hl K := by
  simp (disch := omega) only [b_Law_law_925, true_and, and_true, true_implies, false_implies, not_true_eq_false, not_false_eq_true, eq_self, or_true, true_or, false_or, or_false, false_and, and_false, Option.toList_some, Option.toList_none, List.cons_append, List.nil_append, n10, n01, e10, e01, e08, e18, e28, e38, e48, e58, e68, e78, lt_lit, nI_add, pk_mul, n_le, n_lt, n_eq, n_cl, n_in, n_sub, n_div, n_rem, n_ite, Nat.zero_add, k_0, k_51]
  refine Call.mono h ?_
  intro r hi1 hl1 hr
  obtain ⟨v, e, q⟩ := hr
  subst e
  simp (disch := omega) only [b_Law_law_934, true_and, and_true, true_implies, false_implies, not_true_eq_false, not_false_eq_true, eq_self, or_true, true_or, false_or, or_false, false_and, and_false, Option.toList_some, Option.toList_none, List.cons_append, List.nil_append, n10, n01, e10, e01, e08, e18, e28, e38, e48, e58, e68, e78, lt_lit, nI_add, pk_mul, n_le, n_lt, n_eq, n_cl, n_in, n_sub, n_div, n_rem, n_ite, Nat.zero_add, k_0, k_51]
  refine Call.mono q ?_
  intro r' hi2 hl2 hr
  obtain ⟨e, q2⟩ := hr
  subst e
  simp (disch := omega) only [b_Law_law_943, b_Law_law_1596, true_and, and_true, true_implies, false_implies, not_true_eq_false, not_false_eq_true, eq_self, or_true, true_or, false_or, or_false, false_and, and_false, Option.toList_some, Option.toList_none, List.cons_append, List.nil_append, n10, n01, e10, e01, e08, e18, e28, e38, e48, e58, e68, e78, lt_lit, nI_add, pk_mul, n_le, n_lt, n_eq, n_cl, n_in, n_sub, n_div, n_rem, n_ite, Nat.zero_add, k_0, k_51]
  exact hn hi2 hl2 q2
set_option maxRecDepth 20000 in
theorem law_26 (hi6 : i + 6 ≤ xN u) (hN : xN u ≤ 3072) (h : Call u 83 [.ref 0, .int (xX u (i + 1))] hi hl (fun r hi1 hl1 => ∃ v, r = some (.int v) ∧ Call u 174 [.ref 51, .int (xX u (i + 1))] hi1 hl1 (fun r' hi2 hl2 => r' = some (.int v) ∧ Q hi2 hl2))) (hn : ∀ hi2 hl2, Q hi2 hl2 → Wp u 228 18 [.ref 99, .ref 0, .ref 51, .int (nI (i + 6))] [] hi2 hl2 K) : vc u (n + 150) 228 948 [.ref 99, .ref 0, .ref 51, .int (nI i)] [] hi hl K := by
  simp (disch := omega) only [b_Law_law_948, true_and, and_true, true_implies, false_implies, not_true_eq_false, not_false_eq_true, eq_self, or_true, true_or, false_or, or_false, false_and, and_false, Option.toList_some, Option.toList_none, List.cons_append, List.nil_append, n10, n01, e10, e01, e08, e18, e28, e38, e48, e58, e68, e78, lt_lit, nI_add, pk_mul, n_le, n_lt, n_eq, n_cl, n_in, n_sub, n_div, n_rem, n_ite, Nat.zero_add, k_0, k_51]
  refine Call.mono h ?_
  intro r hi1 hl1 hr
  obtain ⟨v, e, q⟩ := hr
  subst e
  simp (disch := omega) only [b_Law_law_957, true_and, and_true, true_implies, false_implies, not_true_eq_false, not_false_eq_true, eq_self, or_true, true_or, false_or, or_false, false_and, and_false, Option.toList_some, Option.toList_none, List.cons_append, List.nil_append, n10, n01, e10, e01, e08, e18, e28, e38, e48, e58, e68, e78, lt_lit, nI_add, pk_mul, n_le, n_lt, n_eq, n_cl, n_in, n_sub, n_div, n_rem, n_ite, Nat.zero_add, k_0, k_51]
  refine Call.mono q ?_
  intro r' hi2 hl2 hr
  obtain ⟨e, q2⟩ := hr
  subst e
  simp (disch := omega) only [b_Law_law_966, b_Law_law_1596, true_and, and_true, true_implies, false_implies, not_true_eq_false, not_false_eq_true, eq_self, or_true, true_or, false_or, or_false, false_and, and_false, Option.toList_some, Option.toList_none, List.cons_append, List.nil_append, n10, n01, e10, e01, e08, e18, e28, e38, e48, e58, e68, e78, lt_lit, nI_add, pk_mul, n_le, n_lt, n_eq, n_cl, n_in, n_sub, n_div, n_rem, n_ite, Nat.zero_add, k_0, k_51]
  exact hn hi2 hl2 q2
set_option maxRecDepth 20000 in
theorem law_27 (hi6 : i + 6 ≤ xN u) (hN : xN u ≤ 3072) (h : Call u 84 [.ref 0, .int (xX u (i + 1))] hi hl (fun r hi1 hl1 => ∃ v, r = some (.int v) ∧ Call u 175 [.ref 51, .int (xX u (i + 1))] hi1 hl1 (fun r' hi2 hl2 => r' = some (.int v) ∧ Q hi2 hl2))) (hn : ∀ hi2 hl2, Q hi2 hl2 → Wp u 228 18 [.ref 99, .ref 0, .ref 51, .int (nI (i + 6))] [] hi2 hl2 K) : vc u (n + 150) 228 971 [.ref 99, .ref 0, .ref 51, .int (nI i)] [] hi hl K := by
  simp (disch := omega) only [b_Law_law_971, true_and, and_true, true_implies, false_implies, not_true_eq_false, not_false_eq_true, eq_self, or_true, true_or, false_or, or_false, false_and, and_false, Option.toList_some, Option.toList_none, List.cons_append, List.nil_append, n10, n01, e10, e01, e08, e18, e28, e38, e48, e58, e68, e78, lt_lit, nI_add, pk_mul, n_le, n_lt, n_eq, n_cl, n_in, n_sub, n_div, n_rem, n_ite, Nat.zero_add, k_0, k_51]
  refine Call.mono h ?_
  intro r hi1 hl1 hr
  obtain ⟨v, e, q⟩ := hr
  subst e
  simp (disch := omega) only [b_Law_law_980, true_and, and_true, true_implies, false_implies, not_true_eq_false, not_false_eq_true, eq_self, or_true, true_or, false_or, or_false, false_and, and_false, Option.toList_some, Option.toList_none, List.cons_append, List.nil_append, n10, n01, e10, e01, e08, e18, e28, e38, e48, e58, e68, e78, lt_lit, nI_add, pk_mul, n_le, n_lt, n_eq, n_cl, n_in, n_sub, n_div, n_rem, n_ite, Nat.zero_add, k_0, k_51]
  refine Call.mono q ?_
  intro r' hi2 hl2 hr
  obtain ⟨e, q2⟩ := hr
  subst e
  simp (disch := omega) only [b_Law_law_989, b_Law_law_1596, true_and, and_true, true_implies, false_implies, not_true_eq_false, not_false_eq_true, eq_self, or_true, true_or, false_or, or_false, false_and, and_false, Option.toList_some, Option.toList_none, List.cons_append, List.nil_append, n10, n01, e10, e01, e08, e18, e28, e38, e48, e58, e68, e78, lt_lit, nI_add, pk_mul, n_le, n_lt, n_eq, n_cl, n_in, n_sub, n_div, n_rem, n_ite, Nat.zero_add, k_0, k_51]
  exact hn hi2 hl2 q2
set_option maxRecDepth 20000 in
theorem law_28 (hi6 : i + 6 ≤ xN u) (hN : xN u ≤ 3072) (h : Call u 85 [.ref 0, .int (xX u (i + 1)), .int (xX u (i + 2)), .int (xX u (i + 3))] hi hl (fun r hi1 hl1 => ∃ v, r = some (.int v) ∧ Call u 176 [.ref 51, .int (xX u (i + 1)), .int (xX u (i + 2)), .int (xX u (i + 3))] hi1 hl1 (fun r' hi2 hl2 => r' = some (.int v) ∧ Q hi2 hl2))) (hn : ∀ hi2 hl2, Q hi2 hl2 → Wp u 228 18 [.ref 99, .ref 0, .ref 51, .int (nI (i + 6))] [] hi2 hl2 K) : vc u (n + 150) 228 994 [.ref 99, .ref 0, .ref 51, .int (nI i)] [] hi hl K := by
  simp (disch := omega) only [b_Law_law_994, true_and, and_true, true_implies, false_implies, not_true_eq_false, not_false_eq_true, eq_self, or_true, true_or, false_or, or_false, false_and, and_false, Option.toList_some, Option.toList_none, List.cons_append, List.nil_append, n10, n01, e10, e01, e08, e18, e28, e38, e48, e58, e68, e78, lt_lit, nI_add, pk_mul, n_le, n_lt, n_eq, n_cl, n_in, n_sub, n_div, n_rem, n_ite, Nat.zero_add, k_0, k_51]
  refine Call.mono h ?_
  intro r hi1 hl1 hr
  obtain ⟨v, e, q⟩ := hr
  subst e
  simp (disch := omega) only [b_Law_law_1013, true_and, and_true, true_implies, false_implies, not_true_eq_false, not_false_eq_true, eq_self, or_true, true_or, false_or, or_false, false_and, and_false, Option.toList_some, Option.toList_none, List.cons_append, List.nil_append, n10, n01, e10, e01, e08, e18, e28, e38, e48, e58, e68, e78, lt_lit, nI_add, pk_mul, n_le, n_lt, n_eq, n_cl, n_in, n_sub, n_div, n_rem, n_ite, Nat.zero_add, k_0, k_51]
  refine Call.mono q ?_
  intro r' hi2 hl2 hr
  obtain ⟨e, q2⟩ := hr
  subst e
  simp (disch := omega) only [b_Law_law_1032, b_Law_law_1596, true_and, and_true, true_implies, false_implies, not_true_eq_false, not_false_eq_true, eq_self, or_true, true_or, false_or, or_false, false_and, and_false, Option.toList_some, Option.toList_none, List.cons_append, List.nil_append, n10, n01, e10, e01, e08, e18, e28, e38, e48, e58, e68, e78, lt_lit, nI_add, pk_mul, n_le, n_lt, n_eq, n_cl, n_in, n_sub, n_div, n_rem, n_ite, Nat.zero_add, k_0, k_51]
  exact hn hi2 hl2 q2
set_option maxRecDepth 20000 in
theorem law_29 (hi6 : i + 6 ≤ xN u) (hN : xN u ≤ 3072) (h : Call u 86 [.ref 0, .int (xX u (i + 1))] hi hl (fun r hi1 hl1 => ∃ v, r = some (.int v) ∧ Call u 179 [.ref 51, .int (xX u (i + 1))] hi1 hl1 (fun r' hi2 hl2 => r' = some (.int v) ∧ Q hi2 hl2))) (hn : ∀ hi2 hl2, Q hi2 hl2 → Wp u 228 18 [.ref 99, .ref 0, .ref 51, .int (nI (i + 6))] [] hi2 hl2 K) : vc u (n + 150) 228 1037 [.ref 99, .ref 0, .ref 51, .int (nI i)] [] hi hl K := by
  simp (disch := omega) only [b_Law_law_1037, true_and, and_true, true_implies, false_implies, not_true_eq_false, not_false_eq_true, eq_self, or_true, true_or, false_or, or_false, false_and, and_false, Option.toList_some, Option.toList_none, List.cons_append, List.nil_append, n10, n01, e10, e01, e08, e18, e28, e38, e48, e58, e68, e78, lt_lit, nI_add, pk_mul, n_le, n_lt, n_eq, n_cl, n_in, n_sub, n_div, n_rem, n_ite, Nat.zero_add, k_0, k_51]
  refine Call.mono h ?_
  intro r hi1 hl1 hr
  obtain ⟨v, e, q⟩ := hr
  subst e
  simp (disch := omega) only [b_Law_law_1046, true_and, and_true, true_implies, false_implies, not_true_eq_false, not_false_eq_true, eq_self, or_true, true_or, false_or, or_false, false_and, and_false, Option.toList_some, Option.toList_none, List.cons_append, List.nil_append, n10, n01, e10, e01, e08, e18, e28, e38, e48, e58, e68, e78, lt_lit, nI_add, pk_mul, n_le, n_lt, n_eq, n_cl, n_in, n_sub, n_div, n_rem, n_ite, Nat.zero_add, k_0, k_51]
  refine Call.mono q ?_
  intro r' hi2 hl2 hr
  obtain ⟨e, q2⟩ := hr
  subst e
  simp (disch := omega) only [b_Law_law_1055, b_Law_law_1596, true_and, and_true, true_implies, false_implies, not_true_eq_false, not_false_eq_true, eq_self, or_true, true_or, false_or, or_false, false_and, and_false, Option.toList_some, Option.toList_none, List.cons_append, List.nil_append, n10, n01, e10, e01, e08, e18, e28, e38, e48, e58, e68, e78, lt_lit, nI_add, pk_mul, n_le, n_lt, n_eq, n_cl, n_in, n_sub, n_div, n_rem, n_ite, Nat.zero_add, k_0, k_51]
  exact hn hi2 hl2 q2
set_option maxRecDepth 20000 in
theorem law_30 (hi6 : i + 6 ≤ xN u) (hN : xN u ≤ 3072) (h : Call u 87 [.ref 0, .int (xX u (i + 1))] hi hl (fun r hi1 hl1 => ∃ v, r = some (.int v) ∧ Call u 180 [.ref 51, .int (xX u (i + 1))] hi1 hl1 (fun r' hi2 hl2 => r' = some (.int v) ∧ Q hi2 hl2))) (hn : ∀ hi2 hl2, Q hi2 hl2 → Wp u 228 18 [.ref 99, .ref 0, .ref 51, .int (nI (i + 6))] [] hi2 hl2 K) : vc u (n + 150) 228 1060 [.ref 99, .ref 0, .ref 51, .int (nI i)] [] hi hl K := by
  simp (disch := omega) only [b_Law_law_1060, true_and, and_true, true_implies, false_implies, not_true_eq_false, not_false_eq_true, eq_self, or_true, true_or, false_or, or_false, false_and, and_false, Option.toList_some, Option.toList_none, List.cons_append, List.nil_append, n10, n01, e10, e01, e08, e18, e28, e38, e48, e58, e68, e78, lt_lit, nI_add, pk_mul, n_le, n_lt, n_eq, n_cl, n_in, n_sub, n_div, n_rem, n_ite, Nat.zero_add, k_0, k_51]
  refine Call.mono h ?_
  intro r hi1 hl1 hr
  obtain ⟨v, e, q⟩ := hr
  subst e
  simp (disch := omega) only [b_Law_law_1069, true_and, and_true, true_implies, false_implies, not_true_eq_false, not_false_eq_true, eq_self, or_true, true_or, false_or, or_false, false_and, and_false, Option.toList_some, Option.toList_none, List.cons_append, List.nil_append, n10, n01, e10, e01, e08, e18, e28, e38, e48, e58, e68, e78, lt_lit, nI_add, pk_mul, n_le, n_lt, n_eq, n_cl, n_in, n_sub, n_div, n_rem, n_ite, Nat.zero_add, k_0, k_51]
  refine Call.mono q ?_
  intro r' hi2 hl2 hr
  obtain ⟨e, q2⟩ := hr
  subst e
  simp (disch := omega) only [b_Law_law_1078, b_Law_law_1596, true_and, and_true, true_implies, false_implies, not_true_eq_false, not_false_eq_true, eq_self, or_true, true_or, false_or, or_false, false_and, and_false, Option.toList_some, Option.toList_none, List.cons_append, List.nil_append, n10, n01, e10, e01, e08, e18, e28, e38, e48, e58, e68, e78, lt_lit, nI_add, pk_mul, n_le, n_lt, n_eq, n_cl, n_in, n_sub, n_div, n_rem, n_ite, Nat.zero_add, k_0, k_51]
  exact hn hi2 hl2 q2
set_option maxRecDepth 20000 in
theorem law_31 (hi6 : i + 6 ≤ xN u) (hN : xN u ≤ 3072) (h : Call u 88 [.ref 0] hi hl (fun r hi1 hl1 => ∃ v, r = some (.int v) ∧ Call u 181 [.ref 51] hi1 hl1 (fun r' hi2 hl2 => r' = some (.int v) ∧ Q hi2 hl2))) (hn : ∀ hi2 hl2, Q hi2 hl2 → Wp u 228 18 [.ref 99, .ref 0, .ref 51, .int (nI (i + 6))] [] hi2 hl2 K) : vc u (n + 150) 228 1083 [.ref 99, .ref 0, .ref 51, .int (nI i)] [] hi hl K := by
  simp (disch := omega) only [b_Law_law_1083, true_and, and_true, true_implies, false_implies, not_true_eq_false, not_false_eq_true, eq_self, or_true, true_or, false_or, or_false, false_and, and_false, Option.toList_some, Option.toList_none, List.cons_append, List.nil_append, n10, n01, e10, e01, e08, e18, e28, e38, e48, e58, e68, e78, lt_lit, nI_add, pk_mul, n_le, n_lt, n_eq, n_cl, n_in, n_sub, n_div, n_rem, n_ite, Nat.zero_add, k_0, k_51]
  refine Call.mono h ?_
  intro r hi1 hl1 hr
  obtain ⟨v, e, q⟩ := hr
  subst e
  simp (disch := omega) only [b_Law_law_1087, true_and, and_true, true_implies, false_implies, not_true_eq_false, not_false_eq_true, eq_self, or_true, true_or, false_or, or_false, false_and, and_false, Option.toList_some, Option.toList_none, List.cons_append, List.nil_append, n10, n01, e10, e01, e08, e18, e28, e38, e48, e58, e68, e78, lt_lit, nI_add, pk_mul, n_le, n_lt, n_eq, n_cl, n_in, n_sub, n_div, n_rem, n_ite, Nat.zero_add, k_0, k_51]
  refine Call.mono q ?_
  intro r' hi2 hl2 hr
  obtain ⟨e, q2⟩ := hr
  subst e
  simp (disch := omega) only [b_Law_law_1091, b_Law_law_1596, true_and, and_true, true_implies, false_implies, not_true_eq_false, not_false_eq_true, eq_self, or_true, true_or, false_or, or_false, false_and, and_false, Option.toList_some, Option.toList_none, List.cons_append, List.nil_append, n10, n01, e10, e01, e08, e18, e28, e38, e48, e58, e68, e78, lt_lit, nI_add, pk_mul, n_le, n_lt, n_eq, n_cl, n_in, n_sub, n_div, n_rem, n_ite, Nat.zero_add, k_0, k_51]
  exact hn hi2 hl2 q2
set_option maxRecDepth 20000 in
theorem law_32 (hi6 : i + 6 ≤ xN u) (hN : xN u ≤ 3072) (h : Call u 89 [.ref 0, .int (xX u (i + 1))] hi hl (fun r hi1 hl1 => ∃ v, r = some (.int v) ∧ Call u 182 [.ref 51, .int (xX u (i + 1))] hi1 hl1 (fun r' hi2 hl2 => r' = some (.int v) ∧ Q hi2 hl2))) (hn : ∀ hi2 hl2, Q hi2 hl2 → Wp u 228 18 [.ref 99, .ref 0, .ref 51, .int (nI (i + 6))] [] hi2 hl2 K) : vc u (n + 150) 228 1096 [.ref 99, .ref 0, .ref 51, .int (nI i)] [] hi hl K := by
  simp (disch := omega) only [b_Law_law_1096, true_and, and_true, true_implies, false_implies, not_true_eq_false, not_false_eq_true, eq_self, or_true, true_or, false_or, or_false, false_and, and_false, Option.toList_some, Option.toList_none, List.cons_append, List.nil_append, n10, n01, e10, e01, e08, e18, e28, e38, e48, e58, e68, e78, lt_lit, nI_add, pk_mul, n_le, n_lt, n_eq, n_cl, n_in, n_sub, n_div, n_rem, n_ite, Nat.zero_add, k_0, k_51]
  refine Call.mono h ?_
  intro r hi1 hl1 hr
  obtain ⟨v, e, q⟩ := hr
  subst e
  simp (disch := omega) only [b_Law_law_1105, true_and, and_true, true_implies, false_implies, not_true_eq_false, not_false_eq_true, eq_self, or_true, true_or, false_or, or_false, false_and, and_false, Option.toList_some, Option.toList_none, List.cons_append, List.nil_append, n10, n01, e10, e01, e08, e18, e28, e38, e48, e58, e68, e78, lt_lit, nI_add, pk_mul, n_le, n_lt, n_eq, n_cl, n_in, n_sub, n_div, n_rem, n_ite, Nat.zero_add, k_0, k_51]
  refine Call.mono q ?_
  intro r' hi2 hl2 hr
  obtain ⟨e, q2⟩ := hr
  subst e
  simp (disch := omega) only [b_Law_law_1114, b_Law_law_1596, true_and, and_true, true_implies, false_implies, not_true_eq_false, not_false_eq_true, eq_self, or_true, true_or, false_or, or_false, false_and, and_false, Option.toList_some, Option.toList_none, List.cons_append, List.nil_append, n10, n01, e10, e01, e08, e18, e28, e38, e48, e58, e68, e78, lt_lit, nI_add, pk_mul, n_le, n_lt, n_eq, n_cl, n_in, n_sub, n_div, n_rem, n_ite, Nat.zero_add, k_0, k_51]
  exact hn hi2 hl2 q2
set_option maxRecDepth 20000 in
theorem law_33 (hi6 : i + 6 ≤ xN u) (hN : xN u ≤ 3072) (h : Call u 90 [.ref 0, .int (xX u (i + 1)), .int (xX u (i + 2)), .int (xX u (i + 3)), .int (xX u (i + 4))] hi hl (fun r hi1 hl1 => ∃ v, r = some (.long v) ∧ Call u 184 [.ref 51, .int (xX u (i + 1)), .int (xX u (i + 2)), .int (xX u (i + 3)), .int (xX u (i + 4))] hi1 hl1 (fun r' hi2 hl2 => r' = some (.long v) ∧ Q hi2 hl2))) (hn : ∀ hi2 hl2, Q hi2 hl2 → Wp u 228 18 [.ref 99, .ref 0, .ref 51, .int (nI (i + 6))] [] hi2 hl2 K) : vc u (n + 150) 228 1119 [.ref 99, .ref 0, .ref 51, .int (nI i)] [] hi hl K := by
  simp (disch := omega) only [b_Law_law_1119, true_and, and_true, true_implies, false_implies, not_true_eq_false, not_false_eq_true, eq_self, or_true, true_or, false_or, or_false, false_and, and_false, Option.toList_some, Option.toList_none, List.cons_append, List.nil_append, n10, n01, e10, e01, e08, e18, e28, e38, e48, e58, e68, e78, lt_lit, nI_add, pk_mul, n_le, n_lt, n_eq, n_cl, n_in, n_sub, n_div, n_rem, n_ite, Nat.zero_add, k_0, k_51]
  refine Call.mono h ?_
  intro r hi1 hl1 hr
  obtain ⟨v, e, q⟩ := hr
  subst e
  simp (disch := omega) only [b_Law_law_1143, true_and, and_true, true_implies, false_implies, not_true_eq_false, not_false_eq_true, eq_self, or_true, true_or, false_or, or_false, false_and, and_false, Option.toList_some, Option.toList_none, List.cons_append, List.nil_append, n10, n01, e10, e01, e08, e18, e28, e38, e48, e58, e68, e78, lt_lit, nI_add, pk_mul, n_le, n_lt, n_eq, n_cl, n_in, n_sub, n_div, n_rem, n_ite, Nat.zero_add, k_0, k_51]
  refine Call.mono q ?_
  intro r' hi2 hl2 hr
  obtain ⟨e, q2⟩ := hr
  subst e
  simp (disch := omega) only [b_Law_law_1167, b_Law_law_1596, true_and, and_true, true_implies, false_implies, not_true_eq_false, not_false_eq_true, eq_self, or_true, true_or, false_or, or_false, false_and, and_false, Option.toList_some, Option.toList_none, List.cons_append, List.nil_append, n10, n01, e10, e01, e08, e18, e28, e38, e48, e58, e68, e78, lt_lit, nI_add, pk_mul, n_le, n_lt, n_eq, n_cl, n_in, n_sub, n_div, n_rem, n_ite, Nat.zero_add, k_0, k_51, lgz]
  exact hn hi2 hl2 q2
set_option maxRecDepth 20000 in
theorem law_34 (hi6 : i + 6 ≤ xN u) (hN : xN u ≤ 3072) (h : Call u 92 [.ref 0, .int (xX u (i + 1)), .int (xX u (i + 2))] hi hl (fun r hi1 hl1 => ∃ v, r = some (.int v) ∧ Call u 185 [.ref 51, .int (xX u (i + 1)), .int (xX u (i + 2))] hi1 hl1 (fun r' hi2 hl2 => r' = some (.int v) ∧ Q hi2 hl2))) (hn : ∀ hi2 hl2, Q hi2 hl2 → Wp u 228 18 [.ref 99, .ref 0, .ref 51, .int (nI (i + 6))] [] hi2 hl2 K) : vc u (n + 150) 228 1173 [.ref 99, .ref 0, .ref 51, .int (nI i)] [] hi hl K := by
  simp (disch := omega) only [b_Law_law_1173, true_and, and_true, true_implies, false_implies, not_true_eq_false, not_false_eq_true, eq_self, or_true, true_or, false_or, or_false, false_and, and_false, Option.toList_some, Option.toList_none, List.cons_append, List.nil_append, n10, n01, e10, e01, e08, e18, e28, e38, e48, e58, e68, e78, lt_lit, nI_add, pk_mul, n_le, n_lt, n_eq, n_cl, n_in, n_sub, n_div, n_rem, n_ite, Nat.zero_add, k_0, k_51]
  refine Call.mono h ?_
  intro r hi1 hl1 hr
  obtain ⟨v, e, q⟩ := hr
  subst e
  simp (disch := omega) only [b_Law_law_1187, true_and, and_true, true_implies, false_implies, not_true_eq_false, not_false_eq_true, eq_self, or_true, true_or, false_or, or_false, false_and, and_false, Option.toList_some, Option.toList_none, List.cons_append, List.nil_append, n10, n01, e10, e01, e08, e18, e28, e38, e48, e58, e68, e78, lt_lit, nI_add, pk_mul, n_le, n_lt, n_eq, n_cl, n_in, n_sub, n_div, n_rem, n_ite, Nat.zero_add, k_0, k_51]
  refine Call.mono q ?_
  intro r' hi2 hl2 hr
  obtain ⟨e, q2⟩ := hr
  subst e
  simp (disch := omega) only [b_Law_law_1201, b_Law_law_1596, true_and, and_true, true_implies, false_implies, not_true_eq_false, not_false_eq_true, eq_self, or_true, true_or, false_or, or_false, false_and, and_false, Option.toList_some, Option.toList_none, List.cons_append, List.nil_append, n10, n01, e10, e01, e08, e18, e28, e38, e48, e58, e68, e78, lt_lit, nI_add, pk_mul, n_le, n_lt, n_eq, n_cl, n_in, n_sub, n_div, n_rem, n_ite, Nat.zero_add, k_0, k_51]
  exact hn hi2 hl2 q2
set_option maxRecDepth 20000 in
theorem law_35 (hi6 : i + 6 ≤ xN u) (hN : xN u ≤ 3072) (h : Call u 93 [.ref 0] hi hl (fun r hi1 hl1 => ∃ v, r = some (.int v) ∧ Call u 186 [.ref 51] hi1 hl1 (fun r' hi2 hl2 => r' = some (.int v) ∧ Q hi2 hl2))) (hn : ∀ hi2 hl2, Q hi2 hl2 → Wp u 228 18 [.ref 99, .ref 0, .ref 51, .int (nI (i + 6))] [] hi2 hl2 K) : vc u (n + 150) 228 1206 [.ref 99, .ref 0, .ref 51, .int (nI i)] [] hi hl K := by
  simp (disch := omega) only [b_Law_law_1206, true_and, and_true, true_implies, false_implies, not_true_eq_false, not_false_eq_true, eq_self, or_true, true_or, false_or, or_false, false_and, and_false, Option.toList_some, Option.toList_none, List.cons_append, List.nil_append, n10, n01, e10, e01, e08, e18, e28, e38, e48, e58, e68, e78, lt_lit, nI_add, pk_mul, n_le, n_lt, n_eq, n_cl, n_in, n_sub, n_div, n_rem, n_ite, Nat.zero_add, k_0, k_51]
  refine Call.mono h ?_
  intro r hi1 hl1 hr
  obtain ⟨v, e, q⟩ := hr
  subst e
  simp (disch := omega) only [b_Law_law_1210, true_and, and_true, true_implies, false_implies, not_true_eq_false, not_false_eq_true, eq_self, or_true, true_or, false_or, or_false, false_and, and_false, Option.toList_some, Option.toList_none, List.cons_append, List.nil_append, n10, n01, e10, e01, e08, e18, e28, e38, e48, e58, e68, e78, lt_lit, nI_add, pk_mul, n_le, n_lt, n_eq, n_cl, n_in, n_sub, n_div, n_rem, n_ite, Nat.zero_add, k_0, k_51]
  refine Call.mono q ?_
  intro r' hi2 hl2 hr
  obtain ⟨e, q2⟩ := hr
  subst e
  simp (disch := omega) only [b_Law_law_1214, b_Law_law_1596, true_and, and_true, true_implies, false_implies, not_true_eq_false, not_false_eq_true, eq_self, or_true, true_or, false_or, or_false, false_and, and_false, Option.toList_some, Option.toList_none, List.cons_append, List.nil_append, n10, n01, e10, e01, e08, e18, e28, e38, e48, e58, e68, e78, lt_lit, nI_add, pk_mul, n_le, n_lt, n_eq, n_cl, n_in, n_sub, n_div, n_rem, n_ite, Nat.zero_add, k_0, k_51]
  exact hn hi2 hl2 q2
set_option maxRecDepth 20000 in
theorem law_36 (hi6 : i + 6 ≤ xN u) (hN : xN u ≤ 3072) (h : Call u 94 [.ref 0] hi hl (fun r hi1 hl1 => ∃ v, r = some (.int v) ∧ Call u 199 [.ref 51] hi1 hl1 (fun r' hi2 hl2 => r' = some (.int v) ∧ Q hi2 hl2))) (hn : ∀ hi2 hl2, Q hi2 hl2 → Wp u 228 18 [.ref 99, .ref 0, .ref 51, .int (nI (i + 6))] [] hi2 hl2 K) : vc u (n + 150) 228 1219 [.ref 99, .ref 0, .ref 51, .int (nI i)] [] hi hl K := by
  simp (disch := omega) only [b_Law_law_1219, true_and, and_true, true_implies, false_implies, not_true_eq_false, not_false_eq_true, eq_self, or_true, true_or, false_or, or_false, false_and, and_false, Option.toList_some, Option.toList_none, List.cons_append, List.nil_append, n10, n01, e10, e01, e08, e18, e28, e38, e48, e58, e68, e78, lt_lit, nI_add, pk_mul, n_le, n_lt, n_eq, n_cl, n_in, n_sub, n_div, n_rem, n_ite, Nat.zero_add, k_0, k_51]
  refine Call.mono h ?_
  intro r hi1 hl1 hr
  obtain ⟨v, e, q⟩ := hr
  subst e
  simp (disch := omega) only [b_Law_law_1223, true_and, and_true, true_implies, false_implies, not_true_eq_false, not_false_eq_true, eq_self, or_true, true_or, false_or, or_false, false_and, and_false, Option.toList_some, Option.toList_none, List.cons_append, List.nil_append, n10, n01, e10, e01, e08, e18, e28, e38, e48, e58, e68, e78, lt_lit, nI_add, pk_mul, n_le, n_lt, n_eq, n_cl, n_in, n_sub, n_div, n_rem, n_ite, Nat.zero_add, k_0, k_51]
  refine Call.mono q ?_
  intro r' hi2 hl2 hr
  obtain ⟨e, q2⟩ := hr
  subst e
  simp (disch := omega) only [b_Law_law_1227, b_Law_law_1596, true_and, and_true, true_implies, false_implies, not_true_eq_false, not_false_eq_true, eq_self, or_true, true_or, false_or, or_false, false_and, and_false, Option.toList_some, Option.toList_none, List.cons_append, List.nil_append, n10, n01, e10, e01, e08, e18, e28, e38, e48, e58, e68, e78, lt_lit, nI_add, pk_mul, n_le, n_lt, n_eq, n_cl, n_in, n_sub, n_div, n_rem, n_ite, Nat.zero_add, k_0, k_51]
  exact hn hi2 hl2 q2
set_option maxRecDepth 20000 in
theorem law_37 (hi6 : i + 6 ≤ xN u) (hN : xN u ≤ 3072) (h : Call u 95 [.ref 0, .int (xX u (i + 1)), .int (xX u (i + 2)), .int (xX u (i + 3))] hi hl (fun r hi1 hl1 => ∃ v, r = some (.int v) ∧ Call u 202 [.ref 51, .int (xX u (i + 1)), .int (xX u (i + 2)), .int (xX u (i + 3))] hi1 hl1 (fun r' hi2 hl2 => r' = some (.int v) ∧ Q hi2 hl2))) (hn : ∀ hi2 hl2, Q hi2 hl2 → Wp u 228 18 [.ref 99, .ref 0, .ref 51, .int (nI (i + 6))] [] hi2 hl2 K) : vc u (n + 150) 228 1232 [.ref 99, .ref 0, .ref 51, .int (nI i)] [] hi hl K := by
  simp (disch := omega) only [b_Law_law_1232, true_and, and_true, true_implies, false_implies, not_true_eq_false, not_false_eq_true, eq_self, or_true, true_or, false_or, or_false, false_and, and_false, Option.toList_some, Option.toList_none, List.cons_append, List.nil_append, n10, n01, e10, e01, e08, e18, e28, e38, e48, e58, e68, e78, lt_lit, nI_add, pk_mul, n_le, n_lt, n_eq, n_cl, n_in, n_sub, n_div, n_rem, n_ite, Nat.zero_add, k_0, k_51]
  refine Call.mono h ?_
  intro r hi1 hl1 hr
  obtain ⟨v, e, q⟩ := hr
  subst e
  simp (disch := omega) only [b_Law_law_1251, true_and, and_true, true_implies, false_implies, not_true_eq_false, not_false_eq_true, eq_self, or_true, true_or, false_or, or_false, false_and, and_false, Option.toList_some, Option.toList_none, List.cons_append, List.nil_append, n10, n01, e10, e01, e08, e18, e28, e38, e48, e58, e68, e78, lt_lit, nI_add, pk_mul, n_le, n_lt, n_eq, n_cl, n_in, n_sub, n_div, n_rem, n_ite, Nat.zero_add, k_0, k_51]
  refine Call.mono q ?_
  intro r' hi2 hl2 hr
  obtain ⟨e, q2⟩ := hr
  subst e
  simp (disch := omega) only [b_Law_law_1270, b_Law_law_1596, true_and, and_true, true_implies, false_implies, not_true_eq_false, not_false_eq_true, eq_self, or_true, true_or, false_or, or_false, false_and, and_false, Option.toList_some, Option.toList_none, List.cons_append, List.nil_append, n10, n01, e10, e01, e08, e18, e28, e38, e48, e58, e68, e78, lt_lit, nI_add, pk_mul, n_le, n_lt, n_eq, n_cl, n_in, n_sub, n_div, n_rem, n_ite, Nat.zero_add, k_0, k_51]
  exact hn hi2 hl2 q2
set_option maxRecDepth 20000 in
theorem law_38 (hi6 : i + 6 ≤ xN u) (hN : xN u ≤ 3072) (h : ∀ w, Call u 96 [.ref 0, .int (xX u (i + 1)), .int (xX u (i + 2)), .long w] hi hl (fun r hi1 hl1 => ∃ v, r = some (.long v) ∧ Call u 203 [.ref 51, .int (xX u (i + 1)), .int (xX u (i + 2)), .long w] hi1 hl1 (fun r' hi2 hl2 => r' = some (.long v) ∧ Q hi2 hl2))) (hn : ∀ hi2 hl2, Q hi2 hl2 → Wp u 228 18 [.ref 99, .ref 0, .ref 51, .int (nI (i + 6))] [] hi2 hl2 K) : vc u (n + 150) 228 1275 [.ref 99, .ref 0, .ref 51, .int (nI i)] [] hi hl K := by
  simp (disch := omega) only [b_Law_law_1275, true_and, and_true, true_implies, false_implies, not_true_eq_false, not_false_eq_true, eq_self, or_true, true_or, false_or, or_false, false_and, and_false, Option.toList_some, Option.toList_none, List.cons_append, List.nil_append, n10, n01, e10, e01, e08, e18, e28, e38, e48, e58, e68, e78, lt_lit, nI_add, pk_mul, n_le, n_lt, n_eq, n_cl, n_in, n_sub, n_div, n_rem, n_ite, Nat.zero_add, k_0, k_51]
  refine Call.mono (h _) ?_
  intro r hi1 hl1 hr
  obtain ⟨v, e, q⟩ := hr
  subst e
  simp (disch := omega) only [b_Law_law_1309, true_and, and_true, true_implies, false_implies, not_true_eq_false, not_false_eq_true, eq_self, or_true, true_or, false_or, or_false, false_and, and_false, Option.toList_some, Option.toList_none, List.cons_append, List.nil_append, n10, n01, e10, e01, e08, e18, e28, e38, e48, e58, e68, e78, lt_lit, nI_add, pk_mul, n_le, n_lt, n_eq, n_cl, n_in, n_sub, n_div, n_rem, n_ite, Nat.zero_add, k_0, k_51]
  refine Call.mono q ?_
  intro r' hi2 hl2 hr
  obtain ⟨e, q2⟩ := hr
  subst e
  simp (disch := omega) only [b_Law_law_1343, b_Law_law_1596, true_and, and_true, true_implies, false_implies, not_true_eq_false, not_false_eq_true, eq_self, or_true, true_or, false_or, or_false, false_and, and_false, Option.toList_some, Option.toList_none, List.cons_append, List.nil_append, n10, n01, e10, e01, e08, e18, e28, e38, e48, e58, e68, e78, lt_lit, nI_add, pk_mul, n_le, n_lt, n_eq, n_cl, n_in, n_sub, n_div, n_rem, n_ite, Nat.zero_add, k_0, k_51, lgz]
  exact hn hi2 hl2 q2
set_option maxRecDepth 20000 in
theorem law_39 (hi6 : i + 6 ≤ xN u) (hN : xN u ≤ 3072) (h : Call u 97 [.ref 0, .int (xX u (i + 1)), .int (xX u (i + 2)), .int (xX u (i + 3)), .int (xX u (i + 4)), .int (xX u (i + 5))] hi hl (fun r hi1 hl1 => ∃ v, r = some (.int v) ∧ Call u 204 [.ref 51, .int (xX u (i + 1)), .int (xX u (i + 2)), .int (xX u (i + 3)), .int (xX u (i + 4)), .int (xX u (i + 5))] hi1 hl1 (fun r' hi2 hl2 => r' = some (.int v) ∧ Q hi2 hl2))) (hn : ∀ hi2 hl2, Q hi2 hl2 → Wp u 228 18 [.ref 99, .ref 0, .ref 51, .int (nI (i + 6))] [] hi2 hl2 K) : vc u (n + 150) 228 1349 [.ref 99, .ref 0, .ref 51, .int (nI i)] [] hi hl K := by
  simp (disch := omega) only [b_Law_law_1349, true_and, and_true, true_implies, false_implies, not_true_eq_false, not_false_eq_true, eq_self, or_true, true_or, false_or, or_false, false_and, and_false, Option.toList_some, Option.toList_none, List.cons_append, List.nil_append, n10, n01, e10, e01, e08, e18, e28, e38, e48, e58, e68, e78, lt_lit, nI_add, pk_mul, n_le, n_lt, n_eq, n_cl, n_in, n_sub, n_div, n_rem, n_ite, Nat.zero_add, k_0, k_51]
  refine Call.mono h ?_
  intro r hi1 hl1 hr
  obtain ⟨v, e, q⟩ := hr
  subst e
  simp (disch := omega) only [b_Law_law_1378, true_and, and_true, true_implies, false_implies, not_true_eq_false, not_false_eq_true, eq_self, or_true, true_or, false_or, or_false, false_and, and_false, Option.toList_some, Option.toList_none, List.cons_append, List.nil_append, n10, n01, e10, e01, e08, e18, e28, e38, e48, e58, e68, e78, lt_lit, nI_add, pk_mul, n_le, n_lt, n_eq, n_cl, n_in, n_sub, n_div, n_rem, n_ite, Nat.zero_add, k_0, k_51]
  refine Call.mono q ?_
  intro r' hi2 hl2 hr
  obtain ⟨e, q2⟩ := hr
  subst e
  simp (disch := omega) only [b_Law_law_1407, b_Law_law_1596, true_and, and_true, true_implies, false_implies, not_true_eq_false, not_false_eq_true, eq_self, or_true, true_or, false_or, or_false, false_and, and_false, Option.toList_some, Option.toList_none, List.cons_append, List.nil_append, n10, n01, e10, e01, e08, e18, e28, e38, e48, e58, e68, e78, lt_lit, nI_add, pk_mul, n_le, n_lt, n_eq, n_cl, n_in, n_sub, n_div, n_rem, n_ite, Nat.zero_add, k_0, k_51]
  exact hn hi2 hl2 q2
set_option maxRecDepth 20000 in
theorem law_40 (hi6 : i + 6 ≤ xN u) (hN : xN u ≤ 3072) (h : Call u 98 [.ref 0, .int (xX u (i + 1)), .int (xX u (i + 2))] hi hl (fun r hi1 hl1 => ∃ v, r = some (.int v) ∧ Call u 205 [.ref 51, .int (xX u (i + 1)), .int (xX u (i + 2))] hi1 hl1 (fun r' hi2 hl2 => r' = some (.int v) ∧ Q hi2 hl2))) (hn : ∀ hi2 hl2, Q hi2 hl2 → Wp u 228 18 [.ref 99, .ref 0, .ref 51, .int (nI (i + 6))] [] hi2 hl2 K) : vc u (n + 150) 228 1412 [.ref 99, .ref 0, .ref 51, .int (nI i)] [] hi hl K := by
  simp (disch := omega) only [b_Law_law_1412, true_and, and_true, true_implies, false_implies, not_true_eq_false, not_false_eq_true, eq_self, or_true, true_or, false_or, or_false, false_and, and_false, Option.toList_some, Option.toList_none, List.cons_append, List.nil_append, n10, n01, e10, e01, e08, e18, e28, e38, e48, e58, e68, e78, lt_lit, nI_add, pk_mul, n_le, n_lt, n_eq, n_cl, n_in, n_sub, n_div, n_rem, n_ite, Nat.zero_add, k_0, k_51]
  refine Call.mono h ?_
  intro r hi1 hl1 hr
  obtain ⟨v, e, q⟩ := hr
  subst e
  simp (disch := omega) only [b_Law_law_1426, true_and, and_true, true_implies, false_implies, not_true_eq_false, not_false_eq_true, eq_self, or_true, true_or, false_or, or_false, false_and, and_false, Option.toList_some, Option.toList_none, List.cons_append, List.nil_append, n10, n01, e10, e01, e08, e18, e28, e38, e48, e58, e68, e78, lt_lit, nI_add, pk_mul, n_le, n_lt, n_eq, n_cl, n_in, n_sub, n_div, n_rem, n_ite, Nat.zero_add, k_0, k_51]
  refine Call.mono q ?_
  intro r' hi2 hl2 hr
  obtain ⟨e, q2⟩ := hr
  subst e
  simp (disch := omega) only [b_Law_law_1440, b_Law_law_1596, true_and, and_true, true_implies, false_implies, not_true_eq_false, not_false_eq_true, eq_self, or_true, true_or, false_or, or_false, false_and, and_false, Option.toList_some, Option.toList_none, List.cons_append, List.nil_append, n10, n01, e10, e01, e08, e18, e28, e38, e48, e58, e68, e78, lt_lit, nI_add, pk_mul, n_le, n_lt, n_eq, n_cl, n_in, n_sub, n_div, n_rem, n_ite, Nat.zero_add, k_0, k_51]
  exact hn hi2 hl2 q2
set_option maxRecDepth 20000 in
theorem law_41 (hi6 : i + 6 ≤ xN u) (hN : xN u ≤ 3072) (h : Call u 99 [.ref 0, .int (xX u (i + 1)), .int (xX u (i + 2))] hi hl (fun r hi1 hl1 => ∃ v, r = some (.int v) ∧ Call u 207 [.ref 51, .int (xX u (i + 1)), .int (xX u (i + 2))] hi1 hl1 (fun r' hi2 hl2 => r' = some (.int v) ∧ Q hi2 hl2))) (hn : ∀ hi2 hl2, Q hi2 hl2 → Wp u 228 18 [.ref 99, .ref 0, .ref 51, .int (nI (i + 6))] [] hi2 hl2 K) : vc u (n + 150) 228 1445 [.ref 99, .ref 0, .ref 51, .int (nI i)] [] hi hl K := by
  simp (disch := omega) only [b_Law_law_1445, true_and, and_true, true_implies, false_implies, not_true_eq_false, not_false_eq_true, eq_self, or_true, true_or, false_or, or_false, false_and, and_false, Option.toList_some, Option.toList_none, List.cons_append, List.nil_append, n10, n01, e10, e01, e08, e18, e28, e38, e48, e58, e68, e78, lt_lit, nI_add, pk_mul, n_le, n_lt, n_eq, n_cl, n_in, n_sub, n_div, n_rem, n_ite, Nat.zero_add, k_0, k_51]
  refine Call.mono h ?_
  intro r hi1 hl1 hr
  obtain ⟨v, e, q⟩ := hr
  subst e
  simp (disch := omega) only [b_Law_law_1459, true_and, and_true, true_implies, false_implies, not_true_eq_false, not_false_eq_true, eq_self, or_true, true_or, false_or, or_false, false_and, and_false, Option.toList_some, Option.toList_none, List.cons_append, List.nil_append, n10, n01, e10, e01, e08, e18, e28, e38, e48, e58, e68, e78, lt_lit, nI_add, pk_mul, n_le, n_lt, n_eq, n_cl, n_in, n_sub, n_div, n_rem, n_ite, Nat.zero_add, k_0, k_51]
  refine Call.mono q ?_
  intro r' hi2 hl2 hr
  obtain ⟨e, q2⟩ := hr
  subst e
  simp (disch := omega) only [b_Law_law_1473, b_Law_law_1596, true_and, and_true, true_implies, false_implies, not_true_eq_false, not_false_eq_true, eq_self, or_true, true_or, false_or, or_false, false_and, and_false, Option.toList_some, Option.toList_none, List.cons_append, List.nil_append, n10, n01, e10, e01, e08, e18, e28, e38, e48, e58, e68, e78, lt_lit, nI_add, pk_mul, n_le, n_lt, n_eq, n_cl, n_in, n_sub, n_div, n_rem, n_ite, Nat.zero_add, k_0, k_51]
  exact hn hi2 hl2 q2
set_option maxRecDepth 20000 in
theorem law_42 (hi6 : i + 6 ≤ xN u) (hN : xN u ≤ 3072) (h : Call u 100 [.ref 0, .int (xX u (i + 1)), .int (xX u (i + 2))] hi hl (fun r hi1 hl1 => ∃ v, r = some (.int v) ∧ Call u 208 [.ref 51, .int (xX u (i + 1)), .int (xX u (i + 2))] hi1 hl1 (fun r' hi2 hl2 => r' = some (.int v) ∧ Q hi2 hl2))) (hn : ∀ hi2 hl2, Q hi2 hl2 → Wp u 228 18 [.ref 99, .ref 0, .ref 51, .int (nI (i + 6))] [] hi2 hl2 K) : vc u (n + 150) 228 1478 [.ref 99, .ref 0, .ref 51, .int (nI i)] [] hi hl K := by
  simp (disch := omega) only [b_Law_law_1478, true_and, and_true, true_implies, false_implies, not_true_eq_false, not_false_eq_true, eq_self, or_true, true_or, false_or, or_false, false_and, and_false, Option.toList_some, Option.toList_none, List.cons_append, List.nil_append, n10, n01, e10, e01, e08, e18, e28, e38, e48, e58, e68, e78, lt_lit, nI_add, pk_mul, n_le, n_lt, n_eq, n_cl, n_in, n_sub, n_div, n_rem, n_ite, Nat.zero_add, k_0, k_51]
  refine Call.mono h ?_
  intro r hi1 hl1 hr
  obtain ⟨v, e, q⟩ := hr
  subst e
  simp (disch := omega) only [b_Law_law_1492, true_and, and_true, true_implies, false_implies, not_true_eq_false, not_false_eq_true, eq_self, or_true, true_or, false_or, or_false, false_and, and_false, Option.toList_some, Option.toList_none, List.cons_append, List.nil_append, n10, n01, e10, e01, e08, e18, e28, e38, e48, e58, e68, e78, lt_lit, nI_add, pk_mul, n_le, n_lt, n_eq, n_cl, n_in, n_sub, n_div, n_rem, n_ite, Nat.zero_add, k_0, k_51]
  refine Call.mono q ?_
  intro r' hi2 hl2 hr
  obtain ⟨e, q2⟩ := hr
  subst e
  simp (disch := omega) only [b_Law_law_1506, b_Law_law_1596, true_and, and_true, true_implies, false_implies, not_true_eq_false, not_false_eq_true, eq_self, or_true, true_or, false_or, or_false, false_and, and_false, Option.toList_some, Option.toList_none, List.cons_append, List.nil_append, n10, n01, e10, e01, e08, e18, e28, e38, e48, e58, e68, e78, lt_lit, nI_add, pk_mul, n_le, n_lt, n_eq, n_cl, n_in, n_sub, n_div, n_rem, n_ite, Nat.zero_add, k_0, k_51]
  exact hn hi2 hl2 q2
set_option maxRecDepth 20000 in
theorem law_43 (hi6 : i + 6 ≤ xN u) (hN : xN u ≤ 3072) (h : Call u 102 [.ref 0] hi hl (fun r hi1 hl1 => ∃ v, r = some (.int v) ∧ Call u 209 [.ref 51] hi1 hl1 (fun r' hi2 hl2 => r' = some (.int v) ∧ Q hi2 hl2))) (hn : ∀ hi2 hl2, Q hi2 hl2 → Wp u 228 18 [.ref 99, .ref 0, .ref 51, .int (nI (i + 6))] [] hi2 hl2 K) : vc u (n + 150) 228 1511 [.ref 99, .ref 0, .ref 51, .int (nI i)] [] hi hl K := by
  simp (disch := omega) only [b_Law_law_1511, true_and, and_true, true_implies, false_implies, not_true_eq_false, not_false_eq_true, eq_self, or_true, true_or, false_or, or_false, false_and, and_false, Option.toList_some, Option.toList_none, List.cons_append, List.nil_append, n10, n01, e10, e01, e08, e18, e28, e38, e48, e58, e68, e78, lt_lit, nI_add, pk_mul, n_le, n_lt, n_eq, n_cl, n_in, n_sub, n_div, n_rem, n_ite, Nat.zero_add, k_0, k_51]
  refine Call.mono h ?_
  intro r hi1 hl1 hr
  obtain ⟨v, e, q⟩ := hr
  subst e
  simp (disch := omega) only [b_Law_law_1515, true_and, and_true, true_implies, false_implies, not_true_eq_false, not_false_eq_true, eq_self, or_true, true_or, false_or, or_false, false_and, and_false, Option.toList_some, Option.toList_none, List.cons_append, List.nil_append, n10, n01, e10, e01, e08, e18, e28, e38, e48, e58, e68, e78, lt_lit, nI_add, pk_mul, n_le, n_lt, n_eq, n_cl, n_in, n_sub, n_div, n_rem, n_ite, Nat.zero_add, k_0, k_51]
  refine Call.mono q ?_
  intro r' hi2 hl2 hr
  obtain ⟨e, q2⟩ := hr
  subst e
  simp (disch := omega) only [b_Law_law_1519, b_Law_law_1596, true_and, and_true, true_implies, false_implies, not_true_eq_false, not_false_eq_true, eq_self, or_true, true_or, false_or, or_false, false_and, and_false, Option.toList_some, Option.toList_none, List.cons_append, List.nil_append, n10, n01, e10, e01, e08, e18, e28, e38, e48, e58, e68, e78, lt_lit, nI_add, pk_mul, n_le, n_lt, n_eq, n_cl, n_in, n_sub, n_div, n_rem, n_ite, Nat.zero_add, k_0, k_51]
  exact hn hi2 hl2 q2
set_option maxRecDepth 20000 in
theorem law_44 (hi6 : i + 6 ≤ xN u) (hN : xN u ≤ 3072) (h : Call u 103 [.ref 0] hi hl (fun r hi1 hl1 => ∃ v, r = some (.int v) ∧ Call u 210 [.ref 51] hi1 hl1 (fun r' hi2 hl2 => r' = some (.int v) ∧ Q hi2 hl2))) (hn : ∀ hi2 hl2, Q hi2 hl2 → Wp u 228 18 [.ref 99, .ref 0, .ref 51, .int (nI (i + 6))] [] hi2 hl2 K) : vc u (n + 150) 228 1524 [.ref 99, .ref 0, .ref 51, .int (nI i)] [] hi hl K := by
  simp (disch := omega) only [b_Law_law_1524, true_and, and_true, true_implies, false_implies, not_true_eq_false, not_false_eq_true, eq_self, or_true, true_or, false_or, or_false, false_and, and_false, Option.toList_some, Option.toList_none, List.cons_append, List.nil_append, n10, n01, e10, e01, e08, e18, e28, e38, e48, e58, e68, e78, lt_lit, nI_add, pk_mul, n_le, n_lt, n_eq, n_cl, n_in, n_sub, n_div, n_rem, n_ite, Nat.zero_add, k_0, k_51]
  refine Call.mono h ?_
  intro r hi1 hl1 hr
  obtain ⟨v, e, q⟩ := hr
  subst e
  simp (disch := omega) only [b_Law_law_1528, true_and, and_true, true_implies, false_implies, not_true_eq_false, not_false_eq_true, eq_self, or_true, true_or, false_or, or_false, false_and, and_false, Option.toList_some, Option.toList_none, List.cons_append, List.nil_append, n10, n01, e10, e01, e08, e18, e28, e38, e48, e58, e68, e78, lt_lit, nI_add, pk_mul, n_le, n_lt, n_eq, n_cl, n_in, n_sub, n_div, n_rem, n_ite, Nat.zero_add, k_0, k_51]
  refine Call.mono q ?_
  intro r' hi2 hl2 hr
  obtain ⟨e, q2⟩ := hr
  subst e
  simp (disch := omega) only [b_Law_law_1532, b_Law_law_1596, true_and, and_true, true_implies, false_implies, not_true_eq_false, not_false_eq_true, eq_self, or_true, true_or, false_or, or_false, false_and, and_false, Option.toList_some, Option.toList_none, List.cons_append, List.nil_append, n10, n01, e10, e01, e08, e18, e28, e38, e48, e58, e68, e78, lt_lit, nI_add, pk_mul, n_le, n_lt, n_eq, n_cl, n_in, n_sub, n_div, n_rem, n_ite, Nat.zero_add, k_0, k_51]
  exact hn hi2 hl2 q2
set_option maxRecDepth 20000 in
theorem law_45 (hi6 : i + 6 ≤ xN u) (hN : xN u ≤ 3072) (h : Call u 104 [.ref 0] hi hl (fun r hi1 hl1 => ∃ v, r = some (.int v) ∧ Call u 211 [.ref 51] hi1 hl1 (fun r' hi2 hl2 => r' = some (.int v) ∧ Q hi2 hl2))) (hn : ∀ hi2 hl2, Q hi2 hl2 → Wp u 228 18 [.ref 99, .ref 0, .ref 51, .int (nI (i + 6))] [] hi2 hl2 K) : vc u (n + 150) 228 1537 [.ref 99, .ref 0, .ref 51, .int (nI i)] [] hi hl K := by
  simp (disch := omega) only [b_Law_law_1537, true_and, and_true, true_implies, false_implies, not_true_eq_false, not_false_eq_true, eq_self, or_true, true_or, false_or, or_false, false_and, and_false, Option.toList_some, Option.toList_none, List.cons_append, List.nil_append, n10, n01, e10, e01, e08, e18, e28, e38, e48, e58, e68, e78, lt_lit, nI_add, pk_mul, n_le, n_lt, n_eq, n_cl, n_in, n_sub, n_div, n_rem, n_ite, Nat.zero_add, k_0, k_51]
  refine Call.mono h ?_
  intro r hi1 hl1 hr
  obtain ⟨v, e, q⟩ := hr
  subst e
  simp (disch := omega) only [b_Law_law_1541, true_and, and_true, true_implies, false_implies, not_true_eq_false, not_false_eq_true, eq_self, or_true, true_or, false_or, or_false, false_and, and_false, Option.toList_some, Option.toList_none, List.cons_append, List.nil_append, n10, n01, e10, e01, e08, e18, e28, e38, e48, e58, e68, e78, lt_lit, nI_add, pk_mul, n_le, n_lt, n_eq, n_cl, n_in, n_sub, n_div, n_rem, n_ite, Nat.zero_add, k_0, k_51]
  refine Call.mono q ?_
  intro r' hi2 hl2 hr
  obtain ⟨e, q2⟩ := hr
  subst e
  simp (disch := omega) only [b_Law_law_1545, b_Law_law_1596, true_and, and_true, true_implies, false_implies, not_true_eq_false, not_false_eq_true, eq_self, or_true, true_or, false_or, or_false, false_and, and_false, Option.toList_some, Option.toList_none, List.cons_append, List.nil_append, n10, n01, e10, e01, e08, e18, e28, e38, e48, e58, e68, e78, lt_lit, nI_add, pk_mul, n_le, n_lt, n_eq, n_cl, n_in, n_sub, n_div, n_rem, n_ite, Nat.zero_add, k_0, k_51]
  exact hn hi2 hl2 q2
set_option maxRecDepth 20000 in
theorem law_46 (hi6 : i + 6 ≤ xN u) (hN : xN u ≤ 3072) (h : Call u 105 [.ref 0, .int (xX u (i + 1))] hi hl (fun r hi1 hl1 => ∃ v, r = some (.int v) ∧ Call u 212 [.ref 51, .int (xX u (i + 1))] hi1 hl1 (fun r' hi2 hl2 => r' = some (.int v) ∧ Q hi2 hl2))) (hn : ∀ hi2 hl2, Q hi2 hl2 → Wp u 228 18 [.ref 99, .ref 0, .ref 51, .int (nI (i + 6))] [] hi2 hl2 K) : vc u (n + 150) 228 1550 [.ref 99, .ref 0, .ref 51, .int (nI i)] [] hi hl K := by
  simp (disch := omega) only [b_Law_law_1550, true_and, and_true, true_implies, false_implies, not_true_eq_false, not_false_eq_true, eq_self, or_true, true_or, false_or, or_false, false_and, and_false, Option.toList_some, Option.toList_none, List.cons_append, List.nil_append, n10, n01, e10, e01, e08, e18, e28, e38, e48, e58, e68, e78, lt_lit, nI_add, pk_mul, n_le, n_lt, n_eq, n_cl, n_in, n_sub, n_div, n_rem, n_ite, Nat.zero_add, k_0, k_51]
  refine Call.mono h ?_
  intro r hi1 hl1 hr
  obtain ⟨v, e, q⟩ := hr
  subst e
  simp (disch := omega) only [b_Law_law_1559, true_and, and_true, true_implies, false_implies, not_true_eq_false, not_false_eq_true, eq_self, or_true, true_or, false_or, or_false, false_and, and_false, Option.toList_some, Option.toList_none, List.cons_append, List.nil_append, n10, n01, e10, e01, e08, e18, e28, e38, e48, e58, e68, e78, lt_lit, nI_add, pk_mul, n_le, n_lt, n_eq, n_cl, n_in, n_sub, n_div, n_rem, n_ite, Nat.zero_add, k_0, k_51]
  refine Call.mono q ?_
  intro r' hi2 hl2 hr
  obtain ⟨e, q2⟩ := hr
  subst e
  simp (disch := omega) only [b_Law_law_1568, b_Law_law_1596, true_and, and_true, true_implies, false_implies, not_true_eq_false, not_false_eq_true, eq_self, or_true, true_or, false_or, or_false, false_and, and_false, Option.toList_some, Option.toList_none, List.cons_append, List.nil_append, n10, n01, e10, e01, e08, e18, e28, e38, e48, e58, e68, e78, lt_lit, nI_add, pk_mul, n_le, n_lt, n_eq, n_cl, n_in, n_sub, n_div, n_rem, n_ite, Nat.zero_add, k_0, k_51]
  exact hn hi2 hl2 q2
set_option maxRecDepth 20000 in
theorem law_47 (hi6 : i + 6 ≤ xN u) (hN : xN u ≤ 3072) (h : Call u 106 [.ref 0, .int (xX u (i + 1))] hi hl (fun r hi1 hl1 => ∃ v, r = some (.int v) ∧ Call u 213 [.ref 51, .int (xX u (i + 1))] hi1 hl1 (fun r' hi2 hl2 => r' = some (.int v) ∧ Q hi2 hl2))) (hn : ∀ hi2 hl2, Q hi2 hl2 → Wp u 228 18 [.ref 99, .ref 0, .ref 51, .int (nI (i + 6))] [] hi2 hl2 K) : vc u (n + 150) 228 1573 [.ref 99, .ref 0, .ref 51, .int (nI i)] [] hi hl K := by
  simp (disch := omega) only [b_Law_law_1573, true_and, and_true, true_implies, false_implies, not_true_eq_false, not_false_eq_true, eq_self, or_true, true_or, false_or, or_false, false_and, and_false, Option.toList_some, Option.toList_none, List.cons_append, List.nil_append, n10, n01, e10, e01, e08, e18, e28, e38, e48, e58, e68, e78, lt_lit, nI_add, pk_mul, n_le, n_lt, n_eq, n_cl, n_in, n_sub, n_div, n_rem, n_ite, Nat.zero_add, k_0, k_51]
  refine Call.mono h ?_
  intro r hi1 hl1 hr
  obtain ⟨v, e, q⟩ := hr
  subst e
  simp (disch := omega) only [b_Law_law_1582, true_and, and_true, true_implies, false_implies, not_true_eq_false, not_false_eq_true, eq_self, or_true, true_or, false_or, or_false, false_and, and_false, Option.toList_some, Option.toList_none, List.cons_append, List.nil_append, n10, n01, e10, e01, e08, e18, e28, e38, e48, e58, e68, e78, lt_lit, nI_add, pk_mul, n_le, n_lt, n_eq, n_cl, n_in, n_sub, n_div, n_rem, n_ite, Nat.zero_add, k_0, k_51]
  refine Call.mono q ?_
  intro r' hi2 hl2 hr
  obtain ⟨e, q2⟩ := hr
  subst e
  simp (disch := omega) only [b_Law_law_1591, b_Law_law_1596, true_and, and_true, true_implies, false_implies, not_true_eq_false, not_false_eq_true, eq_self, or_true, true_or, false_or, or_false, false_and, and_false, Option.toList_some, Option.toList_none, List.cons_append, List.nil_append, n10, n01, e10, e01, e08, e18, e28, e38, e48, e58, e68, e78, lt_lit, nI_add, pk_mul, n_le, n_lt, n_eq, n_cl, n_in, n_sub, n_div, n_rem, n_ite, Nat.zero_add, k_0, k_51]
  exact hn hi2 hl2 q2
theorem law_d (hi6 : i + 6 ≤ xN u) (hN : xN u ≤ 3072) (hn : Wp u 228 18 [.ref 99, .ref 0, .ref 51, .int (nI (i + 6))] [] hi hl K) : vc u (n + 150) 228 1596 [.ref 99, .ref 0, .ref 51, .int (nI i)] [] hi hl K := by
  simp (disch := omega) only [b_Law_law_1596, true_and, and_true, true_implies, false_implies, not_true_eq_false, not_false_eq_true, eq_self, or_true, true_or, false_or, or_false, false_and, and_false, Option.toList_some, Option.toList_none, List.cons_append, List.nil_append, n10, n01, e10, e01, e08, e18, e28, e38, e48, e58, e68, e78, lt_lit, nI_add, pk_mul, n_le, n_lt, n_eq, n_cl, n_in, n_sub, n_div, n_rem, n_ite, Nat.zero_add, k_0, k_51]
  exact hn
end L1
