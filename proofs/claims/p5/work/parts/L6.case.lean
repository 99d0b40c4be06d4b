section L1
variable {u : UV} {hi : HI} {hl : HL} {K : Option Value → HI → HL → Prop} {i n B' : Nat}
set_option maxRecDepth 20000 in
theorem law_0 (hi6 : i + 6 ≤ xN u) (hN : xN u ≤ 3072) (h : Pr u B' 54 124 [.int (xX u (i + 1)), .int (xX u (i + 2)), .int (xX u (i + 3))] hi hl) (hn : ∀ hi2 hl2, InvE B' hi2 hl2 → Wp u 228 18 [.ref 99, .ref 0, .ref 51, .int (nI (i + 6))] [] hi2 hl2 K) : vc u (n + 150) 228 240 [.ref 99, .ref 0, .ref 51, .int (nI i)] [] hi hl K := by
  unfold Pr at h
  simp (disch := omega) only [b_Law_law_240, true_and, and_true, true_implies, false_implies, not_true_eq_false, not_false_eq_true, eq_self, or_true, true_or, false_or, or_false, false_and, and_false, Option.toList_some, Option.toList_none, List.cons_append, List.nil_append, n10, n01, e10, e01, e08, e18, e28, e38, e48, e58, e68, e78, lt_lit, nI_add, pk_mul, n_le, n_lt, n_eq, n_cl, n_in, n_sub, n_div, n_rem, n_ite, Nat.zero_add, k_0, k_51]
  refine Call.mono h ?_
  intro r hi1 hl1 hr
  obtain ⟨v, e, q⟩ := hr
  subst e
  simp (disch := omega) only [b_Law_law_259, true_and, and_true, true_implies, false_implies, not_true_eq_false, not_false_eq_true, eq_self, or_true, true_or, false_or, or_false, false_and, and_false, Option.toList_some, Option.toList_none, List.cons_append, List.nil_append, n10, n01, e10, e01, e08, e18, e28, e38, e48, e58, e68, e78, lt_lit, nI_add, pk_mul, n_le, n_lt, n_eq, n_cl, n_in, n_sub, n_div, n_rem, n_ite, Nat.zero_add, k_0, k_51]
  refine Call.mono q ?_
  intro r' hi2 hl2 hr
  obtain ⟨e, q2⟩ := hr
  subst e
  simp (disch := omega) only [b_Law_law_279, b_Law_law_1594, true_and, and_true, true_implies, false_implies, not_true_eq_false, not_false_eq_true, eq_self, or_true, true_or, false_or, or_false, false_and, and_false, Option.toList_some, Option.toList_none, List.cons_append, List.nil_append, n10, n01, e10, e01, e08, e18, e28, e38, e48, e58, e68, e78, lt_lit, nI_add, pk_mul, n_le, n_lt, n_eq, n_cl, n_in, n_sub, n_div, n_rem, n_ite, Nat.zero_add, k_0, k_51]
  exact hn hi2 hl2 q2
set_option maxRecDepth 20000 in
theorem law_1 (hi6 : i + 6 ≤ xN u) (hN : xN u ≤ 3072) (h : Pr u B' 55 125 [.int (xX u (i + 1)), .int (xX u (i + 2))] hi hl) (hn : ∀ hi2 hl2, InvE B' hi2 hl2 → Wp u 228 18 [.ref 99, .ref 0, .ref 51, .int (nI (i + 6))] [] hi2 hl2 K) : vc u (n + 150) 228 283 [.ref 99, .ref 0, .ref 51, .int (nI i)] [] hi hl K := by
  unfold Pr at h
  simp (disch := omega) only [b_Law_law_283, true_and, and_true, true_implies, false_implies, not_true_eq_false, not_false_eq_true, eq_self, or_true, true_or, false_or, or_false, false_and, and_false, Option.toList_some, Option.toList_none, List.cons_append, List.nil_append, n10, n01, e10, e01, e08, e18, e28, e38, e48, e58, e68, e78, lt_lit, nI_add, pk_mul, n_le, n_lt, n_eq, n_cl, n_in, n_sub, n_div, n_rem, n_ite, Nat.zero_add, k_0, k_51]
  refine Call.mono h ?_
  intro r hi1 hl1 hr
  obtain ⟨v, e, q⟩ := hr
  subst e
  simp (disch := omega) only [b_Law_law_297, true_and, and_true, true_implies, false_implies, not_true_eq_false, not_false_eq_true, eq_self, or_true, true_or, false_or, or_false, false_and, and_false, Option.toList_some, Option.toList_none, List.cons_append, List.nil_append, n10, n01, e10, e01, e08, e18, e28, e38, e48, e58, e68, e78, lt_lit, nI_add, pk_mul, n_le, n_lt, n_eq, n_cl, n_in, n_sub, n_div, n_rem, n_ite, Nat.zero_add, k_0, k_51]
  refine Call.mono q ?_
  intro r' hi2 hl2 hr
  obtain ⟨e, q2⟩ := hr
  subst e
  simp (disch := omega) only [b_Law_law_312, b_Law_law_1594, true_and, and_true, true_implies, false_implies, not_true_eq_false, not_false_eq_true, eq_self, or_true, true_or, false_or, or_false, false_and, and_false, Option.toList_some, Option.toList_none, List.cons_append, List.nil_append, n10, n01, e10, e01, e08, e18, e28, e38, e48, e58, e68, e78, lt_lit, nI_add, pk_mul, n_le, n_lt, n_eq, n_cl, n_in, n_sub, n_div, n_rem, n_ite, Nat.zero_add, k_0, k_51]
  exact hn hi2 hl2 q2
set_option maxRecDepth 20000 in
theorem law_2 (hi6 : i + 6 ≤ xN u) (hN : xN u ≤ 3072) (h : Pr u B' 56 127 [.int (xX u (i + 1))] hi hl) (hn : ∀ hi2 hl2, InvE B' hi2 hl2 → Wp u 228 18 [.ref 99, .ref 0, .ref 51, .int (nI (i + 6))] [] hi2 hl2 K) : vc u (n + 150) 228 316 [.ref 99, .ref 0, .ref 51, .int (nI i)] [] hi hl K := by
  unfold Pr at h
  simp (disch := omega) only [b_Law_law_316, true_and, and_true, true_implies, false_implies, not_true_eq_false, not_false_eq_true, eq_self, or_true, true_or, false_or, or_false, false_and, and_false, Option.toList_some, Option.toList_none, List.cons_append, List.nil_append, n10, n01, e10, e01, e08, e18, e28, e38, e48, e58, e68, e78, lt_lit, nI_add, pk_mul, n_le, n_lt, n_eq, n_cl, n_in, n_sub, n_div, n_rem, n_ite, Nat.zero_add, k_0, k_51]
  refine Call.mono h ?_
  intro r hi1 hl1 hr
  obtain ⟨v, e, q⟩ := hr
  subst e
  simp (disch := omega) only [b_Law_law_325, true_and, and_true, true_implies, false_implies, not_true_eq_false, not_false_eq_true, eq_self, or_true, true_or, false_or, or_false, false_and, and_false, Option.toList_some, Option.toList_none, List.cons_append, List.nil_append, n10, n01, e10, e01, e08, e18, e28, e38, e48, e58, e68, e78, lt_lit, nI_add, pk_mul, n_le, n_lt, n_eq, n_cl, n_in, n_sub, n_div, n_rem, n_ite, Nat.zero_add, k_0, k_51]
  refine Call.mono q ?_
  intro r' hi2 hl2 hr
  obtain ⟨e, q2⟩ := hr
  subst e
  simp (disch := omega) only [b_Law_law_335, b_Law_law_1594, true_and, and_true, true_implies, false_implies, not_true_eq_false, not_false_eq_true, eq_self, or_true, true_or, false_or, or_false, false_and, and_false, Option.toList_some, Option.toList_none, List.cons_append, List.nil_append, n10, n01, e10, e01, e08, e18, e28, e38, e48, e58, e68, e78, lt_lit, nI_add, pk_mul, n_le, n_lt, n_eq, n_cl, n_in, n_sub, n_div, n_rem, n_ite, Nat.zero_add, k_0, k_51]
  exact hn hi2 hl2 q2
set_option maxRecDepth 20000 in
theorem law_3 (hi6 : i + 6 ≤ xN u) (hN : xN u ≤ 3072) (h : Pr u B' 57 129 [.int (xX u (i + 1))] hi hl) (hn : ∀ hi2 hl2, InvE B' hi2 hl2 → Wp u 228 18 [.ref 99, .ref 0, .ref 51, .int (nI (i + 6))] [] hi2 hl2 K) : vc u (n + 150) 228 339 [.ref 99, .ref 0, .ref 51, .int (nI i)] [] hi hl K := by
  unfold Pr at h
  simp (disch := omega) only [b_Law_law_339, true_and, and_true, true_implies, false_implies, not_true_eq_false, not_false_eq_true, eq_self, or_true, true_or, false_or, or_false, false_and, and_false, Option.toList_some, Option.toList_none, List.cons_append, List.nil_append, n10, n01, e10, e01, e08, e18, e28, e38, e48, e58, e68, e78, lt_lit, nI_add, pk_mul, n_le, n_lt, n_eq, n_cl, n_in, n_sub, n_div, n_rem, n_ite, Nat.zero_add, k_0, k_51]
  refine Call.mono h ?_
  intro r hi1 hl1 hr
  obtain ⟨v, e, q⟩ := hr
  subst e
  simp (disch := omega) only [b_Law_law_348, true_and, and_true, true_implies, false_implies, not_true_eq_false, not_false_eq_true, eq_self, or_true, true_or, false_or, or_false, false_and, and_false, Option.toList_some, Option.toList_none, List.cons_append, List.nil_append, n10, n01, e10, e01, e08, e18, e28, e38, e48, e58, e68, e78, lt_lit, nI_add, pk_mul, n_le, n_lt, n_eq, n_cl, n_in, n_sub, n_div, n_rem, n_ite, Nat.zero_add, k_0, k_51]
  refine Call.mono q ?_
  intro r' hi2 hl2 hr
  obtain ⟨e, q2⟩ := hr
  subst e
  simp (disch := omega) only [b_Law_law_357, b_Law_law_1594, true_and, and_true, true_implies, false_implies, not_true_eq_false, not_false_eq_true, eq_self, or_true, true_or, false_or, or_false, false_and, and_false, Option.toList_some, Option.toList_none, List.cons_append, List.nil_append, n10, n01, e10, e01, e08, e18, e28, e38, e48, e58, e68, e78, lt_lit, nI_add, pk_mul, n_le, n_lt, n_eq, n_cl, n_in, n_sub, n_div, n_rem, n_ite, Nat.zero_add, k_0, k_51]
  exact hn hi2 hl2 q2
set_option maxRecDepth 20000 in
theorem law_4 (hi6 : i + 6 ≤ xN u) (hN : xN u ≤ 3072) (h : Pr u B' 58 130 [.int (xX u (i + 1)), .int (xX u (i + 2))] hi hl) (hn : ∀ hi2 hl2, InvE B' hi2 hl2 → Wp u 228 18 [.ref 99, .ref 0, .ref 51, .int (nI (i + 6))] [] hi2 hl2 K) : vc u (n + 150) 228 362 [.ref 99, .ref 0, .ref 51, .int (nI i)] [] hi hl K := by
  unfold Pr at h
  simp (disch := omega) only [b_Law_law_362, true_and, and_true, true_implies, false_implies, not_true_eq_false, not_false_eq_true, eq_self, or_true, true_or, false_or, or_false, false_and, and_false, Option.toList_some, Option.toList_none, List.cons_append, List.nil_append, n10, n01, e10, e01, e08, e18, e28, e38, e48, e58, e68, e78, lt_lit, nI_add, pk_mul, n_le, n_lt, n_eq, n_cl, n_in, n_sub, n_div, n_rem, n_ite, Nat.zero_add, k_0, k_51]
  refine Call.mono h ?_
  intro r hi1 hl1 hr
  obtain ⟨v, e, q⟩ := hr
  subst e
  simp (disch := omega) only [b_Law_law_376, true_and, and_true, true_implies, false_implies, not_true_eq_false, not_false_eq_true, eq_self, or_true, true_or, false_or, or_false, false_and, and_false, Option.toList_some, Option.toList_none, List.cons_append, List.nil_append, n10, n01, e10, e01, e08, e18, e28, e38, e48, e58, e68, e78, lt_lit, nI_add, pk_mul, n_le, n_lt, n_eq, n_cl, n_in, n_sub, n_div, n_rem, n_ite, Nat.zero_add, k_0, k_51]
  refine Call.mono q ?_
  intro r' hi2 hl2 hr
  obtain ⟨e, q2⟩ := hr
  subst e
  simp (disch := omega) only [b_Law_law_391, b_Law_law_1594, true_and, and_true, true_implies, false_implies, not_true_eq_false, not_false_eq_true, eq_self, or_true, true_or, false_or, or_false, false_and, and_false, Option.toList_some, Option.toList_none, List.cons_append, List.nil_append, n10, n01, e10, e01, e08, e18, e28, e38, e48, e58, e68, e78, lt_lit, nI_add, pk_mul, n_le, n_lt, n_eq, n_cl, n_in, n_sub, n_div, n_rem, n_ite, Nat.zero_add, k_0, k_51]
  exact hn hi2 hl2 q2
set_option maxRecDepth 20000 in
theorem law_5 (hi6 : i + 6 ≤ xN u) (hN : xN u ≤ 3072) (h : Pr u B' 60 137 [.int (xX u (i + 1)), .int (xX u (i + 2)), .int (xX u (i + 3))] hi hl) (hn : ∀ hi2 hl2, InvE B' hi2 hl2 → Wp u 228 18 [.ref 99, .ref 0, .ref 51, .int (nI (i + 6))] [] hi2 hl2 K) : vc u (n + 150) 228 395 [.ref 99, .ref 0, .ref 51, .int (nI i)] [] hi hl K := by
  unfold Pr at h
  simp (disch := omega) only [b_Law_law_395, true_and, and_true, true_implies, false_implies, not_true_eq_false, not_false_eq_true, eq_self, or_true, true_or, false_or, or_false, false_and, and_false, Option.toList_some, Option.toList_none, List.cons_append, List.nil_append, n10, n01, e10, e01, e08, e18, e28, e38, e48, e58, e68, e78, lt_lit, nI_add, pk_mul, n_le, n_lt, n_eq, n_cl, n_in, n_sub, n_div, n_rem, n_ite, Nat.zero_add, k_0, k_51]
  refine Call.mono h ?_
  intro r hi1 hl1 hr
  obtain ⟨v, e, q⟩ := hr
  subst e
  simp (disch := omega) only [b_Law_law_414, true_and, and_true, true_implies, false_implies, not_true_eq_false, not_false_eq_true, eq_self, or_true, true_or, false_or, or_false, false_and, and_false, Option.toList_some, Option.toList_none, List.cons_append, List.nil_append, n10, n01, e10, e01, e08, e18, e28, e38, e48, e58, e68, e78, lt_lit, nI_add, pk_mul, n_le, n_lt, n_eq, n_cl, n_in, n_sub, n_div, n_rem, n_ite, Nat.zero_add, k_0, k_51]
  refine Call.mono q ?_
  intro r' hi2 hl2 hr
  obtain ⟨e, q2⟩ := hr
  subst e
  simp (disch := omega) only [b_Law_law_434, b_Law_law_1594, true_and, and_true, true_implies, false_implies, not_true_eq_false, not_false_eq_true, eq_self, or_true, true_or, false_or, or_false, false_and, and_false, Option.toList_some, Option.toList_none, List.cons_append, List.nil_append, n10, n01, e10, e01, e08, e18, e28, e38, e48, e58, e68, e78, lt_lit, nI_add, pk_mul, n_le, n_lt, n_eq, n_cl, n_in, n_sub, n_div, n_rem, n_ite, Nat.zero_add, k_0, k_51]
  exact hn hi2 hl2 q2
set_option maxRecDepth 20000 in
theorem law_6 (hi6 : i + 6 ≤ xN u) (hN : xN u ≤ 3072) (h : Pr u B' 61 141 [.int (xX u (i + 1)), .int (xX u (i + 2))] hi hl) (hn : ∀ hi2 hl2, InvE B' hi2 hl2 → Wp u 228 18 [.ref 99, .ref 0, .ref 51, .int (nI (i + 6))] [] hi2 hl2 K) : vc u (n + 150) 228 438 [.ref 99, .ref 0, .ref 51, .int (nI i)] [] hi hl K := by
  unfold Pr at h
  simp (disch := omega) only [b_Law_law_438, true_and, and_true, true_implies, false_implies, not_true_eq_false, not_false_eq_true, eq_self, or_true, true_or, false_or, or_false, false_and, and_false, Option.toList_some, Option.toList_none, List.cons_append, List.nil_append, n10, n01, e10, e01, e08, e18, e28, e38, e48, e58, e68, e78, lt_lit, nI_add, pk_mul, n_le, n_lt, n_eq, n_cl, n_in, n_sub, n_div, n_rem, n_ite, Nat.zero_add, k_0, k_51]
  refine Call.mono h ?_
  intro r hi1 hl1 hr
  obtain ⟨v, e, q⟩ := hr
  subst e
  simp (disch := omega) only [b_Law_law_452, true_and, and_true, true_implies, false_implies, not_true_eq_false, not_false_eq_true, eq_self, or_true, true_or, false_or, or_false, false_and, and_false, Option.toList_some, Option.toList_none, List.cons_append, List.nil_append, n10, n01, e10, e01, e08, e18, e28, e38, e48, e58, e68, e78, lt_lit, nI_add, pk_mul, n_le, n_lt, n_eq, n_cl, n_in, n_sub, n_div, n_rem, n_ite, Nat.zero_add, k_0, k_51]
  refine Call.mono q ?_
  intro r' hi2 hl2 hr
  obtain ⟨e, q2⟩ := hr
  subst e
  simp (disch := omega) only [b_Law_law_467, b_Law_law_1594, true_and, and_true, true_implies, false_implies, not_true_eq_false, not_false_eq_true, eq_self, or_true, true_or, false_or, or_false, false_and, and_false, Option.toList_some, Option.toList_none, List.cons_append, List.nil_append, n10, n01, e10, e01, e08, e18, e28, e38, e48, e58, e68, e78, lt_lit, nI_add, pk_mul, n_le, n_lt, n_eq, n_cl, n_in, n_sub, n_div, n_rem, n_ite, Nat.zero_add, k_0, k_51]
  exact hn hi2 hl2 q2
set_option maxRecDepth 20000 in
theorem law_7 (hi6 : i + 6 ≤ xN u) (hN : xN u ≤ 3072) (h : Pr u B' 62 142 [.int (xX u (i + 1)), .int (xX u (i + 2)), .int (xX u (i + 3))] hi hl) (hn : ∀ hi2 hl2, InvE B' hi2 hl2 → Wp u 228 18 [.ref 99, .ref 0, .ref 51, .int (nI (i + 6))] [] hi2 hl2 K) : vc u (n + 150) 228 471 [.ref 99, .ref 0, .ref 51, .int (nI i)] [] hi hl K := by
  unfold Pr at h
  simp (disch := omega) only [b_Law_law_471, true_and, and_true, true_implies, false_implies, not_true_eq_false, not_false_eq_true, eq_self, or_true, true_or, false_or, or_false, false_and, and_false, Option.toList_some, Option.toList_none, List.cons_append, List.nil_append, n10, n01, e10, e01, e08, e18, e28, e38, e48, e58, e68, e78, lt_lit, nI_add, pk_mul, n_le, n_lt, n_eq, n_cl, n_in, n_sub, n_div, n_rem, n_ite, Nat.zero_add, k_0, k_51]
  refine Call.mono h ?_
  intro r hi1 hl1 hr
  obtain ⟨v, e, q⟩ := hr
  subst e
  simp (disch := omega) only [b_Law_law_490, true_and, and_true, true_implies, false_implies, not_true_eq_false, not_false_eq_true, eq_self, or_true, true_or, false_or, or_false, false_and, and_false, Option.toList_some, Option.toList_none, List.cons_append, List.nil_append, n10, n01, e10, e01, e08, e18, e28, e38, e48, e58, e68, e78, lt_lit, nI_add, pk_mul, n_le, n_lt, n_eq, n_cl, n_in, n_sub, n_div, n_rem, n_ite, Nat.zero_add, k_0, k_51]
  refine Call.mono q ?_
  intro r' hi2 hl2 hr
  obtain ⟨e, q2⟩ := hr
  subst e
  simp (disch := omega) only [b_Law_law_510, b_Law_law_1594, true_and, and_true, true_implies, false_implies, not_true_eq_false, not_false_eq_true, eq_self, or_true, true_or, false_or, or_false, false_and, and_false, Option.toList_some, Option.toList_none, List.cons_append, List.nil_append, n10, n01, e10, e01, e08, e18, e28, e38, e48, e58, e68, e78, lt_lit, nI_add, pk_mul, n_le, n_lt, n_eq, n_cl, n_in, n_sub, n_div, n_rem, n_ite, Nat.zero_add, k_0, k_51]
  exact hn hi2 hl2 q2
set_option maxRecDepth 20000 in
theorem law_8 (hi6 : i + 6 ≤ xN u) (hN : xN u ≤ 3072) (h : Pr u B' 64 143 [.int (xX u (i + 1)), .int (xX u (i + 2))] hi hl) (hn : ∀ hi2 hl2, InvE B' hi2 hl2 → Wp u 228 18 [.ref 99, .ref 0, .ref 51, .int (nI (i + 6))] [] hi2 hl2 K) : vc u (n + 150) 228 514 [.ref 99, .ref 0, .ref 51, .int (nI i)] [] hi hl K := by
  unfold Pr at h
  simp (disch := omega) only [b_Law_law_514, true_and, and_true, true_implies, false_implies, not_true_eq_false, not_false_eq_true, eq_self, or_true, true_or, false_or, or_false, false_and, and_false, Option.toList_some, Option.toList_none, List.cons_append, List.nil_append, n10, n01, e10, e01, e08, e18, e28, e38, e48, e58, e68, e78, lt_lit, nI_add, pk_mul, n_le, n_lt, n_eq, n_cl, n_in, n_sub, n_div, n_rem, n_ite, Nat.zero_add, k_0, k_51]
  refine Call.mono h ?_
  intro r hi1 hl1 hr
  obtain ⟨v, e, q⟩ := hr
  subst e
  simp (disch := omega) only [b_Law_law_528, true_and, and_true, true_implies, false_implies, not_true_eq_false, not_false_eq_true, eq_self, or_true, true_or, false_or, or_false, false_and, and_false, Option.toList_some, Option.toList_none, List.cons_append, List.nil_append, n10, n01, e10, e01, e08, e18, e28, e38, e48, e58, e68, e78, lt_lit, nI_add, pk_mul, n_le, n_lt, n_eq, n_cl, n_in, n_sub, n_div, n_rem, n_ite, Nat.zero_add, k_0, k_51]
  refine Call.mono q ?_
  intro r' hi2 hl2 hr
  obtain ⟨e, q2⟩ := hr
  subst e
  simp (disch := omega) only [b_Law_law_543, b_Law_law_1594, true_and, and_true, true_implies, false_implies, not_true_eq_false, not_false_eq_true, eq_self, or_true, true_or, false_or, or_false, false_and, and_false, Option.toList_some, Option.toList_none, List.cons_append, List.nil_append, n10, n01, e10, e01, e08, e18, e28, e38, e48, e58, e68, e78, lt_lit, nI_add, pk_mul, n_le, n_lt, n_eq, n_cl, n_in, n_sub, n_div, n_rem, n_ite, Nat.zero_add, k_0, k_51]
  exact hn hi2 hl2 q2
set_option maxRecDepth 20000 in
theorem law_9 (hi6 : i + 6 ≤ xN u) (hN : xN u ≤ 3072) (h : Pr u B' 65 145 [.int (xX u (i + 1)), .int (xX u (i + 2))] hi hl) (hn : ∀ hi2 hl2, InvE B' hi2 hl2 → Wp u 228 18 [.ref 99, .ref 0, .ref 51, .int (nI (i + 6))] [] hi2 hl2 K) : vc u (n + 150) 228 547 [.ref 99, .ref 0, .ref 51, .int (nI i)] [] hi hl K := by
  unfold Pr at h
  simp (disch := omega) only [b_Law_law_547, true_and, and_true, true_implies, false_implies, not_true_eq_false, not_false_eq_true, eq_self, or_true, true_or, false_or, or_false, false_and, and_false, Option.toList_some, Option.toList_none, List.cons_append, List.nil_append, n10, n01, e10, e01, e08, e18, e28, e38, e48, e58, e68, e78, lt_lit, nI_add, pk_mul, n_le, n_lt, n_eq, n_cl, n_in, n_sub, n_div, n_rem, n_ite, Nat.zero_add, k_0, k_51]
  refine Call.mono h ?_
  intro r hi1 hl1 hr
  obtain ⟨v, e, q⟩ := hr
  subst e
  simp (disch := omega) only [b_Law_law_561, true_and, and_true, true_implies, false_implies, not_true_eq_false, not_false_eq_true, eq_self, or_true, true_or, false_or, or_false, false_and, and_false, Option.toList_some, Option.toList_none, List.cons_append, List.nil_append, n10, n01, e10, e01, e08, e18, e28, e38, e48, e58, e68, e78, lt_lit, nI_add, pk_mul, n_le, n_lt, n_eq, n_cl, n_in, n_sub, n_div, n_rem, n_ite, Nat.zero_add, k_0, k_51]
  refine Call.mono q ?_
  intro r' hi2 hl2 hr
  obtain ⟨e, q2⟩ := hr
  subst e
  simp (disch := omega) only [b_Law_law_576, b_Law_law_1594, true_and, and_true, true_implies, false_implies, not_true_eq_false, not_false_eq_true, eq_self, or_true, true_or, false_or, or_false, false_and, and_false, Option.toList_some, Option.toList_none, List.cons_append, List.nil_append, n10, n01, e10, e01, e08, e18, e28, e38, e48, e58, e68, e78, lt_lit, nI_add, pk_mul, n_le, n_lt, n_eq, n_cl, n_in, n_sub, n_div, n_rem, n_ite, Nat.zero_add, k_0, k_51]
  exact hn hi2 hl2 q2
set_option maxRecDepth 20000 in
theorem law_10 (hi6 : i + 6 ≤ xN u) (hN : xN u ≤ 3072) (h : Pr u B' 66 146 [.int (xX u (i + 1)), .int (xX u (i + 2))] hi hl) (hn : ∀ hi2 hl2, InvE B' hi2 hl2 → Wp u 228 18 [.ref 99, .ref 0, .ref 51, .int (nI (i + 6))] [] hi2 hl2 K) : vc u (n + 150) 228 580 [.ref 99, .ref 0, .ref 51, .int (nI i)] [] hi hl K := by
  unfold Pr at h
  simp (disch := omega) only [b_Law_law_580, true_and, and_true, true_implies, false_implies, not_true_eq_false, not_false_eq_true, eq_self, or_true, true_or, false_or, or_false, false_and, and_false, Option.toList_some, Option.toList_none, List.cons_append, List.nil_append, n10, n01, e10, e01, e08, e18, e28, e38, e48, e58, e68, e78, lt_lit, nI_add, pk_mul, n_le, n_lt, n_eq, n_cl, n_in, n_sub, n_div, n_rem, n_ite, Nat.zero_add, k_0, k_51]
  refine Call.mono h ?_
  intro r hi1 hl1 hr
  obtain ⟨v, e, q⟩ := hr
  subst e
  simp (disch := omega) only [b_Law_law_594, true_and, and_true, true_implies, false_implies, not_true_eq_false, not_false_eq_true, eq_self, or_true, true_or, false_or, or_false, false_and, and_false, Option.toList_some, Option.toList_none, List.cons_append, List.nil_append, n10, n01, e10, e01, e08, e18, e28, e38, e48, e58, e68, e78, lt_lit, nI_add, pk_mul, n_le, n_lt, n_eq, n_cl, n_in, n_sub, n_div, n_rem, n_ite, Nat.zero_add, k_0, k_51]
  refine Call.mono q ?_
  intro r' hi2 hl2 hr
  obtain ⟨e, q2⟩ := hr
  subst e
  simp (disch := omega) only [b_Law_law_609, b_Law_law_1594, true_and, and_true, true_implies, false_implies, not_true_eq_false, not_false_eq_true, eq_self, or_true, true_or, false_or, or_false, false_and, and_false, Option.toList_some, Option.toList_none, List.cons_append, List.nil_append, n10, n01, e10, e01, e08, e18, e28, e38, e48, e58, e68, e78, lt_lit, nI_add, pk_mul, n_le, n_lt, n_eq, n_cl, n_in, n_sub, n_div, n_rem, n_ite, Nat.zero_add, k_0, k_51]
  exact hn hi2 hl2 q2
set_option maxRecDepth 20000 in
theorem law_11 (hi6 : i + 6 ≤ xN u) (hN : xN u ≤ 3072) (h : Pr u B' 67 147 [.int (xX u (i + 1))] hi hl) (hn : ∀ hi2 hl2, InvE B' hi2 hl2 → Wp u 228 18 [.ref 99, .ref 0, .ref 51, .int (nI (i + 6))] [] hi2 hl2 K) : vc u (n + 150) 228 613 [.ref 99, .ref 0, .ref 51, .int (nI i)] [] hi hl K := by
  unfold Pr at h
  simp (disch := omega) only [b_Law_law_613, true_and, and_true, true_implies, false_implies, not_true_eq_false, not_false_eq_true, eq_self, or_true, true_or, false_or, or_false, false_and, and_false, Option.toList_some, Option.toList_none, List.cons_append, List.nil_append, n10, n01, e10, e01, e08, e18, e28, e38, e48, e58, e68, e78, lt_lit, nI_add, pk_mul, n_le, n_lt, n_eq, n_cl, n_in, n_sub, n_div, n_rem, n_ite, Nat.zero_add, k_0, k_51]
  refine Call.mono h ?_
  intro r hi1 hl1 hr
  obtain ⟨v, e, q⟩ := hr
  subst e
  simp (disch := omega) only [b_Law_law_622, true_and, and_true, true_implies, false_implies, not_true_eq_false, not_false_eq_true, eq_self, or_true, true_or, false_or, or_false, false_and, and_false, Option.toList_some, Option.toList_none, List.cons_append, List.nil_append, n10, n01, e10, e01, e08, e18, e28, e38, e48, e58, e68, e78, lt_lit, nI_add, pk_mul, n_le, n_lt, n_eq, n_cl, n_in, n_sub, n_div, n_rem, n_ite, Nat.zero_add, k_0, k_51]
  refine Call.mono q ?_
  intro r' hi2 hl2 hr
  obtain ⟨e, q2⟩ := hr
  subst e
  simp (disch := omega) only [b_Law_law_632, b_Law_law_1594, true_and, and_true, true_implies, false_implies, not_true_eq_false, not_false_eq_true, eq_self, or_true, true_or, false_or, or_false, false_and, and_false, Option.toList_some, Option.toList_none, List.cons_append, List.nil_append, n10, n01, e10, e01, e08, e18, e28, e38, e48, e58, e68, e78, lt_lit, nI_add, pk_mul, n_le, n_lt, n_eq, n_cl, n_in, n_sub, n_div, n_rem, n_ite, Nat.zero_add, k_0, k_51]
  exact hn hi2 hl2 q2
set_option maxRecDepth 20000 in
theorem law_12 (hi6 : i + 6 ≤ xN u) (hN : xN u ≤ 3072) (h : Pr u B' 68 154 [.int (xX u (i + 1))] hi hl) (hn : ∀ hi2 hl2, InvE B' hi2 hl2 → Wp u 228 18 [.ref 99, .ref 0, .ref 51, .int (nI (i + 6))] [] hi2 hl2 K) : vc u (n + 150) 228 636 [.ref 99, .ref 0, .ref 51, .int (nI i)] [] hi hl K := by
  unfold Pr at h
  simp (disch := omega) only [b_Law_law_636, true_and, and_true, true_implies, false_implies, not_true_eq_false, not_false_eq_true, eq_self, or_true, true_or, false_or, or_false, false_and, and_false, Option.toList_some, Option.toList_none, List.cons_append, List.nil_append, n10, n01, e10, e01, e08, e18, e28, e38, e48, e58, e68, e78, lt_lit, nI_add, pk_mul, n_le, n_lt, n_eq, n_cl, n_in, n_sub, n_div, n_rem, n_ite, Nat.zero_add, k_0, k_51]
  refine Call.mono h ?_
  intro r hi1 hl1 hr
  obtain ⟨v, e, q⟩ := hr
  subst e
  simp (disch := omega) only [b_Law_law_645, true_and, and_true, true_implies, false_implies, not_true_eq_false, not_false_eq_true, eq_self, or_true, true_or, false_or, or_false, false_and, and_false, Option.toList_some, Option.toList_none, List.cons_append, List.nil_append, n10, n01, e10, e01, e08, e18, e28, e38, e48, e58, e68, e78, lt_lit, nI_add, pk_mul, n_le, n_lt, n_eq, n_cl, n_in, n_sub, n_div, n_rem, n_ite, Nat.zero_add, k_0, k_51]
  refine Call.mono q ?_
  intro r' hi2 hl2 hr
  obtain ⟨e, q2⟩ := hr
  subst e
  simp (disch := omega) only [b_Law_law_655, b_Law_law_1594, true_and, and_true, true_implies, false_implies, not_true_eq_false, not_false_eq_true, eq_self, or_true, true_or, false_or, or_false, false_and, and_false, Option.toList_some, Option.toList_none, List.cons_append, List.nil_append, n10, n01, e10, e01, e08, e18, e28, e38, e48, e58, e68, e78, lt_lit, nI_add, pk_mul, n_le, n_lt, n_eq, n_cl, n_in, n_sub, n_div, n_rem, n_ite, Nat.zero_add, k_0, k_51]
  exact hn hi2 hl2 q2
set_option maxRecDepth 20000 in
theorem law_13 (hi6 : i + 6 ≤ xN u) (hN : xN u ≤ 3072) (h : Pr u B' 69 155 [] hi hl) (hn : ∀ hi2 hl2, InvE B' hi2 hl2 → Wp u 228 18 [.ref 99, .ref 0, .ref 51, .int (nI (i + 6))] [] hi2 hl2 K) : vc u (n + 150) 228 659 [.ref 99, .ref 0, .ref 51, .int (nI i)] [] hi hl K := by
  unfold Pr at h
  simp (disch := omega) only [b_Law_law_659, true_and, and_true, true_implies, false_implies, not_true_eq_false, not_false_eq_true, eq_self, or_true, true_or, false_or, or_false, false_and, and_false, Option.toList_some, Option.toList_none, List.cons_append, List.nil_append, n10, n01, e10, e01, e08, e18, e28, e38, e48, e58, e68, e78, lt_lit, nI_add, pk_mul, n_le, n_lt, n_eq, n_cl, n_in, n_sub, n_div, n_rem, n_ite, Nat.zero_add, k_0, k_51]
  refine Call.mono h ?_
  intro r hi1 hl1 hr
  obtain ⟨v, e, q⟩ := hr
  subst e
  simp (disch := omega) only [b_Law_law_663, true_and, and_true, true_implies, false_implies, not_true_eq_false, not_false_eq_true, eq_self, or_true, true_or, false_or, or_false, false_and, and_false, Option.toList_some, Option.toList_none, List.cons_append, List.nil_append, n10, n01, e10, e01, e08, e18, e28, e38, e48, e58, e68, e78, lt_lit, nI_add, pk_mul, n_le, n_lt, n_eq, n_cl, n_in, n_sub, n_div, n_rem, n_ite, Nat.zero_add, k_0, k_51]
  refine Call.mono q ?_
  intro r' hi2 hl2 hr
  obtain ⟨e, q2⟩ := hr
  subst e
  simp (disch := omega) only [b_Law_law_668, b_Law_law_1594, true_and, and_true, true_implies, false_implies, not_true_eq_false, not_false_eq_true, eq_self, or_true, true_or, false_or, or_false, false_and, and_false, Option.toList_some, Option.toList_none, List.cons_append, List.nil_append, n10, n01, e10, e01, e08, e18, e28, e38, e48, e58, e68, e78, lt_lit, nI_add, pk_mul, n_le, n_lt, n_eq, n_cl, n_in, n_sub, n_div, n_rem, n_ite, Nat.zero_add, k_0, k_51]
  exact hn hi2 hl2 q2
set_option maxRecDepth 20000 in
theorem law_14 (hi6 : i + 6 ≤ xN u) (hN : xN u ≤ 3072) (h : Pr u B' 70 157 [] hi hl) (hn : ∀ hi2 hl2, InvE B' hi2 hl2 → Wp u 228 18 [.ref 99, .ref 0, .ref 51, .int (nI (i + 6))] [] hi2 hl2 K) : vc u (n + 150) 228 672 [.ref 99, .ref 0, .ref 51, .int (nI i)] [] hi hl K := by
  unfold Pr at h
  simp (disch := omega) only [b_Law_law_672, true_and, and_true, true_implies, false_implies, not_true_eq_false, not_false_eq_true, eq_self, or_true, true_or, false_or, or_false, false_and, and_false, Option.toList_some, Option.toList_none, List.cons_append, List.nil_append, n10, n01, e10, e01, e08, e18, e28, e38, e48, e58, e68, e78, lt_lit, nI_add, pk_mul, n_le, n_lt, n_eq, n_cl, n_in, n_sub, n_div, n_rem, n_ite, Nat.zero_add, k_0, k_51]
  refine Call.mono h ?_
  intro r hi1 hl1 hr
  obtain ⟨v, e, q⟩ := hr
  subst e
  simp (disch := omega) only [b_Law_law_676, true_and, and_true, true_implies, false_implies, not_true_eq_false, not_false_eq_true, eq_self, or_true, true_or, false_or, or_false, false_and, and_false, Option.toList_some, Option.toList_none, List.cons_append, List.nil_append, n10, n01, e10, e01, e08, e18, e28, e38, e48, e58, e68, e78, lt_lit, nI_add, pk_mul, n_le, n_lt, n_eq, n_cl, n_in, n_sub, n_div, n_rem, n_ite, Nat.zero_add, k_0, k_51]
  refine Call.mono q ?_
  intro r' hi2 hl2 hr
  obtain ⟨e, q2⟩ := hr
  subst e
  simp (disch := omega) only [b_Law_law_681, b_Law_law_1594, true_and, and_true, true_implies, false_implies, not_true_eq_false, not_false_eq_true, eq_self, or_true, true_or, false_or, or_false, false_and, and_false, Option.toList_some, Option.toList_none, List.cons_append, List.nil_append, n10, n01, e10, e01, e08, e18, e28, e38, e48, e58, e68, e78, lt_lit, nI_add, pk_mul, n_le, n_lt, n_eq, n_cl, n_in, n_sub, n_div, n_rem, n_ite, Nat.zero_add, k_0, k_51]
  exact hn hi2 hl2 q2
set_option maxRecDepth 20000 in
theorem law_15 (hi6 : i + 6 ≤ xN u) (hN : xN u ≤ 3072) (h : Pr u B' 71 158 [.int (xX u (i + 1))] hi hl) (hn : ∀ hi2 hl2, InvE B' hi2 hl2 → Wp u 228 18 [.ref 99, .ref 0, .ref 51, .int (nI (i + 6))] [] hi2 hl2 K) : vc u (n + 150) 228 685 [.ref 99, .ref 0, .ref 51, .int (nI i)] [] hi hl K := by
  unfold Pr at h
  simp (disch := omega) only [b_Law_law_685, true_and, and_true, true_implies, false_implies, not_true_eq_false, not_false_eq_true, eq_self, or_true, true_or, false_or, or_false, false_and, and_false, Option.toList_some, Option.toList_none, List.cons_append, List.nil_append, n10, n01, e10, e01, e08, e18, e28, e38, e48, e58, e68, e78, lt_lit, nI_add, pk_mul, n_le, n_lt, n_eq, n_cl, n_in, n_sub, n_div, n_rem, n_ite, Nat.zero_add, k_0, k_51]
  refine Call.mono h ?_
  intro r hi1 hl1 hr
  obtain ⟨v, e, q⟩ := hr
  subst e
  simp (disch := omega) only [b_Law_law_694, true_and, and_true, true_implies, false_implies, not_true_eq_false, not_false_eq_true, eq_self, or_true, true_or, false_or, or_false, false_and, and_false, Option.toList_some, Option.toList_none, List.cons_append, List.nil_append, n10, n01, e10, e01, e08, e18, e28, e38, e48, e58, e68, e78, lt_lit, nI_add, pk_mul, n_le, n_lt, n_eq, n_cl, n_in, n_sub, n_div, n_rem, n_ite, Nat.zero_add, k_0, k_51]
  refine Call.mono q ?_
  intro r' hi2 hl2 hr
  obtain ⟨e, q2⟩ := hr
  subst e
  simp (disch := omega) only [b_Law_law_704, b_Law_law_1594, true_and, and_true, true_implies, false_implies, not_true_eq_false, not_false_eq_true, eq_self, or_true, true_or, false_or, or_false, false_and, and_false, Option.toList_some, Option.toList_none, List.cons_append, List.nil_append, n10, n01, e10, e01, e08, e18, e28, e38, e48, e58, e68, e78, lt_lit, nI_add, pk_mul, n_le, n_lt, n_eq, n_cl, n_in, n_sub, n_div, n_rem, n_ite, Nat.zero_add, k_0, k_51]
  exact hn hi2 hl2 q2
set_option maxRecDepth 20000 in
theorem law_16 (hi6 : i + 6 ≤ xN u) (hN : xN u ≤ 3072) (h : Pr u B' 72 160 [.int (xX u (i + 1)), .int (xX u (i + 2))] hi hl) (hn : ∀ hi2 hl2, InvE B' hi2 hl2 → Wp u 228 18 [.ref 99, .ref 0, .ref 51, .int (nI (i + 6))] [] hi2 hl2 K) : vc u (n + 150) 228 708 [.ref 99, .ref 0, .ref 51, .int (nI i)] [] hi hl K := by
  unfold Pr at h
  simp (disch := omega) only [b_Law_law_708, true_and, and_true, true_implies, false_implies, not_true_eq_false, not_false_eq_true, eq_self, or_true, true_or, false_or, or_false, false_and, and_false, Option.toList_some, Option.toList_none, List.cons_append, List.nil_append, n10, n01, e10, e01, e08, e18, e28, e38, e48, e58, e68, e78, lt_lit, nI_add, pk_mul, n_le, n_lt, n_eq, n_cl, n_in, n_sub, n_div, n_rem, n_ite, Nat.zero_add, k_0, k_51]
  refine Call.mono h ?_
  intro r hi1 hl1 hr
  obtain ⟨v, e, q⟩ := hr
  subst e
  simp (disch := omega) only [b_Law_law_722, true_and, and_true, true_implies, false_implies, not_true_eq_false, not_false_eq_true, eq_self, or_true, true_or, false_or, or_false, false_and, and_false, Option.toList_some, Option.toList_none, List.cons_append, List.nil_append, n10, n01, e10, e01, e08, e18, e28, e38, e48, e58, e68, e78, lt_lit, nI_add, pk_mul, n_le, n_lt, n_eq, n_cl, n_in, n_sub, n_div, n_rem, n_ite, Nat.zero_add, k_0, k_51]
  refine Call.mono q ?_
  intro r' hi2 hl2 hr
  obtain ⟨e, q2⟩ := hr
  subst e
  simp (disch := omega) only [b_Law_law_737, b_Law_law_1594, true_and, and_true, true_implies, false_implies, not_true_eq_false, not_false_eq_true, eq_self, or_true, true_or, false_or, or_false, false_and, and_false, Option.toList_some, Option.toList_none, List.cons_append, List.nil_append, n10, n01, e10, e01, e08, e18, e28, e38, e48, e58, e68, e78, lt_lit, nI_add, pk_mul, n_le, n_lt, n_eq, n_cl, n_in, n_sub, n_div, n_rem, n_ite, Nat.zero_add, k_0, k_51]
  exact hn hi2 hl2 q2
set_option maxRecDepth 20000 in
theorem law_17 (hi6 : i + 6 ≤ xN u) (hN : xN u ≤ 3072) (h : Pr u B' 73 161 [.int (xX u (i + 1)), .int (xX u (i + 2))] hi hl) (hn : ∀ hi2 hl2, InvE B' hi2 hl2 → Wp u 228 18 [.ref 99, .ref 0, .ref 51, .int (nI (i + 6))] [] hi2 hl2 K) : vc u (n + 150) 228 741 [.ref 99, .ref 0, .ref 51, .int (nI i)] [] hi hl K := by
  unfold Pr at h
  simp (disch := omega) only [b_Law_law_741, true_and, and_true, true_implies, false_implies, not_true_eq_false, not_false_eq_true, eq_self, or_true, true_or, false_or, or_false, false_and, and_false, Option.toList_some, Option.toList_none, List.cons_append, List.nil_append, n10, n01, e10, e01, e08, e18, e28, e38, e48, e58, e68, e78, lt_lit, nI_add, pk_mul, n_le, n_lt, n_eq, n_cl, n_in, n_sub, n_div, n_rem, n_ite, Nat.zero_add, k_0, k_51]
  refine Call.mono h ?_
  intro r hi1 hl1 hr
  obtain ⟨v, e, q⟩ := hr
  subst e
  simp (disch := omega) only [b_Law_law_755, true_and, and_true, true_implies, false_implies, not_true_eq_false, not_false_eq_true, eq_self, or_true, true_or, false_or, or_false, false_and, and_false, Option.toList_some, Option.toList_none, List.cons_append, List.nil_append, n10, n01, e10, e01, e08, e18, e28, e38, e48, e58, e68, e78, lt_lit, nI_add, pk_mul, n_le, n_lt, n_eq, n_cl, n_in, n_sub, n_div, n_rem, n_ite, Nat.zero_add, k_0, k_51]
  refine Call.mono q ?_
  intro r' hi2 hl2 hr
  obtain ⟨e, q2⟩ := hr
  subst e
  simp (disch := omega) only [b_Law_law_770, b_Law_law_1594, true_and, and_true, true_implies, false_implies, not_true_eq_false, not_false_eq_true, eq_self, or_true, true_or, false_or, or_false, false_and, and_false, Option.toList_some, Option.toList_none, List.cons_append, List.nil_append, n10, n01, e10, e01, e08, e18, e28, e38, e48, e58, e68, e78, lt_lit, nI_add, pk_mul, n_le, n_lt, n_eq, n_cl, n_in, n_sub, n_div, n_rem, n_ite, Nat.zero_add, k_0, k_51]
  exact hn hi2 hl2 q2
set_option maxRecDepth 20000 in
theorem law_18 (hi6 : i + 6 ≤ xN u) (hN : xN u ≤ 3072) (h : Pr u B' 74 162 [.int (xX u (i + 1))] hi hl) (hn : ∀ hi2 hl2, InvE B' hi2 hl2 → Wp u 228 18 [.ref 99, .ref 0, .ref 51, .int (nI (i + 6))] [] hi2 hl2 K) : vc u (n + 150) 228 774 [.ref 99, .ref 0, .ref 51, .int (nI i)] [] hi hl K := by
  unfold Pr at h
  simp (disch := omega) only [b_Law_law_774, true_and, and_true, true_implies, false_implies, not_true_eq_false, not_false_eq_true, eq_self, or_true, true_or, false_or, or_false, false_and, and_false, Option.toList_some, Option.toList_none, List.cons_append, List.nil_append, n10, n01, e10, e01, e08, e18, e28, e38, e48, e58, e68, e78, lt_lit, nI_add, pk_mul, n_le, n_lt, n_eq, n_cl, n_in, n_sub, n_div, n_rem, n_ite, Nat.zero_add, k_0, k_51]
  refine Call.mono h ?_
  intro r hi1 hl1 hr
  obtain ⟨v, e, q⟩ := hr
  subst e
  simp (disch := omega) only [b_Law_law_783, true_and, and_true, true_implies, false_implies, not_true_eq_false, not_false_eq_true, eq_self, or_true, true_or, false_or, or_false, false_and, and_false, Option.toList_some, Option.toList_none, List.cons_append, List.nil_append, n10, n01, e10, e01, e08, e18, e28, e38, e48, e58, e68, e78, lt_lit, nI_add, pk_mul, n_le, n_lt, n_eq, n_cl, n_in, n_sub, n_div, n_rem, n_ite, Nat.zero_add, k_0, k_51]
  refine Call.mono q ?_
  intro r' hi2 hl2 hr
  obtain ⟨e, q2⟩ := hr
  subst e
  simp (disch := omega) only [b_Law_law_793, b_Law_law_1594, true_and, and_true, true_implies, false_implies, not_true_eq_false, not_false_eq_true, eq_self, or_true, true_or, false_or, or_false, false_and, and_false, Option.toList_some, Option.toList_none, List.cons_append, List.nil_append, n10, n01, e10, e01, e08, e18, e28, e38, e48, e58, e68, e78, lt_lit, nI_add, pk_mul, n_le, n_lt, n_eq, n_cl, n_in, n_sub, n_div, n_rem, n_ite, Nat.zero_add, k_0, k_51]
  exact hn hi2 hl2 q2
set_option maxRecDepth 20000 in
theorem law_19 (hi6 : i + 6 ≤ xN u) (hN : xN u ≤ 3072) (h : Pr u B' 75 166 [] hi hl) (hn : ∀ hi2 hl2, InvE B' hi2 hl2 → Wp u 228 18 [.ref 99, .ref 0, .ref 51, .int (nI (i + 6))] [] hi2 hl2 K) : vc u (n + 150) 228 797 [.ref 99, .ref 0, .ref 51, .int (nI i)] [] hi hl K := by
  unfold Pr at h
  simp (disch := omega) only [b_Law_law_797, true_and, and_true, true_implies, false_implies, not_true_eq_false, not_false_eq_true, eq_self, or_true, true_or, false_or, or_false, false_and, and_false, Option.toList_some, Option.toList_none, List.cons_append, List.nil_append, n10, n01, e10, e01, e08, e18, e28, e38, e48, e58, e68, e78, lt_lit, nI_add, pk_mul, n_le, n_lt, n_eq, n_cl, n_in, n_sub, n_div, n_rem, n_ite, Nat.zero_add, k_0, k_51]
  refine Call.mono h ?_
  intro r hi1 hl1 hr
  obtain ⟨v, e, q⟩ := hr
  subst e
  simp (disch := omega) only [b_Law_law_801, true_and, and_true, true_implies, false_implies, not_true_eq_false, not_false_eq_true, eq_self, or_true, true_or, false_or, or_false, false_and, and_false, Option.toList_some, Option.toList_none, List.cons_append, List.nil_append, n10, n01, e10, e01, e08, e18, e28, e38, e48, e58, e68, e78, lt_lit, nI_add, pk_mul, n_le, n_lt, n_eq, n_cl, n_in, n_sub, n_div, n_rem, n_ite, Nat.zero_add, k_0, k_51]
  refine Call.mono q ?_
  intro r' hi2 hl2 hr
  obtain ⟨e, q2⟩ := hr
  subst e
  simp (disch := omega) only [b_Law_law_806, b_Law_law_1594, true_and, and_true, true_implies, false_implies, not_true_eq_false, not_false_eq_true, eq_self, or_true, true_or, false_or, or_false, false_and, and_false, Option.toList_some, Option.toList_none, List.cons_append, List.nil_append, n10, n01, e10, e01, e08, e18, e28, e38, e48, e58, e68, e78, lt_lit, nI_add, pk_mul, n_le, n_lt, n_eq, n_cl, n_in, n_sub, n_div, n_rem, n_ite, Nat.zero_add, k_0, k_51]
  exact hn hi2 hl2 q2
set_option maxRecDepth 20000 in
theorem law_20 (hi6 : i + 6 ≤ xN u) (hN : xN u ≤ 3072) (h : Pr u B' 76 167 [] hi hl) (hn : ∀ hi2 hl2, InvE B' hi2 hl2 → Wp u 228 18 [.ref 99, .ref 0, .ref 51, .int (nI (i + 6))] [] hi2 hl2 K) : vc u (n + 150) 228 810 [.ref 99, .ref 0, .ref 51, .int (nI i)] [] hi hl K := by
  unfold Pr at h
  simp (disch := omega) only [b_Law_law_810, true_and, and_true, true_implies, false_implies, not_true_eq_false, not_false_eq_true, eq_self, or_true, true_or, false_or, or_false, false_and, and_false, Option.toList_some, Option.toList_none, List.cons_append, List.nil_append, n10, n01, e10, e01, e08, e18, e28, e38, e48, e58, e68, e78, lt_lit, nI_add, pk_mul, n_le, n_lt, n_eq, n_cl, n_in, n_sub, n_div, n_rem, n_ite, Nat.zero_add, k_0, k_51]
  refine Call.mono h ?_
  intro r hi1 hl1 hr
  obtain ⟨v, e, q⟩ := hr
  subst e
  simp (disch := omega) only [b_Law_law_814, true_and, and_true, true_implies, false_implies, not_true_eq_false, not_false_eq_true, eq_self, or_true, true_or, false_or, or_false, false_and, and_false, Option.toList_some, Option.toList_none, List.cons_append, List.nil_append, n10, n01, e10, e01, e08, e18, e28, e38, e48, e58, e68, e78, lt_lit, nI_add, pk_mul, n_le, n_lt, n_eq, n_cl, n_in, n_sub, n_div, n_rem, n_ite, Nat.zero_add, k_0, k_51]
  refine Call.mono q ?_
  intro r' hi2 hl2 hr
  obtain ⟨e, q2⟩ := hr
  subst e
  simp (disch := omega) only [b_Law_law_819, b_Law_law_1594, true_and, and_true, true_implies, false_implies, not_true_eq_false, not_false_eq_true, eq_self, or_true, true_or, false_or, or_false, false_and, and_false, Option.toList_some, Option.toList_none, List.cons_append, List.nil_append, n10, n01, e10, e01, e08, e18, e28, e38, e48, e58, e68, e78, lt_lit, nI_add, pk_mul, n_le, n_lt, n_eq, n_cl, n_in, n_sub, n_div, n_rem, n_ite, Nat.zero_add, k_0, k_51]
  exact hn hi2 hl2 q2
set_option maxRecDepth 20000 in
theorem law_21 (hi6 : i + 6 ≤ xN u) (hN : xN u ≤ 3072) (h : Pr u B' 77 168 [.int (xX u (i + 1)), .int (xX u (i + 2))] hi hl) (hn : ∀ hi2 hl2, InvE B' hi2 hl2 → Wp u 228 18 [.ref 99, .ref 0, .ref 51, .int (nI (i + 6))] [] hi2 hl2 K) : vc u (n + 150) 228 823 [.ref 99, .ref 0, .ref 51, .int (nI i)] [] hi hl K := by
  unfold Pr at h
  simp (disch := omega) only [b_Law_law_823, true_and, and_true, true_implies, false_implies, not_true_eq_false, not_false_eq_true, eq_self, or_true, true_or, false_or, or_false, false_and, and_false, Option.toList_some, Option.toList_none, List.cons_append, List.nil_append, n10, n01, e10, e01, e08, e18, e28, e38, e48, e58, e68, e78, lt_lit, nI_add, pk_mul, n_le, n_lt, n_eq, n_cl, n_in, n_sub, n_div, n_rem, n_ite, Nat.zero_add, k_0, k_51]
  refine Call.mono h ?_
  intro r hi1 hl1 hr
  obtain ⟨v, e, q⟩ := hr
  subst e
  simp (disch := omega) only [b_Law_law_837, true_and, and_true, true_implies, false_implies, not_true_eq_false, not_false_eq_true, eq_self, or_true, true_or, false_or, or_false, false_and, and_false, Option.toList_some, Option.toList_none, List.cons_append, List.nil_append, n10, n01, e10, e01, e08, e18, e28, e38, e48, e58, e68, e78, lt_lit, nI_add, pk_mul, n_le, n_lt, n_eq, n_cl, n_in, n_sub, n_div, n_rem, n_ite, Nat.zero_add, k_0, k_51]
  refine Call.mono q ?_
  intro r' hi2 hl2 hr
  obtain ⟨e, q2⟩ := hr
  subst e
  simp (disch := omega) only [b_Law_law_852, b_Law_law_1594, true_and, and_true, true_implies, false_implies, not_true_eq_false, not_false_eq_true, eq_self, or_true, true_or, false_or, or_false, false_and, and_false, Option.toList_some, Option.toList_none, List.cons_append, List.nil_append, n10, n01, e10, e01, e08, e18, e28, e38, e48, e58, e68, e78, lt_lit, nI_add, pk_mul, n_le, n_lt, n_eq, n_cl, n_in, n_sub, n_div, n_rem, n_ite, Nat.zero_add, k_0, k_51]
  exact hn hi2 hl2 q2
set_option maxRecDepth 20000 in
theorem law_22 (hi6 : i + 6 ≤ xN u) (hN : xN u ≤ 3072) (h : Pr u B' 79 169 [.int (xX u (i + 1))] hi hl) (hn : ∀ hi2 hl2, InvE B' hi2 hl2 → Wp u 228 18 [.ref 99, .ref 0, .ref 51, .int (nI (i + 6))] [] hi2 hl2 K) : vc u (n + 150) 228 856 [.ref 99, .ref 0, .ref 51, .int (nI i)] [] hi hl K := by
  unfold Pr at h
  simp (disch := omega) only [b_Law_law_856, true_and, and_true, true_implies, false_implies, not_true_eq_false, not_false_eq_true, eq_self, or_true, true_or, false_or, or_false, false_and, and_false, Option.toList_some, Option.toList_none, List.cons_append, List.nil_append, n10, n01, e10, e01, e08, e18, e28, e38, e48, e58, e68, e78, lt_lit, nI_add, pk_mul, n_le, n_lt, n_eq, n_cl, n_in, n_sub, n_div, n_rem, n_ite, Nat.zero_add, k_0, k_51]
  refine Call.mono h ?_
  intro r hi1 hl1 hr
  obtain ⟨v, e, q⟩ := hr
  subst e
  simp (disch := omega) only [b_Law_law_865, true_and, and_true, true_implies, false_implies, not_true_eq_false, not_false_eq_true, eq_self, or_true, true_or, false_or, or_false, false_and, and_false, Option.toList_some, Option.toList_none, List.cons_append, List.nil_append, n10, n01, e10, e01, e08, e18, e28, e38, e48, e58, e68, e78, lt_lit, nI_add, pk_mul, n_le, n_lt, n_eq, n_cl, n_in, n_sub, n_div, n_rem, n_ite, Nat.zero_add, k_0, k_51]
  refine Call.mono q ?_
  intro r' hi2 hl2 hr
  obtain ⟨e, q2⟩ := hr
  subst e
  simp (disch := omega) only [b_Law_law_875, b_Law_law_1594, true_and, and_true, true_implies, false_implies, not_true_eq_false, not_false_eq_true, eq_self, or_true, true_or, false_or, or_false, false_and, and_false, Option.toList_some, Option.toList_none, List.cons_append, List.nil_append, n10, n01, e10, e01, e08, e18, e28, e38, e48, e58, e68, e78, lt_lit, nI_add, pk_mul, n_le, n_lt, n_eq, n_cl, n_in, n_sub, n_div, n_rem, n_ite, Nat.zero_add, k_0, k_51]
  exact hn hi2 hl2 q2
set_option maxRecDepth 20000 in
theorem law_23 (hi6 : i + 6 ≤ xN u) (hN : xN u ≤ 3072) (h : Pr u B' 80 170 [.int (xX u (i + 1))] hi hl) (hn : ∀ hi2 hl2, InvE B' hi2 hl2 → Wp u 228 18 [.ref 99, .ref 0, .ref 51, .int (nI (i + 6))] [] hi2 hl2 K) : vc u (n + 150) 228 879 [.ref 99, .ref 0, .ref 51, .int (nI i)] [] hi hl K := by
  unfold Pr at h
  simp (disch := omega) only [b_Law_law_879, true_and, and_true, true_implies, false_implies, not_true_eq_false, not_false_eq_true, eq_self, or_true, true_or, false_or, or_false, false_and, and_false, Option.toList_some, Option.toList_none, List.cons_append, List.nil_append, n10, n01, e10, e01, e08, e18, e28, e38, e48, e58, e68, e78, lt_lit, nI_add, pk_mul, n_le, n_lt, n_eq, n_cl, n_in, n_sub, n_div, n_rem, n_ite, Nat.zero_add, k_0, k_51]
  refine Call.mono h ?_
  intro r hi1 hl1 hr
  obtain ⟨v, e, q⟩ := hr
  subst e
  simp (disch := omega) only [b_Law_law_888, true_and, and_true, true_implies, false_implies, not_true_eq_false, not_false_eq_true, eq_self, or_true, true_or, false_or, or_false, false_and, and_false, Option.toList_some, Option.toList_none, List.cons_append, List.nil_append, n10, n01, e10, e01, e08, e18, e28, e38, e48, e58, e68, e78, lt_lit, nI_add, pk_mul, n_le, n_lt, n_eq, n_cl, n_in, n_sub, n_div, n_rem, n_ite, Nat.zero_add, k_0, k_51]
  refine Call.mono q ?_
  intro r' hi2 hl2 hr
  obtain ⟨e, q2⟩ := hr
  subst e
  simp (disch := omega) only [b_Law_law_898, b_Law_law_1594, true_and, and_true, true_implies, false_implies, not_true_eq_false, not_false_eq_true, eq_self, or_true, true_or, false_or, or_false, false_and, and_false, Option.toList_some, Option.toList_none, List.cons_append, List.nil_append, n10, n01, e10, e01, e08, e18, e28, e38, e48, e58, e68, e78, lt_lit, nI_add, pk_mul, n_le, n_lt, n_eq, n_cl, n_in, n_sub, n_div, n_rem, n_ite, Nat.zero_add, k_0, k_51]
  exact hn hi2 hl2 q2
set_option maxRecDepth 20000 in
theorem law_24 (hi6 : i + 6 ≤ xN u) (hN : xN u ≤ 3072) (h : Pr u B' 81 171 [.int (xX u (i + 1))] hi hl) (hn : ∀ hi2 hl2, InvE B' hi2 hl2 → Wp u 228 18 [.ref 99, .ref 0, .ref 51, .int (nI (i + 6))] [] hi2 hl2 K) : vc u (n + 150) 228 902 [.ref 99, .ref 0, .ref 51, .int (nI i)] [] hi hl K := by
  unfold Pr at h
  simp (disch := omega) only [b_Law_law_902, true_and, and_true, true_implies, false_implies, not_true_eq_false, not_false_eq_true, eq_self, or_true, true_or, false_or, or_false, false_and, and_false, Option.toList_some, Option.toList_none, List.cons_append, List.nil_append, n10, n01, e10, e01, e08, e18, e28, e38, e48, e58, e68, e78, lt_lit, nI_add, pk_mul, n_le, n_lt, n_eq, n_cl, n_in, n_sub, n_div, n_rem, n_ite, Nat.zero_add, k_0, k_51]
  refine Call.mono h ?_
  intro r hi1 hl1 hr
  obtain ⟨v, e, q⟩ := hr
  subst e
  simp (disch := omega) only [b_Law_law_911, true_and, and_true, true_implies, false_implies, not_true_eq_false, not_false_eq_true, eq_self, or_true, true_or, false_or, or_false, false_and, and_false, Option.toList_some, Option.toList_none, List.cons_append, List.nil_append, n10, n01, e10, e01, e08, e18, e28, e38, e48, e58, e68, e78, lt_lit, nI_add, pk_mul, n_le, n_lt, n_eq, n_cl, n_in, n_sub, n_div, n_rem, n_ite, Nat.zero_add, k_0, k_51]
  refine Call.mono q ?_
  intro r' hi2 hl2 hr
  obtain ⟨e, q2⟩ := hr
  subst e
  simp (disch := omega) only [b_Law_law_921, b_Law_law_1594, true_and, and_true, true_implies, false_implies, not_true_eq_false, not_false_eq_true, eq_self, or_true, true_or, false_or, or_false, false_and, and_false, Option.toList_some, Option.toList_none, List.cons_append, List.nil_append, n10, n01, e10, e01, e08, e18, e28, e38, e48, e58, e68, e78, lt_lit, nI_add, pk_mul, n_le, n_lt, n_eq, n_cl, n_in, n_sub, n_div, n_rem, n_ite, Nat.zero_add, k_0, k_51]
  exact hn hi2 hl2 q2
set_option maxRecDepth 20000 in
theorem law_25 (hi6 : i + 6 ≤ xN u) (hN : xN u ≤ 3072) (h : Pr u B' 82 172 [.int (xX u (i + 1))] hi hl) (hn : ∀ hi2 hl2, InvE B' hi2 hl2 → Wp u 228 18 [.ref 99, .ref 0, .ref 51, .int (nI (i + 6))] [] hi2 hl2 K) : vc u (n + 150) 228 925 [.ref 99, .ref 0, .ref 51, .int (nI i)] [] hi hl K := by
  unfold Pr at h
  simp (disch := omega) only [b_Law_law_925, true_and, and_true, true_implies, false_implies, not_true_eq_false, not_false_eq_true, eq_self, or_true, true_or, false_or, or_false, false_and, and_false, Option.toList_some, Option.toList_none, List.cons_append, List.nil_append, n10, n01, e10, e01, e08, e18, e28, e38, e48, e58, e68, e78, lt_lit, nI_add, pk_mul, n_le, n_lt, n_eq, n_cl, n_in, n_sub, n_div, n_rem, n_ite, Nat.zero_add, k_0, k_51]
  refine Call.mono h ?_
  intro r hi1 hl1 hr
  obtain ⟨v, e, q⟩ := hr
  subst e
  simp (disch := omega) only [b_Law_law_934, true_and, and_true, true_implies, false_implies, not_true_eq_false, not_false_eq_true, eq_self, or_true, true_or, false_or, or_false, false_and, and_false, Option.toList_some, Option.toList_none, List.cons_append, List.nil_append, n10, n01, e10, e01, e08, e18, e28, e38, e48, e58, e68, e78, lt_lit, nI_add, pk_mul, n_le, n_lt, n_eq, n_cl, n_in, n_sub, n_div, n_rem, n_ite, Nat.zero_add, k_0, k_51]
  refine Call.mono q ?_
  intro r' hi2 hl2 hr
  obtain ⟨e, q2⟩ := hr
  subst e
  simp (disch := omega) only [b_Law_law_944, b_Law_law_1594, true_and, and_true, true_implies, false_implies, not_true_eq_false, not_false_eq_true, eq_self, or_true, true_or, false_or, or_false, false_and, and_false, Option.toList_some, Option.toList_none, List.cons_append, List.nil_append, n10, n01, e10, e01, e08, e18, e28, e38, e48, e58, e68, e78, lt_lit, nI_add, pk_mul, n_le, n_lt, n_eq, n_cl, n_in, n_sub, n_div, n_rem, n_ite, Nat.zero_add, k_0, k_51]
  exact hn hi2 hl2 q2
set_option maxRecDepth 20000 in
theorem law_26 (hi6 : i + 6 ≤ xN u) (hN : xN u ≤ 3072) (h : Pr u B' 83 174 [.int (xX u (i + 1))] hi hl) (hn : ∀ hi2 hl2, InvE B' hi2 hl2 → Wp u 228 18 [.ref 99, .ref 0, .ref 51, .int (nI (i + 6))] [] hi2 hl2 K) : vc u (n + 150) 228 948 [.ref 99, .ref 0, .ref 51, .int (nI i)] [] hi hl K := by
  unfold Pr at h
  simp (disch := omega) only [b_Law_law_948, true_and, and_true, true_implies, false_implies, not_true_eq_false, not_false_eq_true, eq_self, or_true, true_or, false_or, or_false, false_and, and_false, Option.toList_some, Option.toList_none, List.cons_append, List.nil_append, n10, n01, e10, e01, e08, e18, e28, e38, e48, e58, e68, e78, lt_lit, nI_add, pk_mul, n_le, n_lt, n_eq, n_cl, n_in, n_sub, n_div, n_rem, n_ite, Nat.zero_add, k_0, k_51]
  refine Call.mono h ?_
  intro r hi1 hl1 hr
  obtain ⟨v, e, q⟩ := hr
  subst e
  simp (disch := omega) only [b_Law_law_957, true_and, and_true, true_implies, false_implies, not_true_eq_false, not_false_eq_true, eq_self, or_true, true_or, false_or, or_false, false_and, and_false, Option.toList_some, Option.toList_none, List.cons_append, List.nil_append, n10, n01, e10, e01, e08, e18, e28, e38, e48, e58, e68, e78, lt_lit, nI_add, pk_mul, n_le, n_lt, n_eq, n_cl, n_in, n_sub, n_div, n_rem, n_ite, Nat.zero_add, k_0, k_51]
  refine Call.mono q ?_
  intro r' hi2 hl2 hr
  obtain ⟨e, q2⟩ := hr
  subst e
  simp (disch := omega) only [b_Law_law_967, b_Law_law_1594, true_and, and_true, true_implies, false_implies, not_true_eq_false, not_false_eq_true, eq_self, or_true, true_or, false_or, or_false, false_and, and_false, Option.toList_some, Option.toList_none, List.cons_append, List.nil_append, n10, n01, e10, e01, e08, e18, e28, e38, e48, e58, e68, e78, lt_lit, nI_add, pk_mul, n_le, n_lt, n_eq, n_cl, n_in, n_sub, n_div, n_rem, n_ite, Nat.zero_add, k_0, k_51]
  exact hn hi2 hl2 q2
set_option maxRecDepth 20000 in
theorem law_27 (hi6 : i + 6 ≤ xN u) (hN : xN u ≤ 3072) (h : Pr u B' 84 175 [.int (xX u (i + 1))] hi hl) (hn : ∀ hi2 hl2, InvE B' hi2 hl2 → Wp u 228 18 [.ref 99, .ref 0, .ref 51, .int (nI (i + 6))] [] hi2 hl2 K) : vc u (n + 150) 228 971 [.ref 99, .ref 0, .ref 51, .int (nI i)] [] hi hl K := by
  unfold Pr at h
  simp (disch := omega) only [b_Law_law_971, true_and, and_true, true_implies, false_implies, not_true_eq_false, not_false_eq_true, eq_self, or_true, true_or, false_or, or_false, false_and, and_false, Option.toList_some, Option.toList_none, List.cons_append, List.nil_append, n10, n01, e10, e01, e08, e18, e28, e38, e48, e58, e68, e78, lt_lit, nI_add, pk_mul, n_le, n_lt, n_eq, n_cl, n_in, n_sub, n_div, n_rem, n_ite, Nat.zero_add, k_0, k_51]
  refine Call.mono h ?_
  intro r hi1 hl1 hr
  obtain ⟨v, e, q⟩ := hr
  subst e
  simp (disch := omega) only [b_Law_law_980, true_and, and_true, true_implies, false_implies, not_true_eq_false, not_false_eq_true, eq_self, or_true, true_or, false_or, or_false, false_and, and_false, Option.toList_some, Option.toList_none, List.cons_append, List.nil_append, n10, n01, e10, e01, e08, e18, e28, e38, e48, e58, e68, e78, lt_lit, nI_add, pk_mul, n_le, n_lt, n_eq, n_cl, n_in, n_sub, n_div, n_rem, n_ite, Nat.zero_add, k_0, k_51]
  refine Call.mono q ?_
  intro r' hi2 hl2 hr
  obtain ⟨e, q2⟩ := hr
  subst e
  simp (disch := omega) only [b_Law_law_990, b_Law_law_1594, true_and, and_true, true_implies, false_implies, not_true_eq_false, not_false_eq_true, eq_self, or_true, true_or, false_or, or_false, false_and, and_false, Option.toList_some, Option.toList_none, List.cons_append, List.nil_append, n10, n01, e10, e01, e08, e18, e28, e38, e48, e58, e68, e78, lt_lit, nI_add, pk_mul, n_le, n_lt, n_eq, n_cl, n_in, n_sub, n_div, n_rem, n_ite, Nat.zero_add, k_0, k_51]
  exact hn hi2 hl2 q2
set_option maxRecDepth 20000 in
theorem law_28 (hi6 : i + 6 ≤ xN u) (hN : xN u ≤ 3072) (h : Pr u B' 85 176 [.int (xX u (i + 1)), .int (xX u (i + 2)), .int (xX u (i + 3))] hi hl) (hn : ∀ hi2 hl2, InvE B' hi2 hl2 → Wp u 228 18 [.ref 99, .ref 0, .ref 51, .int (nI (i + 6))] [] hi2 hl2 K) : vc u (n + 150) 228 994 [.ref 99, .ref 0, .ref 51, .int (nI i)] [] hi hl K := by
  unfold Pr at h
  simp (disch := omega) only [b_Law_law_994, true_and, and_true, true_implies, false_implies, not_true_eq_false, not_false_eq_true, eq_self, or_true, true_or, false_or, or_false, false_and, and_false, Option.toList_some, Option.toList_none, List.cons_append, List.nil_append, n10, n01, e10, e01, e08, e18, e28, e38, e48, e58, e68, e78, lt_lit, nI_add, pk_mul, n_le, n_lt, n_eq, n_cl, n_in, n_sub, n_div, n_rem, n_ite, Nat.zero_add, k_0, k_51]
  refine Call.mono h ?_
  intro r hi1 hl1 hr
  obtain ⟨v, e, q⟩ := hr
  subst e
  simp (disch := omega) only [b_Law_law_1013, true_and, and_true, true_implies, false_implies, not_true_eq_false, not_false_eq_true, eq_self, or_true, true_or, false_or, or_false, false_and, and_false, Option.toList_some, Option.toList_none, List.cons_append, List.nil_append, n10, n01, e10, e01, e08, e18, e28, e38, e48, e58, e68, e78, lt_lit, nI_add, pk_mul, n_le, n_lt, n_eq, n_cl, n_in, n_sub, n_div, n_rem, n_ite, Nat.zero_add, k_0, k_51]
  refine Call.mono q ?_
  intro r' hi2 hl2 hr
  obtain ⟨e, q2⟩ := hr
  subst e
  simp (disch := omega) only [b_Law_law_1033, b_Law_law_1594, true_and, and_true, true_implies, false_implies, not_true_eq_false, not_false_eq_true, eq_self, or_true, true_or, false_or, or_false, false_and, and_false, Option.toList_some, Option.toList_none, List.cons_append, List.nil_append, n10, n01, e10, e01, e08, e18, e28, e38, e48, e58, e68, e78, lt_lit, nI_add, pk_mul, n_le, n_lt, n_eq, n_cl, n_in, n_sub, n_div, n_rem, n_ite, Nat.zero_add, k_0, k_51]
  exact hn hi2 hl2 q2
set_option maxRecDepth 20000 in
theorem law_29 (hi6 : i + 6 ≤ xN u) (hN : xN u ≤ 3072) (h : Pr u B' 86 179 [.int (xX u (i + 1))] hi hl) (hn : ∀ hi2 hl2, InvE B' hi2 hl2 → Wp u 228 18 [.ref 99, .ref 0, .ref 51, .int (nI (i + 6))] [] hi2 hl2 K) : vc u (n + 150) 228 1037 [.ref 99, .ref 0, .ref 51, .int (nI i)] [] hi hl K := by
  unfold Pr at h
  simp (disch := omega) only [b_Law_law_1037, true_and, and_true, true_implies, false_implies, not_true_eq_false, not_false_eq_true, eq_self, or_true, true_or, false_or, or_false, false_and, and_false, Option.toList_some, Option.toList_none, List.cons_append, List.nil_append, n10, n01, e10, e01, e08, e18, e28, e38, e48, e58, e68, e78, lt_lit, nI_add, pk_mul, n_le, n_lt, n_eq, n_cl, n_in, n_sub, n_div, n_rem, n_ite, Nat.zero_add, k_0, k_51]
  refine Call.mono h ?_
  intro r hi1 hl1 hr
  obtain ⟨v, e, q⟩ := hr
  subst e
  simp (disch := omega) only [b_Law_law_1046, true_and, and_true, true_implies, false_implies, not_true_eq_false, not_false_eq_true, eq_self, or_true, true_or, false_or, or_false, false_and, and_false, Option.toList_some, Option.toList_none, List.cons_append, List.nil_append, n10, n01, e10, e01, e08, e18, e28, e38, e48, e58, e68, e78, lt_lit, nI_add, pk_mul, n_le, n_lt, n_eq, n_cl, n_in, n_sub, n_div, n_rem, n_ite, Nat.zero_add, k_0, k_51]
  refine Call.mono q ?_
  intro r' hi2 hl2 hr
  obtain ⟨e, q2⟩ := hr
  subst e
  simp (disch := omega) only [b_Law_law_1056, b_Law_law_1594, true_and, and_true, true_implies, false_implies, not_true_eq_false, not_false_eq_true, eq_self, or_true, true_or, false_or, or_false, false_and, and_false, Option.toList_some, Option.toList_none, List.cons_append, List.nil_append, n10, n01, e10, e01, e08, e18, e28, e38, e48, e58, e68, e78, lt_lit, nI_add, pk_mul, n_le, n_lt, n_eq, n_cl, n_in, n_sub, n_div, n_rem, n_ite, Nat.zero_add, k_0, k_51]
  exact hn hi2 hl2 q2
set_option maxRecDepth 20000 in
theorem law_30 (hi6 : i + 6 ≤ xN u) (hN : xN u ≤ 3072) (h : Pr u B' 87 180 [.int (xX u (i + 1))] hi hl) (hn : ∀ hi2 hl2, InvE B' hi2 hl2 → Wp u 228 18 [.ref 99, .ref 0, .ref 51, .int (nI (i + 6))] [] hi2 hl2 K) : vc u (n + 150) 228 1060 [.ref 99, .ref 0, .ref 51, .int (nI i)] [] hi hl K := by
  unfold Pr at h
  simp (disch := omega) only [b_Law_law_1060, true_and, and_true, true_implies, false_implies, not_true_eq_false, not_false_eq_true, eq_self, or_true, true_or, false_or, or_false, false_and, and_false, Option.toList_some, Option.toList_none, List.cons_append, List.nil_append, n10, n01, e10, e01, e08, e18, e28, e38, e48, e58, e68, e78, lt_lit, nI_add, pk_mul, n_le, n_lt, n_eq, n_cl, n_in, n_sub, n_div, n_rem, n_ite, Nat.zero_add, k_0, k_51]
  refine Call.mono h ?_
  intro r hi1 hl1 hr
  obtain ⟨v, e, q⟩ := hr
  subst e
  simp (disch := omega) only [b_Law_law_1069, true_and, and_true, true_implies, false_implies, not_true_eq_false, not_false_eq_true, eq_self, or_true, true_or, false_or, or_false, false_and, and_false, Option.toList_some, Option.toList_none, List.cons_append, List.nil_append, n10, n01, e10, e01, e08, e18, e28, e38, e48, e58, e68, e78, lt_lit, nI_add, pk_mul, n_le, n_lt, n_eq, n_cl, n_in, n_sub, n_div, n_rem, n_ite, Nat.zero_add, k_0, k_51]
  refine Call.mono q ?_
  intro r' hi2 hl2 hr
  obtain ⟨e, q2⟩ := hr
  subst e
  simp (disch := omega) only [b_Law_law_1079, b_Law_law_1594, true_and, and_true, true_implies, false_implies, not_true_eq_false, not_false_eq_true, eq_self, or_true, true_or, false_or, or_false, false_and, and_false, Option.toList_some, Option.toList_none, List.cons_append, List.nil_append, n10, n01, e10, e01, e08, e18, e28, e38, e48, e58, e68, e78, lt_lit, nI_add, pk_mul, n_le, n_lt, n_eq, n_cl, n_in, n_sub, n_div, n_rem, n_ite, Nat.zero_add, k_0, k_51]
  exact hn hi2 hl2 q2
set_option maxRecDepth 20000 in
theorem law_31 (hi6 : i + 6 ≤ xN u) (hN : xN u ≤ 3072) (h : Pr u B' 88 181 [] hi hl) (hn : ∀ hi2 hl2, InvE B' hi2 hl2 → Wp u 228 18 [.ref 99, .ref 0, .ref 51, .int (nI (i + 6))] [] hi2 hl2 K) : vc u (n + 150) 228 1083 [.ref 99, .ref 0, .ref 51, .int (nI i)] [] hi hl K := by
  unfold Pr at h
  simp (disch := omega) only [b_Law_law_1083, true_and, and_true, true_implies, false_implies, not_true_eq_false, not_false_eq_true, eq_self, or_true, true_or, false_or, or_false, false_and, and_false, Option.toList_some, Option.toList_none, List.cons_append, List.nil_append, n10, n01, e10, e01, e08, e18, e28, e38, e48, e58, e68, e78, lt_lit, nI_add, pk_mul, n_le, n_lt, n_eq, n_cl, n_in, n_sub, n_div, n_rem, n_ite, Nat.zero_add, k_0, k_51]
  refine Call.mono h ?_
  intro r hi1 hl1 hr
  obtain ⟨v, e, q⟩ := hr
  subst e
  simp (disch := omega) only [b_Law_law_1087, true_and, and_true, true_implies, false_implies, not_true_eq_false, not_false_eq_true, eq_self, or_true, true_or, false_or, or_false, false_and, and_false, Option.toList_some, Option.toList_none, List.cons_append, List.nil_append, n10, n01, e10, e01, e08, e18, e28, e38, e48, e58, e68, e78, lt_lit, nI_add, pk_mul, n_le, n_lt, n_eq, n_cl, n_in, n_sub, n_div, n_rem, n_ite, Nat.zero_add, k_0, k_51]
  refine Call.mono q ?_
  intro r' hi2 hl2 hr
  obtain ⟨e, q2⟩ := hr
  subst e
  simp (disch := omega) only [b_Law_law_1092, b_Law_law_1594, true_and, and_true, true_implies, false_implies, not_true_eq_false, not_false_eq_true, eq_self, or_true, true_or, false_or, or_false, false_and, and_false, Option.toList_some, Option.toList_none, List.cons_append, List.nil_append, n10, n01, e10, e01, e08, e18, e28, e38, e48, e58, e68, e78, lt_lit, nI_add, pk_mul, n_le, n_lt, n_eq, n_cl, n_in, n_sub, n_div, n_rem, n_ite, Nat.zero_add, k_0, k_51]
  exact hn hi2 hl2 q2
set_option maxRecDepth 20000 in
theorem law_32 (hi6 : i + 6 ≤ xN u) (hN : xN u ≤ 3072) (h : Pr u B' 89 182 [.int (xX u (i + 1))] hi hl) (hn : ∀ hi2 hl2, InvE B' hi2 hl2 → Wp u 228 18 [.ref 99, .ref 0, .ref 51, .int (nI (i + 6))] [] hi2 hl2 K) : vc u (n + 150) 228 1096 [.ref 99, .ref 0, .ref 51, .int (nI i)] [] hi hl K := by
  unfold Pr at h
  simp (disch := omega) only [b_Law_law_1096, true_and, and_true, true_implies, false_implies, not_true_eq_false, not_false_eq_true, eq_self, or_true, true_or, false_or, or_false, false_and, and_false, Option.toList_some, Option.toList_none, List.cons_append, List.nil_append, n10, n01, e10, e01, e08, e18, e28, e38, e48, e58, e68, e78, lt_lit, nI_add, pk_mul, n_le, n_lt, n_eq, n_cl, n_in, n_sub, n_div, n_rem, n_ite, Nat.zero_add, k_0, k_51]
  refine Call.mono h ?_
  intro r hi1 hl1 hr
  obtain ⟨v, e, q⟩ := hr
  subst e
  simp (disch := omega) only [b_Law_law_1105, true_and, and_true, true_implies, false_implies, not_true_eq_false, not_false_eq_true, eq_self, or_true, true_or, false_or, or_false, false_and, and_false, Option.toList_some, Option.toList_none, List.cons_append, List.nil_append, n10, n01, e10, e01, e08, e18, e28, e38, e48, e58, e68, e78, lt_lit, nI_add, pk_mul, n_le, n_lt, n_eq, n_cl, n_in, n_sub, n_div, n_rem, n_ite, Nat.zero_add, k_0, k_51]
  refine Call.mono q ?_
  intro r' hi2 hl2 hr
  obtain ⟨e, q2⟩ := hr
  subst e
  simp (disch := omega) only [b_Law_law_1115, b_Law_law_1594, true_and, and_true, true_implies, false_implies, not_true_eq_false, not_false_eq_true, eq_self, or_true, true_or, false_or, or_false, false_and, and_false, Option.toList_some, Option.toList_none, List.cons_append, List.nil_append, n10, n01, e10, e01, e08, e18, e28, e38, e48, e58, e68, e78, lt_lit, nI_add, pk_mul, n_le, n_lt, n_eq, n_cl, n_in, n_sub, n_div, n_rem, n_ite, Nat.zero_add, k_0, k_51]
  exact hn hi2 hl2 q2
set_option maxRecDepth 20000 in
theorem law_33 (hi6 : i + 6 ≤ xN u) (hN : xN u ≤ 3072) (h : PrL u B' 90 184 [.int (xX u (i + 1)), .int (xX u (i + 2)), .int (xX u (i + 3)), .int (xX u (i + 4))] hi hl) (hn : ∀ hi2 hl2, InvE B' hi2 hl2 → Wp u 228 18 [.ref 99, .ref 0, .ref 51, .int (nI (i + 6))] [] hi2 hl2 K) : vc u (n + 150) 228 1119 [.ref 99, .ref 0, .ref 51, .int (nI i)] [] hi hl K := by
  unfold PrL at h
  simp (disch := omega) only [b_Law_law_1119, true_and, and_true, true_implies, false_implies, not_true_eq_false, not_false_eq_true, eq_self, or_true, true_or, false_or, or_false, false_and, and_false, Option.toList_some, Option.toList_none, List.cons_append, List.nil_append, n10, n01, e10, e01, e08, e18, e28, e38, e48, e58, e68, e78, lt_lit, nI_add, pk_mul, n_le, n_lt, n_eq, n_cl, n_in, n_sub, n_div, n_rem, n_ite, Nat.zero_add, k_0, k_51]
  refine Call.mono h ?_
  intro r hi1 hl1 hr
  obtain ⟨v, e, q⟩ := hr
  subst e
  simp (disch := omega) only [b_Law_law_1143, true_and, and_true, true_implies, false_implies, not_true_eq_false, not_false_eq_true, eq_self, or_true, true_or, false_or, or_false, false_and, and_false, Option.toList_some, Option.toList_none, List.cons_append, List.nil_append, n10, n01, e10, e01, e08, e18, e28, e38, e48, e58, e68, e78, lt_lit, nI_add, pk_mul, n_le, n_lt, n_eq, n_cl, n_in, n_sub, n_div, n_rem, n_ite, Nat.zero_add, k_0, k_51]
  refine Call.mono q ?_
  intro r' hi2 hl2 hr
  obtain ⟨e, q2⟩ := hr
  subst e
  simp (disch := omega) only [b_Law_law_1168, b_Law_law_1594, true_and, and_true, true_implies, false_implies, not_true_eq_false, not_false_eq_true, eq_self, or_true, true_or, false_or, or_false, false_and, and_false, Option.toList_some, Option.toList_none, List.cons_append, List.nil_append, n10, n01, e10, e01, e08, e18, e28, e38, e48, e58, e68, e78, lt_lit, nI_add, pk_mul, n_le, n_lt, n_eq, n_cl, n_in, n_sub, n_div, n_rem, n_ite, Nat.zero_add, k_0, k_51]
  exact hn hi2 hl2 q2
set_option maxRecDepth 20000 in
theorem law_34 (hi6 : i + 6 ≤ xN u) (hN : xN u ≤ 3072) (h : Pr u B' 92 185 [.int (xX u (i + 1)), .int (xX u (i + 2))] hi hl) (hn : ∀ hi2 hl2, InvE B' hi2 hl2 → Wp u 228 18 [.ref 99, .ref 0, .ref 51, .int (nI (i + 6))] [] hi2 hl2 K) : vc u (n + 150) 228 1172 [.ref 99, .ref 0, .ref 51, .int (nI i)] [] hi hl K := by
  unfold Pr at h
  simp (disch := omega) only [b_Law_law_1172, true_and, and_true, true_implies, false_implies, not_true_eq_false, not_false_eq_true, eq_self, or_true, true_or, false_or, or_false, false_and, and_false, Option.toList_some, Option.toList_none, List.cons_append, List.nil_append, n10, n01, e10, e01, e08, e18, e28, e38, e48, e58, e68, e78, lt_lit, nI_add, pk_mul, n_le, n_lt, n_eq, n_cl, n_in, n_sub, n_div, n_rem, n_ite, Nat.zero_add, k_0, k_51]
  refine Call.mono h ?_
  intro r hi1 hl1 hr
  obtain ⟨v, e, q⟩ := hr
  subst e
  simp (disch := omega) only [b_Law_law_1186, true_and, and_true, true_implies, false_implies, not_true_eq_false, not_false_eq_true, eq_self, or_true, true_or, false_or, or_false, false_and, and_false, Option.toList_some, Option.toList_none, List.cons_append, List.nil_append, n10, n01, e10, e01, e08, e18, e28, e38, e48, e58, e68, e78, lt_lit, nI_add, pk_mul, n_le, n_lt, n_eq, n_cl, n_in, n_sub, n_div, n_rem, n_ite, Nat.zero_add, k_0, k_51]
  refine Call.mono q ?_
  intro r' hi2 hl2 hr
  obtain ⟨e, q2⟩ := hr
  subst e
  simp (disch := omega) only [b_Law_law_1201, b_Law_law_1594, true_and, and_true, true_implies, false_implies, not_true_eq_false, not_false_eq_true, eq_self, or_true, true_or, false_or, or_false, false_and, and_false, Option.toList_some, Option.toList_none, List.cons_append, List.nil_append, n10, n01, e10, e01, e08, e18, e28, e38, e48, e58, e68, e78, lt_lit, nI_add, pk_mul, n_le, n_lt, n_eq, n_cl, n_in, n_sub, n_div, n_rem, n_ite, Nat.zero_add, k_0, k_51]
  exact hn hi2 hl2 q2
set_option maxRecDepth 20000 in
theorem law_35 (hi6 : i + 6 ≤ xN u) (hN : xN u ≤ 3072) (h : Pr u B' 93 186 [] hi hl) (hn : ∀ hi2 hl2, InvE B' hi2 hl2 → Wp u 228 18 [.ref 99, .ref 0, .ref 51, .int (nI (i + 6))] [] hi2 hl2 K) : vc u (n + 150) 228 1205 [.ref 99, .ref 0, .ref 51, .int (nI i)] [] hi hl K := by
  unfold Pr at h
  simp (disch := omega) only [b_Law_law_1205, true_and, and_true, true_implies, false_implies, not_true_eq_false, not_false_eq_true, eq_self, or_true, true_or, false_or, or_false, false_and, and_false, Option.toList_some, Option.toList_none, List.cons_append, List.nil_append, n10, n01, e10, e01, e08, e18, e28, e38, e48, e58, e68, e78, lt_lit, nI_add, pk_mul, n_le, n_lt, n_eq, n_cl, n_in, n_sub, n_div, n_rem, n_ite, Nat.zero_add, k_0, k_51]
  refine Call.mono h ?_
  intro r hi1 hl1 hr
  obtain ⟨v, e, q⟩ := hr
  subst e
  simp (disch := omega) only [b_Law_law_1209, true_and, and_true, true_implies, false_implies, not_true_eq_false, not_false_eq_true, eq_self, or_true, true_or, false_or, or_false, false_and, and_false, Option.toList_some, Option.toList_none, List.cons_append, List.nil_append, n10, n01, e10, e01, e08, e18, e28, e38, e48, e58, e68, e78, lt_lit, nI_add, pk_mul, n_le, n_lt, n_eq, n_cl, n_in, n_sub, n_div, n_rem, n_ite, Nat.zero_add, k_0, k_51]
  refine Call.mono q ?_
  intro r' hi2 hl2 hr
  obtain ⟨e, q2⟩ := hr
  subst e
  simp (disch := omega) only [b_Law_law_1214, b_Law_law_1594, true_and, and_true, true_implies, false_implies, not_true_eq_false, not_false_eq_true, eq_self, or_true, true_or, false_or, or_false, false_and, and_false, Option.toList_some, Option.toList_none, List.cons_append, List.nil_append, n10, n01, e10, e01, e08, e18, e28, e38, e48, e58, e68, e78, lt_lit, nI_add, pk_mul, n_le, n_lt, n_eq, n_cl, n_in, n_sub, n_div, n_rem, n_ite, Nat.zero_add, k_0, k_51]
  exact hn hi2 hl2 q2
set_option maxRecDepth 20000 in
theorem law_36 (hi6 : i + 6 ≤ xN u) (hN : xN u ≤ 3072) (h : Pr u B' 94 199 [] hi hl) (hn : ∀ hi2 hl2, InvE B' hi2 hl2 → Wp u 228 18 [.ref 99, .ref 0, .ref 51, .int (nI (i + 6))] [] hi2 hl2 K) : vc u (n + 150) 228 1218 [.ref 99, .ref 0, .ref 51, .int (nI i)] [] hi hl K := by
  unfold Pr at h
  simp (disch := omega) only [b_Law_law_1218, true_and, and_true, true_implies, false_implies, not_true_eq_false, not_false_eq_true, eq_self, or_true, true_or, false_or, or_false, false_and, and_false, Option.toList_some, Option.toList_none, List.cons_append, List.nil_append, n10, n01, e10, e01, e08, e18, e28, e38, e48, e58, e68, e78, lt_lit, nI_add, pk_mul, n_le, n_lt, n_eq, n_cl, n_in, n_sub, n_div, n_rem, n_ite, Nat.zero_add, k_0, k_51]
  refine Call.mono h ?_
  intro r hi1 hl1 hr
  obtain ⟨v, e, q⟩ := hr
  subst e
  simp (disch := omega) only [b_Law_law_1222, true_and, and_true, true_implies, false_implies, not_true_eq_false, not_false_eq_true, eq_self, or_true, true_or, false_or, or_false, false_and, and_false, Option.toList_some, Option.toList_none, List.cons_append, List.nil_append, n10, n01, e10, e01, e08, e18, e28, e38, e48, e58, e68, e78, lt_lit, nI_add, pk_mul, n_le, n_lt, n_eq, n_cl, n_in, n_sub, n_div, n_rem, n_ite, Nat.zero_add, k_0, k_51]
  refine Call.mono q ?_
  intro r' hi2 hl2 hr
  obtain ⟨e, q2⟩ := hr
  subst e
  simp (disch := omega) only [b_Law_law_1227, b_Law_law_1594, true_and, and_true, true_implies, false_implies, not_true_eq_false, not_false_eq_true, eq_self, or_true, true_or, false_or, or_false, false_and, and_false, Option.toList_some, Option.toList_none, List.cons_append, List.nil_append, n10, n01, e10, e01, e08, e18, e28, e38, e48, e58, e68, e78, lt_lit, nI_add, pk_mul, n_le, n_lt, n_eq, n_cl, n_in, n_sub, n_div, n_rem, n_ite, Nat.zero_add, k_0, k_51]
  exact hn hi2 hl2 q2
set_option maxRecDepth 20000 in
theorem law_37 (hi6 : i + 6 ≤ xN u) (hN : xN u ≤ 3072) (h : Pr u B' 95 202 [.int (xX u (i + 1)), .int (xX u (i + 2)), .int (xX u (i + 3))] hi hl) (hn : ∀ hi2 hl2, InvE B' hi2 hl2 → Wp u 228 18 [.ref 99, .ref 0, .ref 51, .int (nI (i + 6))] [] hi2 hl2 K) : vc u (n + 150) 228 1231 [.ref 99, .ref 0, .ref 51, .int (nI i)] [] hi hl K := by
  unfold Pr at h
  simp (disch := omega) only [b_Law_law_1231, true_and, and_true, true_implies, false_implies, not_true_eq_false, not_false_eq_true, eq_self, or_true, true_or, false_or, or_false, false_and, and_false, Option.toList_some, Option.toList_none, List.cons_append, List.nil_append, n10, n01, e10, e01, e08, e18, e28, e38, e48, e58, e68, e78, lt_lit, nI_add, pk_mul, n_le, n_lt, n_eq, n_cl, n_in, n_sub, n_div, n_rem, n_ite, Nat.zero_add, k_0, k_51]
  refine Call.mono h ?_
  intro r hi1 hl1 hr
  obtain ⟨v, e, q⟩ := hr
  subst e
  simp (disch := omega) only [b_Law_law_1250, true_and, and_true, true_implies, false_implies, not_true_eq_false, not_false_eq_true, eq_self, or_true, true_or, false_or, or_false, false_and, and_false, Option.toList_some, Option.toList_none, List.cons_append, List.nil_append, n10, n01, e10, e01, e08, e18, e28, e38, e48, e58, e68, e78, lt_lit, nI_add, pk_mul, n_le, n_lt, n_eq, n_cl, n_in, n_sub, n_div, n_rem, n_ite, Nat.zero_add, k_0, k_51]
  refine Call.mono q ?_
  intro r' hi2 hl2 hr
  obtain ⟨e, q2⟩ := hr
  subst e
  simp (disch := omega) only [b_Law_law_1270, b_Law_law_1594, true_and, and_true, true_implies, false_implies, not_true_eq_false, not_false_eq_true, eq_self, or_true, true_or, false_or, or_false, false_and, and_false, Option.toList_some, Option.toList_none, List.cons_append, List.nil_append, n10, n01, e10, e01, e08, e18, e28, e38, e48, e58, e68, e78, lt_lit, nI_add, pk_mul, n_le, n_lt, n_eq, n_cl, n_in, n_sub, n_div, n_rem, n_ite, Nat.zero_add, k_0, k_51]
  exact hn hi2 hl2 q2
set_option maxRecDepth 20000 in
theorem law_38 (hi6 : i + 6 ≤ xN u) (hN : xN u ≤ 3072) (h : ∀ w, PrL u B' 96 203 [.int (xX u (i + 1)), .int (xX u (i + 2)), .long w] hi hl) (hn : ∀ hi2 hl2, InvE B' hi2 hl2 → Wp u 228 18 [.ref 99, .ref 0, .ref 51, .int (nI (i + 6))] [] hi2 hl2 K) : vc u (n + 150) 228 1274 [.ref 99, .ref 0, .ref 51, .int (nI i)] [] hi hl K := by
  unfold PrL at h
  simp (disch := omega) only [b_Law_law_1274, true_and, and_true, true_implies, false_implies, not_true_eq_false, not_false_eq_true, eq_self, or_true, true_or, false_or, or_false, false_and, and_false, Option.toList_some, Option.toList_none, List.cons_append, List.nil_append, n10, n01, e10, e01, e08, e18, e28, e38, e48, e58, e68, e78, lt_lit, nI_add, pk_mul, n_le, n_lt, n_eq, n_cl, n_in, n_sub, n_div, n_rem, n_ite, Nat.zero_add, k_0, k_51]
  refine Call.mono (h _) ?_
  intro r hi1 hl1 hr
  obtain ⟨v, e, q⟩ := hr
  subst e
  simp (disch := omega) only [b_Law_law_1308, true_and, and_true, true_implies, false_implies, not_true_eq_false, not_false_eq_true, eq_self, or_true, true_or, false_or, or_false, false_and, and_false, Option.toList_some, Option.toList_none, List.cons_append, List.nil_append, n10, n01, e10, e01, e08, e18, e28, e38, e48, e58, e68, e78, lt_lit, nI_add, pk_mul, n_le, n_lt, n_eq, n_cl, n_in, n_sub, n_div, n_rem, n_ite, Nat.zero_add, k_0, k_51]
  refine Call.mono q ?_
  intro r' hi2 hl2 hr
  obtain ⟨e, q2⟩ := hr
  subst e
  simp (disch := omega) only [b_Law_law_1343, b_Law_law_1594, true_and, and_true, true_implies, false_implies, not_true_eq_false, not_false_eq_true, eq_self, or_true, true_or, false_or, or_false, false_and, and_false, Option.toList_some, Option.toList_none, List.cons_append, List.nil_append, n10, n01, e10, e01, e08, e18, e28, e38, e48, e58, e68, e78, lt_lit, nI_add, pk_mul, n_le, n_lt, n_eq, n_cl, n_in, n_sub, n_div, n_rem, n_ite, Nat.zero_add, k_0, k_51]
  exact hn hi2 hl2 q2
set_option maxRecDepth 20000 in
theorem law_39 (hi6 : i + 6 ≤ xN u) (hN : xN u ≤ 3072) (h : Pr u B' 97 204 [.int (xX u (i + 1)), .int (xX u (i + 2)), .int (xX u (i + 3)), .int (xX u (i + 4)), .int (xX u (i + 5))] hi hl) (hn : ∀ hi2 hl2, InvE B' hi2 hl2 → Wp u 228 18 [.ref 99, .ref 0, .ref 51, .int (nI (i + 6))] [] hi2 hl2 K) : vc u (n + 150) 228 1347 [.ref 99, .ref 0, .ref 51, .int (nI i)] [] hi hl K := by
  unfold Pr at h
  simp (disch := omega) only [b_Law_law_1347, true_and, and_true, true_implies, false_implies, not_true_eq_false, not_false_eq_true, eq_self, or_true, true_or, false_or, or_false, false_and, and_false, Option.toList_some, Option.toList_none, List.cons_append, List.nil_append, n10, n01, e10, e01, e08, e18, e28, e38, e48, e58, e68, e78, lt_lit, nI_add, pk_mul, n_le, n_lt, n_eq, n_cl, n_in, n_sub, n_div, n_rem, n_ite, Nat.zero_add, k_0, k_51]
  refine Call.mono h ?_
  intro r hi1 hl1 hr
  obtain ⟨v, e, q⟩ := hr
  subst e
  simp (disch := omega) only [b_Law_law_1376, true_and, and_true, true_implies, false_implies, not_true_eq_false, not_false_eq_true, eq_self, or_true, true_or, false_or, or_false, false_and, and_false, Option.toList_some, Option.toList_none, List.cons_append, List.nil_append, n10, n01, e10, e01, e08, e18, e28, e38, e48, e58, e68, e78, lt_lit, nI_add, pk_mul, n_le, n_lt, n_eq, n_cl, n_in, n_sub, n_div, n_rem, n_ite, Nat.zero_add, k_0, k_51]
  refine Call.mono q ?_
  intro r' hi2 hl2 hr
  obtain ⟨e, q2⟩ := hr
  subst e
  simp (disch := omega) only [b_Law_law_1406, b_Law_law_1594, true_and, and_true, true_implies, false_implies, not_true_eq_false, not_false_eq_true, eq_self, or_true, true_or, false_or, or_false, false_and, and_false, Option.toList_some, Option.toList_none, List.cons_append, List.nil_append, n10, n01, e10, e01, e08, e18, e28, e38, e48, e58, e68, e78, lt_lit, nI_add, pk_mul, n_le, n_lt, n_eq, n_cl, n_in, n_sub, n_div, n_rem, n_ite, Nat.zero_add, k_0, k_51]
  exact hn hi2 hl2 q2
set_option maxRecDepth 20000 in
theorem law_40 (hi6 : i + 6 ≤ xN u) (hN : xN u ≤ 3072) (h : Pr u B' 98 205 [.int (xX u (i + 1)), .int (xX u (i + 2))] hi hl) (hn : ∀ hi2 hl2, InvE B' hi2 hl2 → Wp u 228 18 [.ref 99, .ref 0, .ref 51, .int (nI (i + 6))] [] hi2 hl2 K) : vc u (n + 150) 228 1410 [.ref 99, .ref 0, .ref 51, .int (nI i)] [] hi hl K := by
  unfold Pr at h
  simp (disch := omega) only [b_Law_law_1410, true_and, and_true, true_implies, false_implies, not_true_eq_false, not_false_eq_true, eq_self, or_true, true_or, false_or, or_false, false_and, and_false, Option.toList_some, Option.toList_none, List.cons_append, List.nil_append, n10, n01, e10, e01, e08, e18, e28, e38, e48, e58, e68, e78, lt_lit, nI_add, pk_mul, n_le, n_lt, n_eq, n_cl, n_in, n_sub, n_div, n_rem, n_ite, Nat.zero_add, k_0, k_51]
  refine Call.mono h ?_
  intro r hi1 hl1 hr
  obtain ⟨v, e, q⟩ := hr
  subst e
  simp (disch := omega) only [b_Law_law_1424, true_and, and_true, true_implies, false_implies, not_true_eq_false, not_false_eq_true, eq_self, or_true, true_or, false_or, or_false, false_and, and_false, Option.toList_some, Option.toList_none, List.cons_append, List.nil_append, n10, n01, e10, e01, e08, e18, e28, e38, e48, e58, e68, e78, lt_lit, nI_add, pk_mul, n_le, n_lt, n_eq, n_cl, n_in, n_sub, n_div, n_rem, n_ite, Nat.zero_add, k_0, k_51]
  refine Call.mono q ?_
  intro r' hi2 hl2 hr
  obtain ⟨e, q2⟩ := hr
  subst e
  simp (disch := omega) only [b_Law_law_1439, b_Law_law_1594, true_and, and_true, true_implies, false_implies, not_true_eq_false, not_false_eq_true, eq_self, or_true, true_or, false_or, or_false, false_and, and_false, Option.toList_some, Option.toList_none, List.cons_append, List.nil_append, n10, n01, e10, e01, e08, e18, e28, e38, e48, e58, e68, e78, lt_lit, nI_add, pk_mul, n_le, n_lt, n_eq, n_cl, n_in, n_sub, n_div, n_rem, n_ite, Nat.zero_add, k_0, k_51]
  exact hn hi2 hl2 q2
set_option maxRecDepth 20000 in
theorem law_41 (hi6 : i + 6 ≤ xN u) (hN : xN u ≤ 3072) (h : Pr u B' 99 207 [.int (xX u (i + 1)), .int (xX u (i + 2))] hi hl) (hn : ∀ hi2 hl2, InvE B' hi2 hl2 → Wp u 228 18 [.ref 99, .ref 0, .ref 51, .int (nI (i + 6))] [] hi2 hl2 K) : vc u (n + 150) 228 1443 [.ref 99, .ref 0, .ref 51, .int (nI i)] [] hi hl K := by
  unfold Pr at h
  simp (disch := omega) only [b_Law_law_1443, true_and, and_true, true_implies, false_implies, not_true_eq_false, not_false_eq_true, eq_self, or_true, true_or, false_or, or_false, false_and, and_false, Option.toList_some, Option.toList_none, List.cons_append, List.nil_append, n10, n01, e10, e01, e08, e18, e28, e38, e48, e58, e68, e78, lt_lit, nI_add, pk_mul, n_le, n_lt, n_eq, n_cl, n_in, n_sub, n_div, n_rem, n_ite, Nat.zero_add, k_0, k_51]
  refine Call.mono h ?_
  intro r hi1 hl1 hr
  obtain ⟨v, e, q⟩ := hr
  subst e
  simp (disch := omega) only [b_Law_law_1457, true_and, and_true, true_implies, false_implies, not_true_eq_false, not_false_eq_true, eq_self, or_true, true_or, false_or, or_false, false_and, and_false, Option.toList_some, Option.toList_none, List.cons_append, List.nil_append, n10, n01, e10, e01, e08, e18, e28, e38, e48, e58, e68, e78, lt_lit, nI_add, pk_mul, n_le, n_lt, n_eq, n_cl, n_in, n_sub, n_div, n_rem, n_ite, Nat.zero_add, k_0, k_51]
  refine Call.mono q ?_
  intro r' hi2 hl2 hr
  obtain ⟨e, q2⟩ := hr
  subst e
  simp (disch := omega) only [b_Law_law_1472, b_Law_law_1594, true_and, and_true, true_implies, false_implies, not_true_eq_false, not_false_eq_true, eq_self, or_true, true_or, false_or, or_false, false_and, and_false, Option.toList_some, Option.toList_none, List.cons_append, List.nil_append, n10, n01, e10, e01, e08, e18, e28, e38, e48, e58, e68, e78, lt_lit, nI_add, pk_mul, n_le, n_lt, n_eq, n_cl, n_in, n_sub, n_div, n_rem, n_ite, Nat.zero_add, k_0, k_51]
  exact hn hi2 hl2 q2
set_option maxRecDepth 20000 in
theorem law_42 (hi6 : i + 6 ≤ xN u) (hN : xN u ≤ 3072) (h : PrS u B' 100 208 [.int (xX u (i + 1)), .int (xX u (i + 2))] hi hl) (hn : ∀ hi2 hl2, InvE B' hi2 hl2 → Wp u 228 18 [.ref 99, .ref 0, .ref 51, .int (nI (i + 6))] [] hi2 hl2 K) : vc u (n + 150) 228 1476 [.ref 99, .ref 0, .ref 51, .int (nI i)] [] hi hl K := by
  unfold PrS at h
  simp (disch := omega) only [b_Law_law_1476, true_and, and_true, true_implies, false_implies, not_true_eq_false, not_false_eq_true, eq_self, or_true, true_or, false_or, or_false, false_and, and_false, Option.toList_some, Option.toList_none, List.cons_append, List.nil_append, n10, n01, e10, e01, e08, e18, e28, e38, e48, e58, e68, e78, lt_lit, nI_add, pk_mul, n_le, n_lt, n_eq, n_cl, n_in, n_sub, n_div, n_rem, n_ite, Nat.zero_add, k_0, k_51]
  refine Call.mono h ?_
  intro r hi1 hl1 hr
  obtain ⟨v, e, q⟩ := hr
  subst e
  simp (disch := omega) only [b_Law_law_1490, true_and, and_true, true_implies, false_implies, not_true_eq_false, not_false_eq_true, eq_self, or_true, true_or, false_or, or_false, false_and, and_false, Option.toList_some, Option.toList_none, List.cons_append, List.nil_append, n10, n01, e10, e01, e08, e18, e28, e38, e48, e58, e68, e78, lt_lit, nI_add, pk_mul, n_le, n_lt, n_eq, n_cl, n_in, n_sub, n_div, n_rem, n_ite, Nat.zero_add, k_0, k_51]
  refine Call.mono q ?_
  intro r' hi2 hl2 hr
  obtain ⟨v', e, q2⟩ := hr
  subst e
  simp (disch := omega) only [b_Law_law_1505, b_Law_law_1594, true_and, and_true, true_implies, false_implies, not_true_eq_false, not_false_eq_true, eq_self, or_true, true_or, false_or, or_false, false_and, and_false, Option.toList_some, Option.toList_none, List.cons_append, List.nil_append, n10, n01, e10, e01, e08, e18, e28, e38, e48, e58, e68, e78, lt_lit, nI_add, pk_mul, n_le, n_lt, n_eq, n_cl, n_in, n_sub, n_div, n_rem, n_ite, Nat.zero_add, k_0, k_51]
  exact hn hi2 hl2 q2
set_option maxRecDepth 20000 in
theorem law_43 (hi6 : i + 6 ≤ xN u) (hN : xN u ≤ 3072) (h : Pr u B' 102 209 [] hi hl) (hn : ∀ hi2 hl2, InvE B' hi2 hl2 → Wp u 228 18 [.ref 99, .ref 0, .ref 51, .int (nI (i + 6))] [] hi2 hl2 K) : vc u (n + 150) 228 1509 [.ref 99, .ref 0, .ref 51, .int (nI i)] [] hi hl K := by
  unfold Pr at h
  simp (disch := omega) only [b_Law_law_1509, true_and, and_true, true_implies, false_implies, not_true_eq_false, not_false_eq_true, eq_self, or_true, true_or, false_or, or_false, false_and, and_false, Option.toList_some, Option.toList_none, List.cons_append, List.nil_append, n10, n01, e10, e01, e08, e18, e28, e38, e48, e58, e68, e78, lt_lit, nI_add, pk_mul, n_le, n_lt, n_eq, n_cl, n_in, n_sub, n_div, n_rem, n_ite, Nat.zero_add, k_0, k_51]
  refine Call.mono h ?_
  intro r hi1 hl1 hr
  obtain ⟨v, e, q⟩ := hr
  subst e
  simp (disch := omega) only [b_Law_law_1513, true_and, and_true, true_implies, false_implies, not_true_eq_false, not_false_eq_true, eq_self, or_true, true_or, false_or, or_false, false_and, and_false, Option.toList_some, Option.toList_none, List.cons_append, List.nil_append, n10, n01, e10, e01, e08, e18, e28, e38, e48, e58, e68, e78, lt_lit, nI_add, pk_mul, n_le, n_lt, n_eq, n_cl, n_in, n_sub, n_div, n_rem, n_ite, Nat.zero_add, k_0, k_51]
  refine Call.mono q ?_
  intro r' hi2 hl2 hr
  obtain ⟨e, q2⟩ := hr
  subst e
  simp (disch := omega) only [b_Law_law_1518, b_Law_law_1594, true_and, and_true, true_implies, false_implies, not_true_eq_false, not_false_eq_true, eq_self, or_true, true_or, false_or, or_false, false_and, and_false, Option.toList_some, Option.toList_none, List.cons_append, List.nil_append, n10, n01, e10, e01, e08, e18, e28, e38, e48, e58, e68, e78, lt_lit, nI_add, pk_mul, n_le, n_lt, n_eq, n_cl, n_in, n_sub, n_div, n_rem, n_ite, Nat.zero_add, k_0, k_51]
  exact hn hi2 hl2 q2
set_option maxRecDepth 20000 in
theorem law_44 (hi6 : i + 6 ≤ xN u) (hN : xN u ≤ 3072) (h : Pr u B' 103 210 [] hi hl) (hn : ∀ hi2 hl2, InvE B' hi2 hl2 → Wp u 228 18 [.ref 99, .ref 0, .ref 51, .int (nI (i + 6))] [] hi2 hl2 K) : vc u (n + 150) 228 1522 [.ref 99, .ref 0, .ref 51, .int (nI i)] [] hi hl K := by
  unfold Pr at h
  simp (disch := omega) only [b_Law_law_1522, true_and, and_true, true_implies, false_implies, not_true_eq_false, not_false_eq_true, eq_self, or_true, true_or, false_or, or_false, false_and, and_false, Option.toList_some, Option.toList_none, List.cons_append, List.nil_append, n10, n01, e10, e01, e08, e18, e28, e38, e48, e58, e68, e78, lt_lit, nI_add, pk_mul, n_le, n_lt, n_eq, n_cl, n_in, n_sub, n_div, n_rem, n_ite, Nat.zero_add, k_0, k_51]
  refine Call.mono h ?_
  intro r hi1 hl1 hr
  obtain ⟨v, e, q⟩ := hr
  subst e
  simp (disch := omega) only [b_Law_law_1526, true_and, and_true, true_implies, false_implies, not_true_eq_false, not_false_eq_true, eq_self, or_true, true_or, false_or, or_false, false_and, and_false, Option.toList_some, Option.toList_none, List.cons_append, List.nil_append, n10, n01, e10, e01, e08, e18, e28, e38, e48, e58, e68, e78, lt_lit, nI_add, pk_mul, n_le, n_lt, n_eq, n_cl, n_in, n_sub, n_div, n_rem, n_ite, Nat.zero_add, k_0, k_51]
  refine Call.mono q ?_
  intro r' hi2 hl2 hr
  obtain ⟨e, q2⟩ := hr
  subst e
  simp (disch := omega) only [b_Law_law_1531, b_Law_law_1594, true_and, and_true, true_implies, false_implies, not_true_eq_false, not_false_eq_true, eq_self, or_true, true_or, false_or, or_false, false_and, and_false, Option.toList_some, Option.toList_none, List.cons_append, List.nil_append, n10, n01, e10, e01, e08, e18, e28, e38, e48, e58, e68, e78, lt_lit, nI_add, pk_mul, n_le, n_lt, n_eq, n_cl, n_in, n_sub, n_div, n_rem, n_ite, Nat.zero_add, k_0, k_51]
  exact hn hi2 hl2 q2
set_option maxRecDepth 20000 in
theorem law_45 (hi6 : i + 6 ≤ xN u) (hN : xN u ≤ 3072) (h : Pr u B' 104 211 [] hi hl) (hn : ∀ hi2 hl2, InvE B' hi2 hl2 → Wp u 228 18 [.ref 99, .ref 0, .ref 51, .int (nI (i + 6))] [] hi2 hl2 K) : vc u (n + 150) 228 1535 [.ref 99, .ref 0, .ref 51, .int (nI i)] [] hi hl K := by
  unfold Pr at h
  simp (disch := omega) only [b_Law_law_1535, true_and, and_true, true_implies, false_implies, not_true_eq_false, not_false_eq_true, eq_self, or_true, true_or, false_or, or_false, false_and, and_false, Option.toList_some, Option.toList_none, List.cons_append, List.nil_append, n10, n01, e10, e01, e08, e18, e28, e38, e48, e58, e68, e78, lt_lit, nI_add, pk_mul, n_le, n_lt, n_eq, n_cl, n_in, n_sub, n_div, n_rem, n_ite, Nat.zero_add, k_0, k_51]
  refine Call.mono h ?_
  intro r hi1 hl1 hr
  obtain ⟨v, e, q⟩ := hr
  subst e
  simp (disch := omega) only [b_Law_law_1539, true_and, and_true, true_implies, false_implies, not_true_eq_false, not_false_eq_true, eq_self, or_true, true_or, false_or, or_false, false_and, and_false, Option.toList_some, Option.toList_none, List.cons_append, List.nil_append, n10, n01, e10, e01, e08, e18, e28, e38, e48, e58, e68, e78, lt_lit, nI_add, pk_mul, n_le, n_lt, n_eq, n_cl, n_in, n_sub, n_div, n_rem, n_ite, Nat.zero_add, k_0, k_51]
  refine Call.mono q ?_
  intro r' hi2 hl2 hr
  obtain ⟨e, q2⟩ := hr
  subst e
  simp (disch := omega) only [b_Law_law_1544, b_Law_law_1594, true_and, and_true, true_implies, false_implies, not_true_eq_false, not_false_eq_true, eq_self, or_true, true_or, false_or, or_false, false_and, and_false, Option.toList_some, Option.toList_none, List.cons_append, List.nil_append, n10, n01, e10, e01, e08, e18, e28, e38, e48, e58, e68, e78, lt_lit, nI_add, pk_mul, n_le, n_lt, n_eq, n_cl, n_in, n_sub, n_div, n_rem, n_ite, Nat.zero_add, k_0, k_51]
  exact hn hi2 hl2 q2
set_option maxRecDepth 20000 in
theorem law_46 (hi6 : i + 6 ≤ xN u) (hN : xN u ≤ 3072) (h : Pr u B' 105 212 [.int (xX u (i + 1))] hi hl) (hn : ∀ hi2 hl2, InvE B' hi2 hl2 → Wp u 228 18 [.ref 99, .ref 0, .ref 51, .int (nI (i + 6))] [] hi2 hl2 K) : vc u (n + 150) 228 1548 [.ref 99, .ref 0, .ref 51, .int (nI i)] [] hi hl K := by
  unfold Pr at h
  simp (disch := omega) only [b_Law_law_1548, true_and, and_true, true_implies, false_implies, not_true_eq_false, not_false_eq_true, eq_self, or_true, true_or, false_or, or_false, false_and, and_false, Option.toList_some, Option.toList_none, List.cons_append, List.nil_append, n10, n01, e10, e01, e08, e18, e28, e38, e48, e58, e68, e78, lt_lit, nI_add, pk_mul, n_le, n_lt, n_eq, n_cl, n_in, n_sub, n_div, n_rem, n_ite, Nat.zero_add, k_0, k_51]
  refine Call.mono h ?_
  intro r hi1 hl1 hr
  obtain ⟨v, e, q⟩ := hr
  subst e
  simp (disch := omega) only [b_Law_law_1557, true_and, and_true, true_implies, false_implies, not_true_eq_false, not_false_eq_true, eq_self, or_true, true_or, false_or, or_false, false_and, and_false, Option.toList_some, Option.toList_none, List.cons_append, List.nil_append, n10, n01, e10, e01, e08, e18, e28, e38, e48, e58, e68, e78, lt_lit, nI_add, pk_mul, n_le, n_lt, n_eq, n_cl, n_in, n_sub, n_div, n_rem, n_ite, Nat.zero_add, k_0, k_51]
  refine Call.mono q ?_
  intro r' hi2 hl2 hr
  obtain ⟨e, q2⟩ := hr
  subst e
  simp (disch := omega) only [b_Law_law_1567, b_Law_law_1594, true_and, and_true, true_implies, false_implies, not_true_eq_false, not_false_eq_true, eq_self, or_true, true_or, false_or, or_false, false_and, and_false, Option.toList_some, Option.toList_none, List.cons_append, List.nil_append, n10, n01, e10, e01, e08, e18, e28, e38, e48, e58, e68, e78, lt_lit, nI_add, pk_mul, n_le, n_lt, n_eq, n_cl, n_in, n_sub, n_div, n_rem, n_ite, Nat.zero_add, k_0, k_51]
  exact hn hi2 hl2 q2
set_option maxRecDepth 20000 in
theorem law_47 (hi6 : i + 6 ≤ xN u) (hN : xN u ≤ 3072) (h : Pr u B' 106 213 [.int (xX u (i + 1))] hi hl) (hn : ∀ hi2 hl2, InvE B' hi2 hl2 → Wp u 228 18 [.ref 99, .ref 0, .ref 51, .int (nI (i + 6))] [] hi2 hl2 K) : vc u (n + 150) 228 1571 [.ref 99, .ref 0, .ref 51, .int (nI i)] [] hi hl K := by
  unfold Pr at h
  simp (disch := omega) only [b_Law_law_1571, true_and, and_true, true_implies, false_implies, not_true_eq_false, not_false_eq_true, eq_self, or_true, true_or, false_or, or_false, false_and, and_false, Option.toList_some, Option.toList_none, List.cons_append, List.nil_append, n10, n01, e10, e01, e08, e18, e28, e38, e48, e58, e68, e78, lt_lit, nI_add, pk_mul, n_le, n_lt, n_eq, n_cl, n_in, n_sub, n_div, n_rem, n_ite, Nat.zero_add, k_0, k_51]
  refine Call.mono h ?_
  intro r hi1 hl1 hr
  obtain ⟨v, e, q⟩ := hr
  subst e
  simp (disch := omega) only [b_Law_law_1580, true_and, and_true, true_implies, false_implies, not_true_eq_false, not_false_eq_true, eq_self, or_true, true_or, false_or, or_false, false_and, and_false, Option.toList_some, Option.toList_none, List.cons_append, List.nil_append, n10, n01, e10, e01, e08, e18, e28, e38, e48, e58, e68, e78, lt_lit, nI_add, pk_mul, n_le, n_lt, n_eq, n_cl, n_in, n_sub, n_div, n_rem, n_ite, Nat.zero_add, k_0, k_51]
  refine Call.mono q ?_
  intro r' hi2 hl2 hr
  obtain ⟨e, q2⟩ := hr
  subst e
  simp (disch := omega) only [b_Law_law_1590, b_Law_law_1594, true_and, and_true, true_implies, false_implies, not_true_eq_false, not_false_eq_true, eq_self, or_true, true_or, false_or, or_false, false_and, and_false, Option.toList_some, Option.toList_none, List.cons_append, List.nil_append, n10, n01, e10, e01, e08, e18, e28, e38, e48, e58, e68, e78, lt_lit, nI_add, pk_mul, n_le, n_lt, n_eq, n_cl, n_in, n_sub, n_div, n_rem, n_ite, Nat.zero_add, k_0, k_51]
  exact hn hi2 hl2 q2
theorem law_d (hi6 : i + 6 ≤ xN u) (hN : xN u ≤ 3072) (hn : Wp u 228 18 [.ref 99, .ref 0, .ref 51, .int (nI (i + 6))] [] hi hl K) : vc u (n + 150) 228 1594 [.ref 99, .ref 0, .ref 51, .int (nI i)] [] hi hl K := by
  simp (disch := omega) only [b_Law_law_1594, true_and, and_true, true_implies, false_implies, not_true_eq_false, not_false_eq_true, eq_self, or_true, true_or, false_or, or_false, false_and, and_false, Option.toList_some, Option.toList_none, List.cons_append, List.nil_append, n10, n01, e10, e01, e08, e18, e28, e38, e48, e58, e68, e78, lt_lit, nI_add, pk_mul, n_le, n_lt, n_eq, n_cl, n_in, n_sub, n_div, n_rem, n_ite, Nat.zero_add, k_0, k_51]
  exact hn
end L1
