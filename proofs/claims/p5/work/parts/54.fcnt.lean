section F4
variable {u : UV} {hi : HI} {hl : HL} {K : Option Value → HI → HL → Prop} {A : Nat → Nat} {B f : Nat}
theorem c_bundlesOfAll (hf : isF f) (hp : Fp hi f A) (ok : rowOk B A) (hB : B < 100000000) (h : K (some (.int (nI (bunN A)))) hi hl) : Call u 19 [.ref f] hi hl K := by
  have o6 := ok.2.2.2.2.2.1
  have loop : ∀ n g s, g + n = A 68 → s ≤ 100000000 * g → K (some (.int (nI (s + smN (fun g => A (73 + 8 * g)) g n)))) hi hl → Wp u 19 4 [.ref f, .int (nI s), .int (nI g)] [] hi hl K := by
    intro n
    induction n with
    | zero =>
      intro g s e hs h
      refine wv (by decide) ?_
      simp (disch := omega) only [b_F_bundlesOfAll_0, b_F_bundlesOfAll_4, b_F_bundlesOfAll_12, b_F_bundlesOfAll_30, true_and, and_true, true_implies, false_implies, not_true_eq_false, not_false_eq_true, eq_self, or_true, true_or, false_or, or_false, false_and, and_false, Option.toList_some, Option.toList_none, List.cons_append, List.nil_append, n10, n01, e10, e01, e08, e18, e28, e38, e48, e58, e68, e78, lt_lit, nI_add, pk_mul, n_le, n_lt, n_eq, n_cl, n_in, n_sub, n_div, n_rem, n_ite, Nat.zero_add, F_k hf, F_k1 hf, F_l1 hf, F_r0 hf, F_r1 hf, F_k2 hf, F_l2 hf, F_rg hf, F_kg hf, Fp.s2 hp, Fp.s3 hp, Fp.s4 hp, Fp.s5 hp, Fp.s6 hp, Fp.p hp, Fp.r0 hp, Fp.r1 hp, Fp.r2 hp, Fp.r3 hp, Fp.r4 hp, Fp.r5 hp, Fp.r6 hp, Fp.r7 hp]
      exact ⟨fun _ => h, fun q => absurd (by omega) q⟩
    | succ n ih =>
      intro g s e hs h
      obtain ⟨g1, g2, g3, g4, g5, g6, g7, g8⟩ := ok.2.2.2.2.2.2 g (by omega)
      refine wv (by decide) ?_
      simp (disch := omega) only [b_F_bundlesOfAll_0, b_F_bundlesOfAll_4, b_F_bundlesOfAll_12, b_F_bundlesOfAll_30, true_and, and_true, true_implies, false_implies, not_true_eq_false, not_false_eq_true, eq_self, or_true, true_or, false_or, or_false, false_and, and_false, Option.toList_some, Option.toList_none, List.cons_append, List.nil_append, n10, n01, e10, e01, e08, e18, e28, e38, e48, e58, e68, e78, lt_lit, nI_add, pk_mul, n_le, n_lt, n_eq, n_cl, n_in, n_sub, n_div, n_rem, n_ite, Nat.zero_add, F_k hf, F_k1 hf, F_l1 hf, F_r0 hf, F_r1 hf, F_k2 hf, F_l2 hf, F_rg hf, F_kg hf, Fp.s2 hp, Fp.s3 hp, Fp.s4 hp, Fp.s5 hp, Fp.s6 hp, Fp.p hp, Fp.r0 hp, Fp.r1 hp, Fp.r2 hp, Fp.r3 hp, Fp.r4 hp, Fp.r5 hp, Fp.r6 hp, Fp.r7 hp]
      refine ⟨fun q => absurd q (by omega), fun _ => ?_⟩
      refine ih (g + 1) _ (by omega) (by omega) ?_
      rw [smN, ← Nat.add_assoc] at h; exact h
  refine i_F_bundlesOfAll ?_
  simp (disch := omega) only [b_F_bundlesOfAll_0, b_F_bundlesOfAll_4, b_F_bundlesOfAll_12, b_F_bundlesOfAll_30, true_and, and_true, true_implies, false_implies, not_true_eq_false, not_false_eq_true, eq_self, or_true, true_or, false_or, or_false, false_and, and_false, Option.toList_some, Option.toList_none, List.cons_append, List.nil_append, n10, n01, e10, e01, e08, e18, e28, e38, e48, e58, e68, e78, lt_lit, nI_add, pk_mul, n_le, n_lt, n_eq, n_cl, n_in, n_sub, n_div, n_rem, n_ite, Nat.zero_add, F_k hf, F_k1 hf, F_l1 hf, F_r0 hf, F_r1 hf, F_k2 hf, F_l2 hf, F_rg hf, F_kg hf]
  refine loop (A 68) 0 0 (by omega) (by omega) ?_
  rw [Nat.zero_add]; exact h
theorem c_cutOfAll (hf : isF f) (hp : Fp hi f A) (ok : rowOk B A) (hB : B < 100000000) (h : K (some (.int (nI (cutN A)))) hi hl) : Call u 20 [.ref f] hi hl K := by
  have o6 := ok.2.2.2.2.2.1
  have loop : ∀ n g s, g + n = A 68 → s ≤ 100000000 * g → K (some (.int (nI (s + smN (fun g => A (74 + 8 * g)) g n)))) hi hl → Wp u 20 4 [.ref f, .int (nI s), .int (nI g)] [] hi hl K := by
    intro n
    induction n with
    | zero =>
      intro g s e hs h
      refine wv (by decide) ?_
      simp (disch := omega) only [b_F_cutOfAll_0, b_F_cutOfAll_4, b_F_cutOfAll_12, b_F_cutOfAll_30, true_and, and_true, true_implies, false_implies, not_true_eq_false, not_false_eq_true, eq_self, or_true, true_or, false_or, or_false, false_and, and_false, Option.toList_some, Option.toList_none, List.cons_append, List.nil_append, n10, n01, e10, e01, e08, e18, e28, e38, e48, e58, e68, e78, lt_lit, nI_add, pk_mul, n_le, n_lt, n_eq, n_cl, n_in, n_sub, n_div, n_rem, n_ite, Nat.zero_add, F_k hf, F_k1 hf, F_l1 hf, F_r0 hf, F_r1 hf, F_k2 hf, F_l2 hf, F_rg hf, F_kg hf, Fp.s2 hp, Fp.s3 hp, Fp.s4 hp, Fp.s5 hp, Fp.s6 hp, Fp.p hp, Fp.r0 hp, Fp.r1 hp, Fp.r2 hp, Fp.r3 hp, Fp.r4 hp, Fp.r5 hp, Fp.r6 hp, Fp.r7 hp]
      exact ⟨fun _ => h, fun q => absurd (by omega) q⟩
    | succ n ih =>
      intro g s e hs h
      obtain ⟨g1, g2, g3, g4, g5, g6, g7, g8⟩ := ok.2.2.2.2.2.2 g (by omega)
      refine wv (by decide) ?_
      simp (disch := omega) only [b_F_cutOfAll_0, b_F_cutOfAll_4, b_F_cutOfAll_12, b_F_cutOfAll_30, true_and, and_true, true_implies, false_implies, not_true_eq_false, not_false_eq_true, eq_self, or_true, true_or, false_or, or_false, false_and, and_false, Option.toList_some, Option.toList_none, List.cons_append, List.nil_append, n10, n01, e10, e01, e08, e18, e28, e38, e48, e58, e68, e78, lt_lit, nI_add, pk_mul, n_le, n_lt, n_eq, n_cl, n_in, n_sub, n_div, n_rem, n_ite, Nat.zero_add, F_k hf, F_k1 hf, F_l1 hf, F_r0 hf, F_r1 hf, F_k2 hf, F_l2 hf, F_rg hf, F_kg hf, Fp.s2 hp, Fp.s3 hp, Fp.s4 hp, Fp.s5 hp, Fp.s6 hp, Fp.p hp, Fp.r0 hp, Fp.r1 hp, Fp.r2 hp, Fp.r3 hp, Fp.r4 hp, Fp.r5 hp, Fp.r6 hp, Fp.r7 hp]
      refine ⟨fun q => absurd q (by omega), fun _ => ?_⟩
      refine ih (g + 1) _ (by omega) (by omega) ?_
      rw [smN, ← Nat.add_assoc] at h; exact h
  refine i_F_cutOfAll ?_
  simp (disch := omega) only [b_F_cutOfAll_0, b_F_cutOfAll_4, b_F_cutOfAll_12, b_F_cutOfAll_30, true_and, and_true, true_implies, false_implies, not_true_eq_false, not_false_eq_true, eq_self, or_true, true_or, false_or, or_false, false_and, and_false, Option.toList_some, Option.toList_none, List.cons_append, List.nil_append, n10, n01, e10, e01, e08, e18, e28, e38, e48, e58, e68, e78, lt_lit, nI_add, pk_mul, n_le, n_lt, n_eq, n_cl, n_in, n_sub, n_div, n_rem, n_ite, Nat.zero_add, F_k hf, F_k1 hf, F_l1 hf, F_r0 hf, F_r1 hf, F_k2 hf, F_l2 hf, F_rg hf, F_kg hf]
  refine loop (A 68) 0 0 (by omega) (by omega) ?_
  rw [Nat.zero_add]; exact h
theorem c_countDone (hf : isF f) (hp : Fp hi f A) (ok : rowOk B A) (h : K (some (.int (nI (dnN A)))) hi hl) : Call u 17 [.ref f] hi hl K := by
  have o6 := ok.2.2.2.2.2.1
  have loop : ∀ n g s, g + n = A 68 → s ≤ g → K (some (.int (nI (s + smN (fun g => A (76 + 8 * g)) g n)))) hi hl → Wp u 17 4 [.ref f, .int (nI s), .int (nI g)] [] hi hl K := by
    intro n
    induction n with
    | zero =>
      intro g s e hs h
      refine wv (by decide) ?_
      simp (disch := omega) only [b_F_countDone_0, b_F_countDone_4, b_F_countDone_12, b_F_countDone_24, b_F_countDone_27, b_F_countDone_33, true_and, and_true, true_implies, false_implies, not_true_eq_false, not_false_eq_true, eq_self, or_true, true_or, false_or, or_false, false_and, and_false, Option.toList_some, Option.toList_none, List.cons_append, List.nil_append, n10, n01, e10, e01, e08, e18, e28, e38, e48, e58, e68, e78, lt_lit, nI_add, pk_mul, n_le, n_lt, n_eq, n_cl, n_in, n_sub, n_div, n_rem, n_ite, Nat.zero_add, F_k hf, F_k1 hf, F_l1 hf, F_r0 hf, F_r1 hf, F_k2 hf, F_l2 hf, F_rg hf, F_kg hf, Fp.s2 hp, Fp.s3 hp, Fp.s4 hp, Fp.s5 hp, Fp.s6 hp, Fp.p hp, Fp.r0 hp, Fp.r1 hp, Fp.r2 hp, Fp.r3 hp, Fp.r4 hp, Fp.r5 hp, Fp.r6 hp, Fp.r7 hp]
      exact ⟨fun _ => h, fun q => absurd (by omega) q⟩
    | succ n ih =>
      intro g s e hs h
      obtain ⟨g1, g2, g3, g4, g5, g6, g7, g8⟩ := ok.2.2.2.2.2.2 g (by omega)
      refine wv (by decide) ?_
      simp (disch := omega) only [b_F_countDone_0, b_F_countDone_4, b_F_countDone_12, b_F_countDone_24, b_F_countDone_27, b_F_countDone_33, true_and, and_true, true_implies, false_implies, not_true_eq_false, not_false_eq_true, eq_self, or_true, true_or, false_or, or_false, false_and, and_false, Option.toList_some, Option.toList_none, List.cons_append, List.nil_append, n10, n01, e10, e01, e08, e18, e28, e38, e48, e58, e68, e78, lt_lit, nI_add, pk_mul, n_le, n_lt, n_eq, n_cl, n_in, n_sub, n_div, n_rem, n_ite, Nat.zero_add, F_k hf, F_k1 hf, F_l1 hf, F_r0 hf, F_r1 hf, F_k2 hf, F_l2 hf, F_rg hf, F_kg hf, Fp.s2 hp, Fp.s3 hp, Fp.s4 hp, Fp.s5 hp, Fp.s6 hp, Fp.p hp, Fp.r0 hp, Fp.r1 hp, Fp.r2 hp, Fp.r3 hp, Fp.r4 hp, Fp.r5 hp, Fp.r6 hp, Fp.r7 hp]
      refine ⟨fun q => absurd q (by omega), fun _ => ⟨fun q => ?_, fun q => ?_⟩⟩
      · refine ih (g + 1) s (by omega) (by omega) ?_
        rw [smN, q, Nat.zero_add] at h; exact h
      · refine ih (g + 1) (s + 1) (by omega) (by omega) ?_
        rw [smN, show A (76 + 8 * g) = 1 by omega, ← Nat.add_assoc] at h; exact h
  refine i_F_countDone ?_
  simp (disch := omega) only [b_F_countDone_0, b_F_countDone_4, b_F_countDone_12, b_F_countDone_24, b_F_countDone_27, b_F_countDone_33, true_and, and_true, true_implies, false_implies, not_true_eq_false, not_false_eq_true, eq_self, or_true, true_or, false_or, or_false, false_and, and_false, Option.toList_some, Option.toList_none, List.cons_append, List.nil_append, n10, n01, e10, e01, e08, e18, e28, e38, e48, e58, e68, e78, lt_lit, nI_add, pk_mul, n_le, n_lt, n_eq, n_cl, n_in, n_sub, n_div, n_rem, n_ite, Nat.zero_add, F_k hf, F_k1 hf, F_l1 hf, F_r0 hf, F_r1 hf, F_k2 hf, F_l2 hf, F_rg hf, F_kg hf]
  refine loop (A 68) 0 0 (by omega) (by omega) ?_
  rw [Nat.zero_add]; exact h
theorem c_countOfHouse {w : Nat} (hw : w < 5) (hf : isF f) (hp : Fp hi f A) (ok : rowOk B A) (hB : B < 100000000) (h : K (some (.int (nI (cntH A w)))) hi hl) : Call u 21 [.ref f, .int (nI w)] hi hl K := by
  have o6 := ok.2.2.2.2.2.1
  have loop : ∀ n g s, g + n = A 68 → s ≤ 1 * g → K (some (.int (nI (s + smN (fun g => if A (72 + 8 * g) = w then 1 else 0) g n)))) hi hl → Wp u 21 4 [.ref f, .int (nI w), .int (nI s), .int (nI g)] [] hi hl K := by
    intro n
    induction n with
    | zero =>
      intro g s e hs h
      refine wv (by decide) ?_
      simp (disch := omega) only [b_F_countOfHouse_0, b_F_countOfHouse_4, b_F_countOfHouse_12, b_F_countOfHouse_25, b_F_countOfHouse_28, b_F_countOfHouse_34, true_and, and_true, true_implies, false_implies, not_true_eq_false, not_false_eq_true, eq_self, or_true, true_or, false_or, or_false, false_and, and_false, Option.toList_some, Option.toList_none, List.cons_append, List.nil_append, n10, n01, e10, e01, e08, e18, e28, e38, e48, e58, e68, e78, lt_lit, nI_add, pk_mul, n_le, n_lt, n_eq, n_cl, n_in, n_sub, n_div, n_rem, n_ite, Nat.zero_add, F_k hf, F_k1 hf, F_l1 hf, F_r0 hf, F_r1 hf, F_k2 hf, F_l2 hf, F_rg hf, F_kg hf, Fp.s2 hp, Fp.s3 hp, Fp.s4 hp, Fp.s5 hp, Fp.s6 hp, Fp.p hp, Fp.r0 hp, Fp.r1 hp, Fp.r2 hp, Fp.r3 hp, Fp.r4 hp, Fp.r5 hp, Fp.r6 hp, Fp.r7 hp]
      exact ⟨fun _ => h, fun q => absurd (by omega) q⟩
    | succ n ih =>
      intro g s e hs h
      obtain ⟨g1, g2, g3, g4, g5, g6, g7, g8⟩ := ok.2.2.2.2.2.2 g (by omega)
      refine wv (by decide) ?_
      simp (disch := omega) only [b_F_countOfHouse_0, b_F_countOfHouse_4, b_F_countOfHouse_12, b_F_countOfHouse_25, b_F_countOfHouse_28, b_F_countOfHouse_34, true_and, and_true, true_implies, false_implies, not_true_eq_false, not_false_eq_true, eq_self, or_true, true_or, false_or, or_false, false_and, and_false, Option.toList_some, Option.toList_none, List.cons_append, List.nil_append, n10, n01, e10, e01, e08, e18, e28, e38, e48, e58, e68, e78, lt_lit, nI_add, pk_mul, n_le, n_lt, n_eq, n_cl, n_in, n_sub, n_div, n_rem, n_ite, Nat.zero_add, F_k hf, F_k1 hf, F_l1 hf, F_r0 hf, F_r1 hf, F_k2 hf, F_l2 hf, F_rg hf, F_kg hf, Fp.s2 hp, Fp.s3 hp, Fp.s4 hp, Fp.s5 hp, Fp.s6 hp, Fp.p hp, Fp.r0 hp, Fp.r1 hp, Fp.r2 hp, Fp.r3 hp, Fp.r4 hp, Fp.r5 hp, Fp.r6 hp, Fp.r7 hp]
      refine ⟨fun q => absurd q (by omega), fun _ => ⟨fun q => ?_, fun q => ?_⟩⟩
      · refine ih (g + 1) s (by omega) (by omega) ?_
        simp only [smN, if_neg q, Nat.zero_add] at h; exact h
      · refine ih (g + 1) _ (by omega) (by omega) ?_
        simp only [smN, if_pos q] at h; rw [← Nat.add_assoc] at h; exact h
  refine i_F_countOfHouse ?_
  simp (disch := omega) only [b_F_countOfHouse_0, b_F_countOfHouse_4, b_F_countOfHouse_12, b_F_countOfHouse_25, b_F_countOfHouse_28, b_F_countOfHouse_34, true_and, and_true, true_implies, false_implies, not_true_eq_false, not_false_eq_true, eq_self, or_true, true_or, false_or, or_false, false_and, and_false, Option.toList_some, Option.toList_none, List.cons_append, List.nil_append, n10, n01, e10, e01, e08, e18, e28, e38, e48, e58, e68, e78, lt_lit, nI_add, pk_mul, n_le, n_lt, n_eq, n_cl, n_in, n_sub, n_div, n_rem, n_ite, Nat.zero_add, F_k hf, F_k1 hf, F_l1 hf, F_r0 hf, F_r1 hf, F_k2 hf, F_l2 hf, F_rg hf, F_kg hf]
  refine loop (A 68) 0 0 (by omega) (by omega) ?_
  rw [Nat.zero_add]; exact h
theorem c_bundlesOfHouse {w : Nat} (hw : w < 5) (hf : isF f) (hp : Fp hi f A) (ok : rowOk B A) (hB : B < 100000000) (h : K (some (.int (nI (bunH A w)))) hi hl) : Call u 22 [.ref f, .int (nI w)] hi hl K := by
  have o6 := ok.2.2.2.2.2.1
  have loop : ∀ n g s, g + n = A 68 → s ≤ 100000000 * g → K (some (.int (nI (s + smN (fun g => if A (72 + 8 * g) = w then A (73 + 8 * g) else 0) g n)))) hi hl → Wp u 22 4 [.ref f, .int (nI w), .int (nI s), .int (nI g)] [] hi hl K := by
    intro n
    induction n with
    | zero =>
      intro g s e hs h
      refine wv (by decide) ?_
      simp (disch := omega) only [b_F_bundlesOfHouse_0, b_F_bundlesOfHouse_4, b_F_bundlesOfHouse_12, b_F_bundlesOfHouse_25, b_F_bundlesOfHouse_37, b_F_bundlesOfHouse_43, true_and, and_true, true_implies, false_implies, not_true_eq_false, not_false_eq_true, eq_self, or_true, true_or, false_or, or_false, false_and, and_false, Option.toList_some, Option.toList_none, List.cons_append, List.nil_append, n10, n01, e10, e01, e08, e18, e28, e38, e48, e58, e68, e78, lt_lit, nI_add, pk_mul, n_le, n_lt, n_eq, n_cl, n_in, n_sub, n_div, n_rem, n_ite, Nat.zero_add, F_k hf, F_k1 hf, F_l1 hf, F_r0 hf, F_r1 hf, F_k2 hf, F_l2 hf, F_rg hf, F_kg hf, Fp.s2 hp, Fp.s3 hp, Fp.s4 hp, Fp.s5 hp, Fp.s6 hp, Fp.p hp, Fp.r0 hp, Fp.r1 hp, Fp.r2 hp, Fp.r3 hp, Fp.r4 hp, Fp.r5 hp, Fp.r6 hp, Fp.r7 hp]
      exact ⟨fun _ => h, fun q => absurd (by omega) q⟩
    | succ n ih =>
      intro g s e hs h
      obtain ⟨g1, g2, g3, g4, g5, g6, g7, g8⟩ := ok.2.2.2.2.2.2 g (by omega)
      refine wv (by decide) ?_
      simp (disch := omega) only [b_F_bundlesOfHouse_0, b_F_bundlesOfHouse_4, b_F_bundlesOfHouse_12, b_F_bundlesOfHouse_25, b_F_bundlesOfHouse_37, b_F_bundlesOfHouse_43, true_and, and_true, true_implies, false_implies, not_true_eq_false, not_false_eq_true, eq_self, or_true, true_or, false_or, or_false, false_and, and_false, Option.toList_some, Option.toList_none, List.cons_append, List.nil_append, n10, n01, e10, e01, e08, e18, e28, e38, e48, e58, e68, e78, lt_lit, nI_add, pk_mul, n_le, n_lt, n_eq, n_cl, n_in, n_sub, n_div, n_rem, n_ite, Nat.zero_add, F_k hf, F_k1 hf, F_l1 hf, F_r0 hf, F_r1 hf, F_k2 hf, F_l2 hf, F_rg hf, F_kg hf, Fp.s2 hp, Fp.s3 hp, Fp.s4 hp, Fp.s5 hp, Fp.s6 hp, Fp.p hp, Fp.r0 hp, Fp.r1 hp, Fp.r2 hp, Fp.r3 hp, Fp.r4 hp, Fp.r5 hp, Fp.r6 hp, Fp.r7 hp]
      refine ⟨fun q => absurd q (by omega), fun _ => ⟨fun q => ?_, fun q => ?_⟩⟩
      · refine ih (g + 1) s (by omega) (by omega) ?_
        simp only [smN, if_neg q, Nat.zero_add] at h; exact h
      · refine ih (g + 1) _ (by omega) (by omega) ?_
        simp only [smN, if_pos q] at h; rw [← Nat.add_assoc] at h; exact h
  refine i_F_bundlesOfHouse ?_
  simp (disch := omega) only [b_F_bundlesOfHouse_0, b_F_bundlesOfHouse_4, b_F_bundlesOfHouse_12, b_F_bundlesOfHouse_25, b_F_bundlesOfHouse_37, b_F_bundlesOfHouse_43, true_and, and_true, true_implies, false_implies, not_true_eq_false, not_false_eq_true, eq_self, or_true, true_or, false_or, or_false, false_and, and_false, Option.toList_some, Option.toList_none, List.cons_append, List.nil_append, n10, n01, e10, e01, e08, e18, e28, e38, e48, e58, e68, e78, lt_lit, nI_add, pk_mul, n_le, n_lt, n_eq, n_cl, n_in, n_sub, n_div, n_rem, n_ite, Nat.zero_add, F_k hf, F_k1 hf, F_l1 hf, F_r0 hf, F_r1 hf, F_k2 hf, F_l2 hf, F_rg hf, F_kg hf]
  refine loop (A 68) 0 0 (by omega) (by omega) ?_
  rw [Nat.zero_add]; exact h
theorem cntH_le (A : Nat → Nat) (w : Nat) : cntH A w ≤ A 68 := by
  have := smN_le (fun g => if A (72 + 8 * g) = w then 1 else 0) 1 (A 68) 0 (fun k _ _ => by split <;> omega)
  unfold cntH; omega
theorem bunH_le {A : Nat → Nat} {B : Nat} (ok : rowOk B A) (w : Nat) : bunH A w ≤ B * A 68 := by
  have := smN_le (fun g => if A (72 + 8 * g) = w then A (73 + 8 * g) else 0) B (A 68) 0 (fun k _ y => by
    have := (ok.2.2.2.2.2.2 k (by omega)).2.2.2.2.1
    split <;> omega)
  exact this
theorem bunH_lt {A : Nat → Nat} {B : Nat} (ok : rowOk B A) (hB : B < 100000000) (w : Nat) : bunH A w ≤ 900000000 := by
  have h1 := bunH_le ok w
  have h2 := ok.2.2.2.2.2.1
  have h3 : B * A 68 ≤ 100000000 * 9 := Nat.mul_le_mul (by omega) h2
  omega
theorem c_shareOfHouse {w : Nat} (hw : w < 5) (hf : isF f) (hp : Fp hi f A) (ok : rowOk B A) (hB : B < 100000000) (h : K (some (.int (nI (shH A w)))) hi hl) : Call u 23 [.ref f, .int (nI w)] hi hl K := by
  have c1 := cntH_le A w
  have c2 := ok.2.2.2.2.2.1
  have c3 := bunH_lt ok hB w
  refine i_F_shareOfHouse ?_
  simp (disch := omega) only [b_F_shareOfHouse_0, b_F_shareOfHouse_5, b_F_shareOfHouse_10, b_F_shareOfHouse_14, b_F_shareOfHouse_19, b_F_shareOfHouse_21, true_and, and_true, true_implies, false_implies, not_true_eq_false, not_false_eq_true, eq_self, or_true, true_or, false_or, or_false, false_and, and_false, Option.toList_some, Option.toList_none, List.cons_append, List.nil_append, n10, n01, e10, e01, e08, e18, e28, e38, e48, e58, e68, e78, lt_lit, nI_add, pk_mul, n_le, n_lt, n_eq, n_cl, n_in, n_sub, n_div, n_rem, n_ite, Nat.zero_add, F_k hf, F_k1 hf, F_l1 hf, F_r0 hf, F_r1 hf, F_k2 hf, F_l2 hf, F_rg hf, F_kg hf]
  refine c_countOfHouse hw hf hp ok hB ?_
  simp (disch := omega) only [b_F_shareOfHouse_0, b_F_shareOfHouse_5, b_F_shareOfHouse_10, b_F_shareOfHouse_14, b_F_shareOfHouse_19, b_F_shareOfHouse_21, true_and, and_true, true_implies, false_implies, not_true_eq_false, not_false_eq_true, eq_self, or_true, true_or, false_or, or_false, false_and, and_false, Option.toList_some, Option.toList_none, List.cons_append, List.nil_append, n10, n01, e10, e01, e08, e18, e28, e38, e48, e58, e68, e78, lt_lit, nI_add, pk_mul, n_le, n_lt, n_eq, n_cl, n_in, n_sub, n_div, n_rem, n_ite, Nat.zero_add, F_k hf, F_k1 hf, F_l1 hf, F_r0 hf, F_r1 hf, F_k2 hf, F_l2 hf, F_rg hf, F_kg hf]
  refine ⟨fun q => ?_, fun q => ?_⟩
  · refine c_bundlesOfHouse hw hf hp ok hB ?_
    simp (disch := omega) only [b_F_shareOfHouse_0, b_F_shareOfHouse_5, b_F_shareOfHouse_10, b_F_shareOfHouse_14, b_F_shareOfHouse_19, b_F_shareOfHouse_21, true_and, and_true, true_implies, false_implies, not_true_eq_false, not_false_eq_true, eq_self, or_true, true_or, false_or, or_false, false_and, and_false, Option.toList_some, Option.toList_none, List.cons_append, List.nil_append, n10, n01, e10, e01, e08, e18, e28, e38, e48, e58, e68, e78, lt_lit, nI_add, pk_mul, n_le, n_lt, n_eq, n_cl, n_in, n_sub, n_div, n_rem, n_ite, Nat.zero_add, F_k hf, F_k1 hf, F_l1 hf, F_r0 hf, F_r1 hf, F_k2 hf, F_l2 hf, F_rg hf, F_kg hf]
    unfold shH at h
    rw [if_neg q] at h
    exact ⟨q, h⟩
  · unfold shH at h
    rw [if_pos q] at h
    exact h
theorem c_eachHas {v : Nat} (hv : v < 1000000) (hf : isF f) (hp : Fp hi f A) (ok : rowOk B A) (hB : B < 100000000) (h1 : (∀ g, g < A 68 → v ≤ A (73 + 8 * g)) → K (some (.int 1)) hi hl) (h0 : ¬ (∀ g, g < A 68 → v ≤ A (73 + 8 * g)) → K (some (.int 0)) hi hl) : Call u 18 [.ref f, .int (nI v)] hi hl K := by
  have o6 := ok.2.2.2.2.2.1
  have loop : ∀ n g, g + n = A 68 → (∀ k, k < g → v ≤ A (73 + 8 * k)) → Wp u 18 2 [.ref f, .int (nI v), .int (nI g)] [] hi hl K := by
    intro n
    induction n with
    | zero =>
      intro g e hk
      refine wv (by decide) ?_
      simp (disch := omega) only [b_F_eachHas_0, b_F_eachHas_2, b_F_eachHas_10, b_F_eachHas_23, b_F_eachHas_25, b_F_eachHas_31, true_and, and_true, true_implies, false_implies, not_true_eq_false, not_false_eq_true, eq_self, or_true, true_or, false_or, or_false, false_and, and_false, Option.toList_some, Option.toList_none, List.cons_append, List.nil_append, n10, n01, e10, e01, e08, e18, e28, e38, e48, e58, e68, e78, lt_lit, nI_add, pk_mul, n_le, n_lt, n_eq, n_cl, n_in, n_sub, n_div, n_rem, n_ite, Nat.zero_add, F_k hf, F_k1 hf, F_l1 hf, F_r0 hf, F_r1 hf, F_k2 hf, F_l2 hf, F_rg hf, F_kg hf, Fp.s2 hp, Fp.s3 hp, Fp.s4 hp, Fp.s5 hp, Fp.s6 hp, Fp.p hp, Fp.r0 hp, Fp.r1 hp, Fp.r2 hp, Fp.r3 hp, Fp.r4 hp, Fp.r5 hp, Fp.r6 hp, Fp.r7 hp]
      exact ⟨fun _ => h1 (fun k hk2 => hk k (by omega)), fun q => absurd (by omega) q⟩
    | succ n ih =>
      intro g e hk
      obtain ⟨g1, g2, g3, g4, g5, g6, g7, g8⟩ := ok.2.2.2.2.2.2 g (by omega)
      refine wv (by decide) ?_
      simp (disch := omega) only [b_F_eachHas_0, b_F_eachHas_2, b_F_eachHas_10, b_F_eachHas_23, b_F_eachHas_25, b_F_eachHas_31, true_and, and_true, true_implies, false_implies, not_true_eq_false, not_false_eq_true, eq_self, or_true, true_or, false_or, or_false, false_and, and_false, Option.toList_some, Option.toList_none, List.cons_append, List.nil_append, n10, n01, e10, e01, e08, e18, e28, e38, e48, e58, e68, e78, lt_lit, nI_add, pk_mul, n_le, n_lt, n_eq, n_cl, n_in, n_sub, n_div, n_rem, n_ite, Nat.zero_add, F_k hf, F_k1 hf, F_l1 hf, F_r0 hf, F_r1 hf, F_k2 hf, F_l2 hf, F_rg hf, F_kg hf, Fp.s2 hp, Fp.s3 hp, Fp.s4 hp, Fp.s5 hp, Fp.s6 hp, Fp.p hp, Fp.r0 hp, Fp.r1 hp, Fp.r2 hp, Fp.r3 hp, Fp.r4 hp, Fp.r5 hp, Fp.r6 hp, Fp.r7 hp]
      refine ⟨fun q => absurd q (by omega), fun _ => ⟨fun q => ?_, fun q => ?_⟩⟩
      · refine ih (g + 1) (by omega) (fun k hk2 => ?_)
        by_cases q2 : k = g
        · subst q2; exact q
        · exact hk k (by omega)
      · exact h0 (fun z => q (z g (by omega)))
  refine i_F_eachHas ?_
  simp (disch := omega) only [b_F_eachHas_0, b_F_eachHas_2, b_F_eachHas_10, b_F_eachHas_23, b_F_eachHas_25, b_F_eachHas_31, true_and, and_true, true_implies, false_implies, not_true_eq_false, not_false_eq_true, eq_self, or_true, true_or, false_or, or_false, false_and, and_false, Option.toList_some, Option.toList_none, List.cons_append, List.nil_append, n10, n01, e10, e01, e08, e18, e28, e38, e48, e58, e68, e78, lt_lit, nI_add, pk_mul, n_le, n_lt, n_eq, n_cl, n_in, n_sub, n_div, n_rem, n_ite, Nat.zero_add, F_k hf, F_k1 hf, F_l1 hf, F_r0 hf, F_r1 hf, F_k2 hf, F_l2 hf, F_rg hf, F_kg hf]
  exact loop (A 68) 0 (by omega) (fun k hk => absurd hk (by omega))
theorem Fp.mk (h0 : ∀ k, k < 64 → hi (f + 1) k = nI (A k)) (h4 : hi f 4 = nI (A 64)) (h5 : hi f 5 = nI (A 65)) (h6 : hi f 6 = nI (A 66)) (h3 : hi f 3 = nI (A 67)) (h2 : hi f 2 = nI (A 68)) (hg : ∀ g, g < A 68 → ∀ j, j < 8 → hi (f + 3 + g) j = nI (A (69 + 8 * g + j))) : Fp hi f A := by
  intro k hk
  by_cases q : k < 64
  · rw [lh_p q, lj_p q]; exact h0 k q
  · by_cases q2 : k < 69
    · have : k = 64 ∨ k = 65 ∨ k = 66 ∨ k = 67 ∨ k = 68 := by omega
      rcases this with e | e | e | e | e <;> subst e
      · exact h4
      · exact h5
      · exact h6
      · exact h3
      · exact h2
    · obtain ⟨g, j, hj, e⟩ : ∃ g j, j < 8 ∧ k = 69 + 8 * g + j := ⟨(k - 69) / 8, (k - 69) % 8, by omega, by omega⟩
      subst e
      rw [lh_g hj, lj_g hj]
      exact hg g (by omega) j hj
theorem F_apart {e : Nat} (hf : isF f) (he : isF e) (hne : e ≠ f) : e + 12 ≤ f ∨ f + 12 ≤ e := by
  rcases hf with h | h | h <;> rcases he with h' | h' | h' <;> omega
theorem Fp.fr {hi' : HI} {e : Nat} (h : Fp hi e A) (h9 : A 68 ≤ 9) (hd : e + 12 ≤ f ∨ f + 12 ≤ e) (fr : fF f hi hi') : Fp hi' e A := by
  intro k hk
  rw [fr _ (by unfold lh; (repeat' split) <;> omega)]
  exact h k hk
theorem c_gbecomeAs {a b : Nat} (ka : kd a = 1) (kb : kd b = 1) (hab : b ≠ a) (h6 : hi b 6 = 0 ∨ hi b 6 = 1) (h7 : hi b 7 = 0 ∨ hi b 7 = 1) (h : ∀ hi', (∀ j, j < 8 → hi' a j = hi b j) → (∀ o, o ≠ a → hi' o = hi o) → K none hi' hl) : Call u 24 [.ref a, .ref b] hi hl K := by
  refine i_G_becomeAs ?_
  simp only [b_G_becomeAs_0, true_and, and_true, true_implies, false_implies, not_true_eq_false, not_false_eq_true, eq_self, or_true, true_or, false_or, or_false, false_and, and_false, Option.toList_some, Option.toList_none, List.cons_append, List.nil_append, n10, n01, e10, e01, e08, e18, e28, e38, e48, e58, e68, e78, ka, kb, u2_nh hab]
  refine ⟨h6, h7, rfl, h _ (fun j hj => ?_) (fun o ho => ?_)⟩
  · have : j = 0 ∨ j = 1 ∨ j = 2 ∨ j = 3 ∨ j = 4 ∨ j = 5 ∨ j = 6 ∨ j = 7 := by omega
    rcases this with e | e | e | e | e | e | e | e <;> subst e <;> simp (disch := omega) only [u2_eq, u2_nk, u2_nh]
  · funext j; simp only [u2_nh ho]
theorem c_becomeAs {e : Nat} (hf : isF f) (he : isF e) (hne : e ≠ f) (hp : Fp hi e A) (ok : rowOk B A) (h : ∀ hi', Fp hi' f A → fF f hi hi' → K none hi' hl) : Call u 0 [.ref f, .ref e] hi hl K := by
  have o6 := ok.2.2.2.2.2.1
  have o7 := ok.2.2.2.2.2.2
  have hd := F_apart hf he hne
  have loop : ∀ n g hi', g + n = A 68 → (∀ k, k < 64 → hi' (f + 1) k = nI (A k)) → (∀ i, i < g → ∀ j, j < 8 → hi' (f + 3 + i) j = nI (A (69 + 8 * i + j))) → fF f hi hi' → Wp u 0 17 [.ref f, .ref e, .int (nI g)] [] hi' hl K := by
    intro n
    induction n with
    | zero =>
      intro g hi' e1 a b fr
      have hp' := hp.fr o6 hd fr
      refine wv (by decide) ?_
      simp (disch := omega) only [b_F_becomeAs_0, b_F_becomeAs_17, b_F_becomeAs_25, b_F_becomeAs_40, b_F_becomeAs_46, true_and, and_true, true_implies, false_implies, not_true_eq_false, not_false_eq_true, eq_self, or_true, true_or, false_or, or_false, false_and, and_false, Option.toList_some, Option.toList_none, List.cons_append, List.nil_append, n10, n01, e10, e01, e08, e18, e28, e38, e48, e58, e68, e78, lt_lit, nI_add, pk_mul, n_le, n_lt, n_eq, n_cl, n_in, n_sub, n_div, n_rem, n_ite, Nat.zero_add, F_k hf, F_k he, Fp.s2 hp', Fp.s3 hp', Fp.s4 hp', Fp.s5 hp', Fp.s6 hp', Fp.p hp', Fp.r0 hp', Fp.r1 hp', Fp.r2 hp', Fp.r3 hp', Fp.r4 hp', Fp.r5 hp', Fp.r6 hp', Fp.r7 hp', u2_eq, u2_nk, u2_nh]
      refine ⟨fun _ => ⟨rfl, h _ ?_ ?_⟩, fun q => absurd (by omega) q⟩
      · refine Fp.mk (fun k hk => ?_) ?_ ?_ ?_ ?_ ?_ (fun g hg j hj => ?_)
        · simp (disch := omega) only [u2_eq, u2_nk, u2_nh]; exact a k hk
        · simp (disch := omega) only [u2_eq, u2_nk, u2_nh]
        · simp (disch := omega) only [u2_eq, u2_nk, u2_nh]
        · simp (disch := omega) only [u2_eq, u2_nk, u2_nh]
        · simp (disch := omega) only [u2_eq, u2_nk, u2_nh]
        · simp (disch := omega) only [u2_eq, u2_nk, u2_nh]
        · simp (disch := omega) only [u2_eq, u2_nk, u2_nh]; exact b g (by omega) j hj
      · repeat (first | exact fr | refine fF.up ?_ (by omega))
    | succ n ih =>
      intro g hi' e1 a b fr
      have hp' := hp.fr o6 hd fr
      obtain ⟨g1, g2, g3, g4, g5, g6, g7, g8⟩ := o7 g (by omega)
      refine wv (by decide) ?_
      simp (disch := omega) only [b_F_becomeAs_0, b_F_becomeAs_17, b_F_becomeAs_25, b_F_becomeAs_40, b_F_becomeAs_46, true_and, and_true, true_implies, false_implies, not_true_eq_false, not_false_eq_true, eq_self, or_true, true_or, false_or, or_false, false_and, and_false, Option.toList_some, Option.toList_none, List.cons_append, List.nil_append, n10, n01, e10, e01, e08, e18, e28, e38, e48, e58, e68, e78, lt_lit, nI_add, pk_mul, n_le, n_lt, n_eq, n_cl, n_in, n_sub, n_div, n_rem, n_ite, Nat.zero_add, F_k hf, F_k he, F_r1 hf, F_r1 he, F_k2 hf, F_k2 he, F_l2 hf, F_l2 he, F_rg hf, F_rg he, F_kg hf, Fp.s2 hp', Fp.s3 hp', Fp.s4 hp', Fp.s5 hp', Fp.s6 hp', Fp.p hp', Fp.r0 hp', Fp.r1 hp', Fp.r2 hp', Fp.r3 hp', Fp.r4 hp', Fp.r5 hp', Fp.r6 hp', Fp.r7 hp']
      refine ⟨fun q => absurd q (by omega), fun _ => ?_⟩
      have bb : ∀ x, x ≤ 1 → nI x = 0 ∨ nI x = 1 := fun x hx => by
        have : x = 0 ∨ x = 1 := by omega
        rcases this with q | q <;> subst q
        · exact .inl rfl
        · exact .inr rfl
      refine c_gbecomeAs (F_kg hf (by omega)) (F_kg he (by omega)) (by omega) (by rw [hp'.r6 (by omega)]; exact bb _ g7) (by rw [hp'.r7 (by omega)]; exact bb _ g8) (fun hi2 c d => ?_)
      simp (disch := omega) only [b_F_becomeAs_0, b_F_becomeAs_17, b_F_becomeAs_25, b_F_becomeAs_40, b_F_becomeAs_46, true_and, and_true, true_implies, false_implies, not_true_eq_false, not_false_eq_true, eq_self, or_true, true_or, false_or, or_false, false_and, and_false, Option.toList_some, Option.toList_none, List.cons_append, List.nil_append, n10, n01, e10, e01, e08, e18, e28, e38, e48, e58, e68, e78, lt_lit, nI_add, pk_mul, n_le, n_lt, n_eq, n_cl, n_in, n_sub, n_div, n_rem, n_ite, Nat.zero_add]
      refine ih (g + 1) hi2 (by omega) (fun k hk => by rw [d _ (by omega)]; exact a k hk) (fun i hi3 j hj => ?_) (fr.trans (fun o ho => d o (by omega)))
      by_cases q : i = g
      · subst q; rw [c j hj, hp'.g (by omega) hj]
      · rw [d _ (by omega)]; exact b i (by omega) j hj
  refine i_F_becomeAs ?_
  have c0 : (0 : Int32).toNatClampNeg = 0 := by decide
  have c64 : (64 : Int32).toNatClampNeg = 64 := by decide
  have l0 : ((0 : Int32) < 0) = False := by decide
  have l64 : ((64 : Int32) < 0) = False := by decide
  simp only [b_F_becomeAs_0, b_F_becomeAs_17, b_F_becomeAs_25, b_F_becomeAs_40, b_F_becomeAs_46, true_and, and_true, true_implies, false_implies, not_true_eq_false, not_false_eq_true, eq_self, or_true, true_or, false_or, or_false, false_and, and_false, Option.toList_some, Option.toList_none, List.cons_append, List.nil_append, n10, n01, e10, e01, e08, e18, e28, e38, e48, e58, e68, e78, F_k hf, F_k he, F_r0 hf, F_r0 he, F_k1 hf, F_k1 he, F_l1 hf, F_l1 he, c0, c64, l0, l64, Nat.zero_add, Nat.le_refl]
  refine loop (A 68) 0 _ (by omega) (fun k hk => ?_) (fun i hi2 => absurd hi2 (by omega)) (fun o ho => ?_)
  · simp only [cpi, if_true]
    rw [pk_cpy_in (by omega) (by omega), Nat.zero_add, Nat.sub_zero]
    exact hp.p hk
  · simp only [cpi]
    rw [if_neg (by omega)]
end F4
