section F2
variable {u : UV} {hi : HI} {hl : HL} {K : Option Value → HI → HL → Prop} {A : Nat → Nat} {B f : Nat}
theorem c_passMinute (hf : isF f) (hp : Fp hi f A) (ok : rowOk B A) (hB : B + 909 < 100000000) (h : ∀ hi', Fp hi' f (minN all1 A) → fF f hi hi' → K (some (.int (nI (tookN all1 A)))) hi' hl) : Call u 12 [.ref f] hi hl K := by
  have o2 := ok.2.1
  have o3 := ok.2.2.1
  have o4 := ok.2.2.2.1
  obtain ⟨okg, sg⟩ := geese_ok ok
  have J : ∀ n hi' l1, Fp hi' f (geeseN A) → fF f hi hi' → vc u (n + 50) 12 21 [.ref f, l1] [] hi' hl K := by
    intro n hi' l1 hg fr
    obtain ⟨s1, s2, s3, s4⟩ := sg
    simp (disch := omega) only [b_F_passMinute_0, b_F_passMinute_11, b_F_passMinute_16, b_F_passMinute_21, b_F_passMinute_34, b_F_passMinute_38, b_F_passMinute_43, true_and, and_true, true_implies, false_implies, not_true_eq_false, not_false_eq_true, eq_self, or_true, true_or, false_or, or_false, false_and, and_false, Option.toList_some, Option.toList_none, List.cons_append, List.nil_append, n10, n01, e10, e01, e08, e18, e28, e38, e48, e58, e68, e78, lt_lit, nI_add, pk_mul, n_le, n_lt, n_eq, n_cl, n_in, n_sub, n_div, n_rem, n_ite, Nat.zero_add, F_k hf, F_k1 hf, F_l1 hf, F_r0 hf, F_r1 hf, F_k2 hf, F_l2 hf, F_rg hf, F_kg hf, Fp.s2 hg, Fp.s3 hg, Fp.s4 hg, Fp.s5 hg, Fp.s6 hg, Fp.p hg, Fp.r0 hg, Fp.r1 hg, Fp.r2 hg, Fp.r3 hg, Fp.r4 hg, Fp.r5 hg, Fp.r6 hg, Fp.r7 hg, u2_eq, u2_nk, u2_nh, s1, s2]
    refine ⟨fun q => ?_, fun q => ?_⟩
    · rw [tookN, if_pos q, minN, openN, s1, s2, if_pos q] at h
      exact h _ hg.up4 (fr.up (by omega))
    · refine c_ftakeAll hf hg okg hB (fun hi2 a b => ?_)
      obtain ⟨c, d, e⟩ := takeAll_ok all1 (geeseN A 68) (A := geeseN A) (g := 0) (by omega) okg
      simp (disch := omega) only [b_F_passMinute_0, b_F_passMinute_11, b_F_passMinute_16, b_F_passMinute_21, b_F_passMinute_34, b_F_passMinute_38, b_F_passMinute_43, true_and, and_true, true_implies, false_implies, not_true_eq_false, not_false_eq_true, eq_self, or_true, true_or, false_or, or_false, false_and, and_false, Option.toList_some, Option.toList_none, List.cons_append, List.nil_append, n10, n01, e10, e01, e08, e18, e28, e38, e48, e58, e68, e78, lt_lit, nI_add, pk_mul, n_le, n_lt, n_eq, n_cl, n_in, n_sub, n_div, n_rem, n_ite, Nat.zero_add, F_k hf, F_k1 hf, F_l1 hf, F_r0 hf, F_r1 hf, F_k2 hf, F_l2 hf, F_rg hf, F_kg hf, Fp.s2 hg, Fp.s3 hg, Fp.s4 hg, Fp.s5 hg, Fp.s6 hg, Fp.p hg, Fp.r0 hg, Fp.r1 hg, Fp.r2 hg, Fp.r3 hg, Fp.r4 hg, Fp.r5 hg, Fp.r6 hg, Fp.r7 hg, u2_eq, u2_nk, u2_nh, s1, s2]
      refine c_fgoAll hf a c (fun hi3 a3 b3 => ?_)
      obtain ⟨c4, d4⟩ := goAll_ok all1 (takeAll all1 0 (geeseN A 68) (geeseN A) 68) (A := takeAll all1 0 (geeseN A 68) (geeseN A)) (g := 0) (by omega) c
      have e1 : hi3 f 4 = nI (A 64) := by rw [a3.s4, d4.1, d.1, s1]
      simp (disch := omega) only [b_F_passMinute_0, b_F_passMinute_11, b_F_passMinute_16, b_F_passMinute_21, b_F_passMinute_34, b_F_passMinute_38, b_F_passMinute_43, true_and, and_true, true_implies, false_implies, not_true_eq_false, not_false_eq_true, eq_self, or_true, true_or, false_or, or_false, false_and, and_false, Option.toList_some, Option.toList_none, List.cons_append, List.nil_append, n10, n01, e10, e01, e08, e18, e28, e38, e48, e58, e68, e78, lt_lit, nI_add, pk_mul, n_le, n_lt, n_eq, n_cl, n_in, n_sub, n_div, n_rem, n_ite, Nat.zero_add, F_k hf, F_k1 hf, F_l1 hf, F_r0 hf, F_r1 hf, F_k2 hf, F_l2 hf, F_rg hf, F_kg hf, e1]
      rw [tookN, if_neg q, minN, openN, s1, s2, if_neg q, s4] at h
      rw [d.2.2.2, s4] at a3
      rw [s4]
      exact h _ a3.up4 (((fr.trans b).trans b3).up (by omega))
  refine i_F_passMinute ?_
  simp (disch := omega) only [b_F_passMinute_0, b_F_passMinute_11, b_F_passMinute_16, b_F_passMinute_34, b_F_passMinute_38, b_F_passMinute_43, true_and, and_true, true_implies, false_implies, not_true_eq_false, not_false_eq_true, eq_self, or_true, true_or, false_or, or_false, false_and, and_false, Option.toList_some, Option.toList_none, List.cons_append, List.nil_append, n10, n01, e10, e01, e08, e18, e28, e38, e48, e58, e68, e78, lt_lit, nI_add, pk_mul, n_le, n_lt, n_eq, n_cl, n_in, n_sub, n_div, n_rem, n_ite, Nat.zero_add, F_k hf, F_k1 hf, F_l1 hf, F_r0 hf, F_r1 hf, F_k2 hf, F_l2 hf, F_rg hf, F_kg hf, Fp.s2 hp, Fp.s3 hp, Fp.s4 hp, Fp.s5 hp, Fp.s6 hp, Fp.p hp, Fp.r0 hp, Fp.r1 hp, Fp.r2 hp, Fp.r3 hp, Fp.r4 hp, Fp.r5 hp, Fp.r6 hp, Fp.r7 hp]
  refine ⟨fun q => J _ _ _ (by unfold geeseN; rw [if_neg q]; exact hp) (fF.refl f hi), fun q => ?_⟩
  refine c_clearRow (r := 0) hf hp (by omega) (fun hi1 a1 b1 => ?_)
  simp (disch := omega) only [b_F_passMinute_0, b_F_passMinute_11, b_F_passMinute_16, b_F_passMinute_34, b_F_passMinute_38, b_F_passMinute_43, true_and, and_true, true_implies, false_implies, not_true_eq_false, not_false_eq_true, eq_self, or_true, true_or, false_or, or_false, false_and, and_false, Option.toList_some, Option.toList_none, List.cons_append, List.nil_append, n10, n01, e10, e01, e08, e18, e28, e38, e48, e58, e68, e78, lt_lit, nI_add, pk_mul, n_le, n_lt, n_eq, n_cl, n_in, n_sub, n_div, n_rem, n_ite, Nat.zero_add, F_k hf, F_k1 hf, F_l1 hf, F_r0 hf, F_r1 hf, F_k2 hf, F_l2 hf, F_rg hf, F_kg hf]
  refine c_clearRow (r := 1) hf a1 (by omega) (fun hi2 a2 b2 => ?_)
  simp (disch := omega) only [b_F_passMinute_0, b_F_passMinute_11, b_F_passMinute_16, b_F_passMinute_34, b_F_passMinute_38, b_F_passMinute_43, true_and, and_true, true_implies, false_implies, not_true_eq_false, not_false_eq_true, eq_self, or_true, true_or, false_or, or_false, false_and, and_false, Option.toList_some, Option.toList_none, List.cons_append, List.nil_append, n10, n01, e10, e01, e08, e18, e28, e38, e48, e58, e68, e78, lt_lit, nI_add, pk_mul, n_le, n_lt, n_eq, n_cl, n_in, n_sub, n_div, n_rem, n_ite, Nat.zero_add, F_k hf, F_k1 hf, F_l1 hf, F_r0 hf, F_r1 hf, F_k2 hf, F_l2 hf, F_rg hf, F_kg hf]
  refine J _ _ _ ?_ (b1.trans b2)
  unfold geeseN
  rw [if_pos q]
  exact a2
theorem c_goOn {n : Nat} (hf : isF f) (hp : Fp hi f A) (ok : rowOk B A) (hn : n ≤ 200) (hA : A 64 + n ≤ 10200) (hB : B + 909 * n < 100000000) (h : ∀ hi', Fp hi' f (minsN all1 n A) → fF f hi hi' → K (some (.int (nI (tooksN all1 n A)))) hi' hl) : Call u 9 [.ref f, .int (nI n)] hi hl K := by
  have loop : ∀ m k t A' B' hi', k + m = n → t ≤ 909 * k → A' 64 + m ≤ 10200 → B' + 909 * m < 100000000 → Fp hi' f A' → rowOk B' A' → fF f hi hi' → (∀ hi2, Fp hi2 f (minsN all1 m A') → fF f hi hi2 → K (some (.int (nI (t + tooksN all1 m A')))) hi2 hl) → Wp u 9 4 [.ref f, .int (nI n), .int (nI t), .int (nI k)] [] hi' hl K := by
    intro m
    induction m with
    | zero =>
      intro k t A' B' hi' e ht hA hB hp ok fr h
      refine wv (by decide) ?_
      simp (disch := omega) only [b_F_goOn_0, b_F_goOn_4, b_F_goOn_9, b_F_goOn_14, b_F_goOn_22, true_and, and_true, true_implies, false_implies, not_true_eq_false, not_false_eq_true, eq_self, or_true, true_or, false_or, or_false, false_and, and_false, Option.toList_some, Option.toList_none, List.cons_append, List.nil_append, n10, n01, e10, e01, e08, e18, e28, e38, e48, e58, e68, e78, lt_lit, nI_add, pk_mul, n_le, n_lt, n_eq, n_cl, n_in, n_sub, n_div, n_rem, n_ite, Nat.zero_add, F_k hf, F_k1 hf, F_l1 hf, F_r0 hf, F_r1 hf, F_k2 hf, F_l2 hf, F_rg hf, F_kg hf]
      exact ⟨fun _ => h _ hp fr, fun q => absurd (by omega) q⟩
    | succ m ih =>
      intro k t A' B' hi' e ht hA hB hp ok fr h
      refine wv (by decide) ?_
      simp (disch := omega) only [b_F_goOn_0, b_F_goOn_4, b_F_goOn_9, b_F_goOn_14, b_F_goOn_22, true_and, and_true, true_implies, false_implies, not_true_eq_false, not_false_eq_true, eq_self, or_true, true_or, false_or, or_false, false_and, and_false, Option.toList_some, Option.toList_none, List.cons_append, List.nil_append, n10, n01, e10, e01, e08, e18, e28, e38, e48, e58, e68, e78, lt_lit, nI_add, pk_mul, n_le, n_lt, n_eq, n_cl, n_in, n_sub, n_div, n_rem, n_ite, Nat.zero_add, F_k hf, F_k1 hf, F_l1 hf, F_r0 hf, F_r1 hf, F_k2 hf, F_l2 hf, F_rg hf, F_kg hf]
      refine ⟨fun q => absurd q (by omega), fun _ => ?_⟩
      have hB2 : B' + 909 < 100000000 := Nat.lt_of_le_of_lt (Nat.add_le_add_left (by omega : 909 ≤ 909 * (m + 1)) B') hB
      refine c_passMinute hf hp ok hB2 (fun hi2 a b => ?_)
      obtain ⟨m1, m2, m3, m4, m5, m6⟩ := min_ok all1 ok (by omega)
      simp (disch := omega) only [b_F_goOn_0, b_F_goOn_4, b_F_goOn_9, b_F_goOn_14, b_F_goOn_22, true_and, and_true, true_implies, false_implies, not_true_eq_false, not_false_eq_true, eq_self, or_true, true_or, false_or, or_false, false_and, and_false, Option.toList_some, Option.toList_none, List.cons_append, List.nil_append, n10, n01, e10, e01, e08, e18, e28, e38, e48, e58, e68, e78, lt_lit, nI_add, pk_mul, n_le, n_lt, n_eq, n_cl, n_in, n_sub, n_div, n_rem, n_ite, Nat.zero_add, F_k hf, F_k1 hf, F_l1 hf, F_r0 hf, F_r1 hf, F_k2 hf, F_l2 hf, F_rg hf, F_kg hf]
      refine ih (k + 1) _ (minN all1 A') (B' + 909) hi2 (by omega) (by omega) (by omega) (by omega) a m1 (fr.trans b) (fun hi3 c d => ?_)
      rw [minsN, tooksN, ← Nat.add_assoc] at h
      exact h hi3 c d
  refine i_F_goOn ?_
  simp (disch := omega) only [b_F_goOn_0, b_F_goOn_4, b_F_goOn_9, b_F_goOn_14, b_F_goOn_22, true_and, and_true, true_implies, false_implies, not_true_eq_false, not_false_eq_true, eq_self, or_true, true_or, false_or, or_false, false_and, and_false, Option.toList_some, Option.toList_none, List.cons_append, List.nil_append, n10, n01, e10, e01, e08, e18, e28, e38, e48, e58, e68, e78, lt_lit, nI_add, pk_mul, n_le, n_lt, n_eq, n_cl, n_in, n_sub, n_div, n_rem, n_ite, Nat.zero_add, F_k hf, F_k1 hf, F_l1 hf, F_r0 hf, F_r1 hf, F_k2 hf, F_l2 hf, F_rg hf, F_kg hf]
  refine loop n 0 0 A B hi (by omega) (by omega) hA hB hp ok (fF.refl f hi) (fun hi2 a b => ?_)
  rw [Nat.zero_add]; exact h hi2 a b
theorem c_isAny (hf : isF f) (hp : Fp hi f A) (ok : rowOk B A) (h1 : someN all1 A = true → K (some (.int 1)) hi hl) (h0 : ¬ someN all1 A = true → K (some (.int 0)) hi hl) : Call u 11 [.ref f] hi hl K := by
  have o6 := ok.2.2.2.2.2.1
  have o7 := ok.2.2.2.2.2.2
  have loop : ∀ m k, k + m = A 68 → (anyN (workN all1 A) k m = true → K (some (.int 1)) hi hl) → (¬ anyN (workN all1 A) k m = true → K (some (.int 0)) hi hl) → Wp u 11 2 [.ref f, .int (nI k)] [] hi hl K := by
    intro m
    induction m with
    | zero =>
      intro k e1 h1 h0
      refine wv (by decide) ?_
      simp (disch := omega) only [b_F_isAnyOnTheWay_0, b_F_isAnyOnTheWay_2, b_F_isAnyOnTheWay_10, b_F_isAnyOnTheWay_22, b_F_isAnyOnTheWay_24, b_F_isAnyOnTheWay_30, true_and, and_true, true_implies, false_implies, not_true_eq_false, not_false_eq_true, eq_self, or_true, true_or, false_or, or_false, false_and, and_false, Option.toList_some, Option.toList_none, List.cons_append, List.nil_append, n10, n01, e10, e01, e08, e18, e28, e38, e48, e58, e68, e78, lt_lit, nI_add, pk_mul, n_le, n_lt, n_eq, n_cl, n_in, n_sub, n_div, n_rem, n_ite, Nat.zero_add, F_k hf, F_k1 hf, F_l1 hf, F_r0 hf, F_r1 hf, F_k2 hf, F_l2 hf, F_rg hf, F_kg hf, Fp.s2 hp, Fp.s3 hp, Fp.s4 hp, Fp.s5 hp, Fp.s6 hp, Fp.p hp, Fp.r0 hp, Fp.r1 hp, Fp.r2 hp, Fp.r3 hp, Fp.r4 hp, Fp.r5 hp, Fp.r6 hp, Fp.r7 hp]
      exact ⟨fun _ => h0 (by simp [anyN]), fun q => absurd (by omega) q⟩
    | succ m ih =>
      intro k e1 h1 h0
      have g8 := (o7 k (by omega)).2.2.2.2.2.2.2
      refine wv (by decide) ?_
      simp (disch := omega) only [b_F_isAnyOnTheWay_0, b_F_isAnyOnTheWay_2, b_F_isAnyOnTheWay_10, b_F_isAnyOnTheWay_22, b_F_isAnyOnTheWay_24, b_F_isAnyOnTheWay_30, true_and, and_true, true_implies, false_implies, not_true_eq_false, not_false_eq_true, eq_self, or_true, true_or, false_or, or_false, false_and, and_false, Option.toList_some, Option.toList_none, List.cons_append, List.nil_append, n10, n01, e10, e01, e08, e18, e28, e38, e48, e58, e68, e78, lt_lit, nI_add, pk_mul, n_le, n_lt, n_eq, n_cl, n_in, n_sub, n_div, n_rem, n_ite, Nat.zero_add, F_k hf, F_k1 hf, F_l1 hf, F_r0 hf, F_r1 hf, F_k2 hf, F_l2 hf, F_rg hf, F_kg hf, Fp.s2 hp, Fp.s3 hp, Fp.s4 hp, Fp.s5 hp, Fp.s6 hp, Fp.p hp, Fp.r0 hp, Fp.r1 hp, Fp.r2 hp, Fp.r3 hp, Fp.r4 hp, Fp.r5 hp, Fp.r6 hp, Fp.r7 hp]
      refine ⟨fun q => absurd q (by omega), fun _ => ⟨fun q => ?_, fun q => ?_⟩⟩
      · have hf : workN all1 A k = false := by simp [workN, q]
        refine ih (k + 1) (by omega) (fun q => h1 ?_) (fun q => h0 ?_)
        · rw [anyN, hf, Bool.false_or]; exact q
        · rw [anyN, hf, Bool.false_or]; exact q
      · exact h1 (by simp [anyN, workN, all1, q])
  refine i_F_isAnyOnTheWay ?_
  simp (disch := omega) only [b_F_isAnyOnTheWay_0, b_F_isAnyOnTheWay_2, b_F_isAnyOnTheWay_10, b_F_isAnyOnTheWay_22, b_F_isAnyOnTheWay_24, b_F_isAnyOnTheWay_30, true_and, and_true, true_implies, false_implies, not_true_eq_false, not_false_eq_true, eq_self, or_true, true_or, false_or, or_false, false_and, and_false, Option.toList_some, Option.toList_none, List.cons_append, List.nil_append, n10, n01, e10, e01, e08, e18, e28, e38, e48, e58, e68, e78, lt_lit, nI_add, pk_mul, n_le, n_lt, n_eq, n_cl, n_in, n_sub, n_div, n_rem, n_ite, Nat.zero_add, F_k hf, F_k1 hf, F_l1 hf, F_r0 hf, F_r1 hf, F_k2 hf, F_l2 hf, F_rg hf, F_kg hf]
  exact loop (A 68) 0 (by omega) h1 h0
theorem c_goToEnd (hf : isF f) (hp : Fp hi f A) (ok : rowOk B A) (hA : A 64 ≤ 9999) (hB : B < 99000000) (h : ∀ hi', Fp hi' f (endN all1 200 A) → fF f hi hi' → K none hi' hl) : Call u 10 [.ref f] hi hl K := by
  have loop : ∀ m k A' B' hi', k + m = 200 → A' 64 + m ≤ 10200 → B' + 909 * m < 100000000 → Fp hi' f A' → rowOk B' A' → fF f hi hi' → (∀ hi2, Fp hi2 f (endN all1 m A') → fF f hi hi2 → K none hi2 hl) → Wp u 10 2 [.ref f, .int (nI k)] [] hi' hl K := by
    intro m
    induction m with
    | zero =>
      intro k A' B' hi' e hA hB hp ok fr h
      refine wv (by decide) ?_
      simp (disch := omega) only [b_F_goToEnd_0, b_F_goToEnd_2, b_F_goToEnd_9, b_F_goToEnd_13, b_F_goToEnd_16, b_F_goToEnd_20, b_F_goToEnd_27, true_and, and_true, true_implies, false_implies, not_true_eq_false, not_false_eq_true, eq_self, or_true, true_or, false_or, or_false, false_and, and_false, Option.toList_some, Option.toList_none, List.cons_append, List.nil_append, n10, n01, e10, e01, e08, e18, e28, e38, e48, e58, e68, e78, lt_lit, nI_add, pk_mul, n_le, n_lt, n_eq, n_cl, n_in, n_sub, n_div, n_rem, n_ite, Nat.zero_add, F_k hf, F_k1 hf, F_l1 hf, F_r0 hf, F_r1 hf, F_k2 hf, F_l2 hf, F_rg hf, F_kg hf]
      exact ⟨fun _ => ⟨rfl, h _ hp fr⟩, fun q => absurd (by omega) q⟩
    | succ m ih =>
      intro k A' B' hi' e hA hB hp ok fr h
      refine wv (by decide) ?_
      simp (disch := omega) only [b_F_goToEnd_0, b_F_goToEnd_2, b_F_goToEnd_9, b_F_goToEnd_13, b_F_goToEnd_16, b_F_goToEnd_20, b_F_goToEnd_27, true_and, and_true, true_implies, false_implies, not_true_eq_false, not_false_eq_true, eq_self, or_true, true_or, false_or, or_false, false_and, and_false, Option.toList_some, Option.toList_none, List.cons_append, List.nil_append, n10, n01, e10, e01, e08, e18, e28, e38, e48, e58, e68, e78, lt_lit, nI_add, pk_mul, n_le, n_lt, n_eq, n_cl, n_in, n_sub, n_div, n_rem, n_ite, Nat.zero_add, F_k hf, F_k1 hf, F_l1 hf, F_r0 hf, F_r1 hf, F_k2 hf, F_l2 hf, F_rg hf, F_kg hf]
      refine ⟨fun q => absurd q (by omega), fun _ => ?_⟩
      refine c_isAny hf hp ok (fun q => ?_) (fun q => ?_)
      · simp (disch := omega) only [b_F_goToEnd_0, b_F_goToEnd_2, b_F_goToEnd_9, b_F_goToEnd_13, b_F_goToEnd_16, b_F_goToEnd_20, b_F_goToEnd_27, true_and, and_true, true_implies, false_implies, not_true_eq_false, not_false_eq_true, eq_self, or_true, true_or, false_or, or_false, false_and, and_false, Option.toList_some, Option.toList_none, List.cons_append, List.nil_append, n10, n01, e10, e01, e08, e18, e28, e38, e48, e58, e68, e78, lt_lit, nI_add, pk_mul, n_le, n_lt, n_eq, n_cl, n_in, n_sub, n_div, n_rem, n_ite, Nat.zero_add, F_k hf, F_k1 hf, F_l1 hf, F_r0 hf, F_r1 hf, F_k2 hf, F_l2 hf, F_rg hf, F_kg hf]
        have hB2 : B' + 909 < 100000000 := Nat.lt_of_le_of_lt (Nat.add_le_add_left (by omega : 909 ≤ 909 * (m + 1)) B') hB
        refine c_passMinute hf hp ok hB2 (fun hi2 a b => ?_)
        obtain ⟨m1, m2, m3, m4, m5, m6⟩ := min_ok all1 ok (by omega)
        simp (disch := omega) only [b_F_goToEnd_0, b_F_goToEnd_2, b_F_goToEnd_9, b_F_goToEnd_13, b_F_goToEnd_16, b_F_goToEnd_20, b_F_goToEnd_27, true_and, and_true, true_implies, false_implies, not_true_eq_false, not_false_eq_true, eq_self, or_true, true_or, false_or, or_false, false_and, and_false, Option.toList_some, Option.toList_none, List.cons_append, List.nil_append, n10, n01, e10, e01, e08, e18, e28, e38, e48, e58, e68, e78, lt_lit, nI_add, pk_mul, n_le, n_lt, n_eq, n_cl, n_in, n_sub, n_div, n_rem, n_ite, Nat.zero_add, F_k hf, F_k1 hf, F_l1 hf, F_r0 hf, F_r1 hf, F_k2 hf, F_l2 hf, F_rg hf, F_kg hf]
        refine ih (k + 1) (minN all1 A') (B' + 909) hi2 (by omega) (by omega) (by omega) a m1 (fr.trans b) (fun hi3 c d => ?_)
        rw [endN, if_pos q] at h
        exact h hi3 c d
      · simp (disch := omega) only [b_F_goToEnd_0, b_F_goToEnd_2, b_F_goToEnd_9, b_F_goToEnd_13, b_F_goToEnd_16, b_F_goToEnd_20, b_F_goToEnd_27, true_and, and_true, true_implies, false_implies, not_true_eq_false, not_false_eq_true, eq_self, or_true, true_or, false_or, or_false, false_and, and_false, Option.toList_some, Option.toList_none, List.cons_append, List.nil_append, n10, n01, e10, e01, e08, e18, e28, e38, e48, e58, e68, e78, lt_lit, nI_add, pk_mul, n_le, n_lt, n_eq, n_cl, n_in, n_sub, n_div, n_rem, n_ite, Nat.zero_add, F_k hf, F_k1 hf, F_l1 hf, F_r0 hf, F_r1 hf, F_k2 hf, F_l2 hf, F_rg hf, F_kg hf]
        rw [endN, if_neg q] at h
        exact ⟨rfl, h _ hp fr⟩
  refine i_F_goToEnd ?_
  simp (disch := omega) only [b_F_goToEnd_0, b_F_goToEnd_2, b_F_goToEnd_9, b_F_goToEnd_13, b_F_goToEnd_16, b_F_goToEnd_20, b_F_goToEnd_27, true_and, and_true, true_implies, false_implies, not_true_eq_false, not_false_eq_true, eq_self, or_true, true_or, false_or, or_false, false_and, and_false, Option.toList_some, Option.toList_none, List.cons_append, List.nil_append, n10, n01, e10, e01, e08, e18, e28, e38, e48, e58, e68, e78, lt_lit, nI_add, pk_mul, n_le, n_lt, n_eq, n_cl, n_in, n_sub, n_div, n_rem, n_ite, Nat.zero_add, F_k hf, F_k1 hf, F_l1 hf, F_r0 hf, F_r1 hf, F_k2 hf, F_l2 hf, F_rg hf, F_kg hf]
  exact loop 200 0 A B hi (by omega) (by omega) (by omega) hp ok (fF.refl f hi) h
end F2
