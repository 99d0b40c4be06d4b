section M6
variable {u : UV} {hl : HL} {K : Option Value → HI → HL → Prop}
theorem c_minute_shut {e : Int32} {hi0 : HI} {B : Nat} {A : Nat → Nat} {hi : HI} (hr : Mr hi A) (ok : rowOk B A) (fr : fM hi0 hi) (h : ∀ hi', Mr hi' (up A 64 (A 64 + 1)) → fM hi0 hi' → K (some (.int (nI 0))) hi' hl) : ∀ (n g : Nat) (l5 l6 : Value), g + n = A 68 → Wp u 151 60 [.ref 51, .int e, .int (nI 0), .int (nI 0), .int (nI g), l5, l6] [] hi hl K := by
  have hr' : ∀ k, k < 69 + 8 * A 68 → hi 52 k = nI (A k) := hr
  have o2 := ok.2.1
  have o6 := ok.2.2.2.2.2.1
  intro n
  induction n with
  | zero =>
    intro g l5 l6 e1
    refine wv (by decide) ?_
    simp (disch := omega) only [b_M_minute_60, b_M_minute_105, true_and, and_true, true_implies, false_implies, not_true_eq_false, not_false_eq_true, eq_self, or_true, true_or, false_or, or_false, false_and, and_false, Option.toList_some, Option.toList_none, List.cons_append, List.nil_append, n10, n01, e10, e01, e08, e18, e28, e38, e48, e58, e68, e78, lt_lit, nI_add, pk_mul, n_le, n_lt, n_eq, n_cl, n_in, n_sub, n_div, n_rem, n_ite, Nat.zero_add, r_51_0, r_51_1, r_51_2, r_51_4, r_51_6, r_51_13, r_51_14, r_51_18, r_51_19, r_51_20, r_51_21, k_51, k_52, k_53, k_54, k_55, k_56, k_57, k_58, k_59, k_60, k_61, k_62, n_52, n_53, n_54, n_55, n_56, n_57, n_58, n_59, n_60, n_61, n_62, hr']
    refine ⟨fun _ => ?_, fun q => absurd (by omega) q⟩
    refine wv (by decide) ?_
    simp (disch := omega) only [b_M_minute_108, b_M_minute_120, b_M_minute_170, true_and, and_true, true_implies, false_implies, not_true_eq_false, not_false_eq_true, eq_self, or_true, true_or, false_or, or_false, false_and, and_false, Option.toList_some, Option.toList_none, List.cons_append, List.nil_append, n10, n01, e10, e01, e08, e18, e28, e38, e48, e58, e68, e78, lt_lit, nI_add, pk_mul, n_le, n_lt, n_eq, n_cl, n_in, n_sub, n_div, n_rem, n_ite, Nat.zero_add, r_51_0, r_51_1, r_51_2, r_51_4, r_51_6, r_51_13, r_51_14, r_51_18, r_51_19, r_51_20, r_51_21, k_51, k_52, k_53, k_54, k_55, k_56, k_57, k_58, k_59, k_60, k_61, k_62, n_52, n_53, n_54, n_55, n_56, n_57, n_58, n_59, n_60, n_61, n_62, hr']
    exact ⟨fun _ => h _ (hr.up (k := 64) (by omega)) (fr.up _ _), fun _ => h _ (hr.up (k := 64) (by omega)) (fr.up _ _)⟩
  | succ n ih =>
    intro g l5 l6 e1
    refine wv (by decide) ?_
    simp (disch := omega) only [b_M_minute_60, b_M_minute_72, b_M_minute_96, b_M_minute_97, true_and, and_true, true_implies, false_implies, not_true_eq_false, not_false_eq_true, eq_self, or_true, true_or, false_or, or_false, false_and, and_false, Option.toList_some, Option.toList_none, List.cons_append, List.nil_append, n10, n01, e10, e01, e08, e18, e28, e38, e48, e58, e68, e78, lt_lit, nI_add, pk_mul, n_le, n_lt, n_eq, n_cl, n_in, n_sub, n_div, n_rem, n_ite, Nat.zero_add, r_51_0, r_51_1, r_51_2, r_51_4, r_51_6, r_51_13, r_51_14, r_51_18, r_51_19, r_51_20, r_51_21, k_51, k_52, k_53, k_54, k_55, k_56, k_57, k_58, k_59, k_60, k_61, k_62, n_52, n_53, n_54, n_55, n_56, n_57, n_58, n_59, n_60, n_61, n_62, hr']
    refine ⟨fun q => absurd q (by omega), fun _ => ?_⟩
    exact ih (g + 1) l5 l6 (by omega)
theorem c_minute_open {e : Int32} {w : Nat → Bool} (hw : hereIs e w) {hi0 : HI} : ∀ (n g t B : Nat) (A : Nat → Nat) (hi : HI) (l5 l6 : Value), g + n = A 68 → B + 101 * n < 100000000 → t < 1000000 + 101 * g → Mr hi A → rowOk B A → fM hi0 hi → (∀ hi', Mr hi' (up (goAll w 0 (A 68) (takeAll w g n A)) 64 (A 64 + 1)) → fM hi0 hi' → K (some (.int (nI (t + tookAll w g n A)))) hi' hl) → Wp u 151 60 [.ref 51, .int e, .int (nI t), .int (nI 1), .int (nI g), l5, l6] [] hi hl K := by
  intro n
  induction n with
  | zero =>
    intro g t B A hi l5 l6 e1 hB ht hr ok fr h
    have hr' : ∀ k, k < 69 + 8 * A 68 → hi 52 k = nI (A k) := hr
    have o6 := ok.2.2.2.2.2.1
    refine wv (by decide) ?_
    simp (disch := omega) only [b_M_minute_60, b_M_minute_105, true_and, and_true, true_implies, false_implies, not_true_eq_false, not_false_eq_true, eq_self, or_true, true_or, false_or, or_false, false_and, and_false, Option.toList_some, Option.toList_none, List.cons_append, List.nil_append, n10, n01, e10, e01, e08, e18, e28, e38, e48, e58, e68, e78, lt_lit, nI_add, pk_mul, n_le, n_lt, n_eq, n_cl, n_in, n_sub, n_div, n_rem, n_ite, Nat.zero_add, r_51_0, r_51_1, r_51_2, r_51_4, r_51_6, r_51_13, r_51_14, r_51_18, r_51_19, r_51_20, r_51_21, k_51, k_52, k_53, k_54, k_55, k_56, k_57, k_58, k_59, k_60, k_61, k_62, n_52, n_53, n_54, n_55, n_56, n_57, n_58, n_59, n_60, n_61, n_62, hr']
    refine ⟨fun _ => ?_, fun q => absurd (by omega) q⟩
    exact c_minute_end hw (A 68) 0 A hi l5 l6 (by omega) hr ok fr h
  | succ n ih =>
    intro g t B A hi l5 l6 e1 hB ht hr ok fr h
    have hr' : ∀ k, k < 69 + 8 * A 68 → hi 52 k = nI (A k) := hr
    have o6 := ok.2.2.2.2.2.1
    refine wv (by decide) ?_
    simp (disch := omega) only [b_M_minute_60, b_M_minute_72, b_M_minute_77, true_and, and_true, true_implies, false_implies, not_true_eq_false, not_false_eq_true, eq_self, or_true, true_or, false_or, or_false, false_and, and_false, Option.toList_some, Option.toList_none, List.cons_append, List.nil_append, n10, n01, e10, e01, e08, e18, e28, e38, e48, e58, e68, e78, lt_lit, nI_add, pk_mul, n_le, n_lt, n_eq, n_cl, n_in, n_sub, n_div, n_rem, n_ite, Nat.zero_add, r_51_0, r_51_1, r_51_2, r_51_4, r_51_6, r_51_13, r_51_14, r_51_18, r_51_19, r_51_20, r_51_21, k_51, k_52, k_53, k_54, k_55, k_56, k_57, k_58, k_59, k_60, k_61, k_62, n_52, n_53, n_54, n_55, n_56, n_57, n_58, n_59, n_60, n_61, n_62, hr']
    refine ⟨fun q => absurd q (by omega), fun _ => ?_⟩
    refine c_isAtWork (g := g) hw hr ok (by omega) (fun q => ?_) (fun q => ?_)
    · have s := same4_take (g := g) (ok.at (by omega))
      have := tk1_le ok (g := g) (by omega)
      have := dr1_le A g
      simp (disch := omega) only [b_M_minute_84, b_M_minute_87, true_and, and_true, true_implies, false_implies, not_true_eq_false, not_false_eq_true, eq_self, or_true, true_or, false_or, or_false, false_and, and_false, Option.toList_some, Option.toList_none, List.cons_append, List.nil_append, n10, n01, e10, e01, e08, e18, e28, e38, e48, e58, e68, e78, lt_lit, nI_add, pk_mul, n_le, n_lt, n_eq, n_cl, n_in, n_sub, n_div, n_rem, n_ite, Nat.zero_add, r_51_0, r_51_1, r_51_2, r_51_4, r_51_6, r_51_13, r_51_14, r_51_18, r_51_19, r_51_20, r_51_21, k_51, k_52, k_53, k_54, k_55, k_56, k_57, k_58, k_59, k_60, k_61, k_62, n_52, n_53, n_54, n_55, n_56, n_57, n_58, n_59, n_60, n_61, n_62]
      refine c_takesNow (g := g) hr ok (by omega) (by omega) (fun hi2 hr2 f2 => ?_)
      simp (disch := omega) only [b_M_minute_93, b_M_minute_97, true_and, and_true, true_implies, false_implies, not_true_eq_false, not_false_eq_true, eq_self, or_true, true_or, false_or, or_false, false_and, and_false, Option.toList_some, Option.toList_none, List.cons_append, List.nil_append, n10, n01, e10, e01, e08, e18, e28, e38, e48, e58, e68, e78, lt_lit, nI_add, pk_mul, n_le, n_lt, n_eq, n_cl, n_in, n_sub, n_div, n_rem, n_ite, Nat.zero_add, r_51_0, r_51_1, r_51_2, r_51_4, r_51_6, r_51_13, r_51_14, r_51_18, r_51_19, r_51_20, r_51_21, k_51, k_52, k_53, k_54, k_55, k_56, k_57, k_58, k_59, k_60, k_61, k_62, n_52, n_53, n_54, n_55, n_56, n_57, n_58, n_59, n_60, n_61, n_62]
      refine ih (g + 1) _ (B + 101) (take A g) hi2 l5 l6 (by rw [s.2.2.2]; omega) (by omega) (by omega) hr2 (ok.take (by omega)) (fr.trans (fM.of f2)) (fun hi3 a b => ?_)
      rw [takeAll, if_pos q, tookAll, if_pos q, ← Nat.add_assoc] at h
      rw [s.1, s.2.2.2] at a
      exact h hi3 a b
    · simp (disch := omega) only [b_M_minute_84, b_M_minute_96, b_M_minute_97, true_and, and_true, true_implies, false_implies, not_true_eq_false, not_false_eq_true, eq_self, or_true, true_or, false_or, or_false, false_and, and_false, Option.toList_some, Option.toList_none, List.cons_append, List.nil_append, n10, n01, e10, e01, e08, e18, e28, e38, e48, e58, e68, e78, lt_lit, nI_add, pk_mul, n_le, n_lt, n_eq, n_cl, n_in, n_sub, n_div, n_rem, n_ite, Nat.zero_add, r_51_0, r_51_1, r_51_2, r_51_4, r_51_6, r_51_13, r_51_14, r_51_18, r_51_19, r_51_20, r_51_21, k_51, k_52, k_53, k_54, k_55, k_56, k_57, k_58, k_59, k_60, k_61, k_62, n_52, n_53, n_54, n_55, n_56, n_57, n_58, n_59, n_60, n_61, n_62]
      refine ih (g + 1) _ B A hi l5 l6 (by omega) (by omega) (by omega) hr ok fr (fun hi3 a b => ?_)
      rw [takeAll, if_neg q, tookAll, if_neg q] at h
      exact h hi3 a b
theorem c_minute {e : Int32} {w : Nat → Bool} (hw : hereIs e w) {hi : HI} {A : Nat → Nat} {B : Nat} (hr : Mr hi A) (ok : rowOk B A) (hB : B + 909 < 100000000) (h : ∀ hi', Mr hi' (minN w A) → fM hi hi' → K (some (.int (nI (tookN w A)))) hi' hl) : Call u 151 [.ref 51, .int e] hi hl K := by
  have hr' : ∀ k, k < 69 + 8 * A 68 → hi 52 k = nI (A k) := hr
  have o2 := ok.2.1
  have o3 := ok.2.2.1
  have o4 := ok.2.2.2.1
  have o6 := ok.2.2.2.2.2.1
  obtain ⟨okg, sg⟩ := geese_ok ok
  have J : ∀ n hi' l3 l4 l5 l6, Mr hi' (geeseN A) → fM hi hi' → vc u (n + 50) 151 34 [.ref 51, .int e, .int (nI 0), l3, l4, l5, l6] [] hi' hl K := by
    intro n hi' l3 l4 l5 l6 hg fr
    obtain ⟨s1, s2, s3, s4⟩ := sg
    have hg' : ∀ k, k < 69 + 8 * A 68 → hi' 52 k = nI (geeseN A k) := fun k hk => hg k (by rw [s4]; exact hk)
    simp (disch := omega) only [b_M_minute_34, b_M_minute_51, b_M_minute_55, b_M_minute_56, true_and, and_true, true_implies, false_implies, not_true_eq_false, not_false_eq_true, eq_self, or_true, true_or, false_or, or_false, false_and, and_false, Option.toList_some, Option.toList_none, List.cons_append, List.nil_append, n10, n01, e10, e01, e08, e18, e28, e38, e48, e58, e68, e78, lt_lit, nI_add, pk_mul, n_le, n_lt, n_eq, n_cl, n_in, n_sub, n_div, n_rem, n_ite, Nat.zero_add, r_51_0, r_51_1, r_51_2, r_51_4, r_51_6, r_51_13, r_51_14, r_51_18, r_51_19, r_51_20, r_51_21, k_51, k_52, k_53, k_54, k_55, k_56, k_57, k_58, k_59, k_60, k_61, k_62, n_52, n_53, n_54, n_55, n_56, n_57, n_58, n_59, n_60, n_61, n_62, hg', s1, s2]
    refine ⟨fun q => ?_, fun q => ?_⟩
    · refine c_minute_shut hg okg fr (fun hi2 a b => ?_) (A 68) 0 l5 l6 (by omega)
      rw [tookN, if_pos q, minN, openN, s1, s2, if_pos q] at h
      rw [s1] at a
      exact h hi2 a b
    · refine c_minute_open hw (A 68) 0 0 B (geeseN A) hi' l5 l6 (by omega) (by omega) (by omega) hg okg fr (fun hi2 a b => ?_)
      rw [tookN, if_neg q, minN, openN, s1, s2, if_neg q, s4] at h
      rw [s1, s4] at a
      rw [Nat.zero_add]
      exact h hi2 a b
  refine i_M_minute ?_
  simp (disch := omega) only [b_M_minute_0, b_M_minute_19, true_and, and_true, true_implies, false_implies, not_true_eq_false, not_false_eq_true, eq_self, or_true, true_or, false_or, or_false, false_and, and_false, Option.toList_some, Option.toList_none, List.cons_append, List.nil_append, n10, n01, e10, e01, e08, e18, e28, e38, e48, e58, e68, e78, lt_lit, nI_add, pk_mul, n_le, n_lt, n_eq, n_cl, n_in, n_sub, n_div, n_rem, n_ite, Nat.zero_add, r_51_0, r_51_1, r_51_2, r_51_4, r_51_6, r_51_13, r_51_14, r_51_18, r_51_19, r_51_20, r_51_21, k_51, k_52, k_53, k_54, k_55, k_56, k_57, k_58, k_59, k_60, k_61, k_62, n_52, n_53, n_54, n_55, n_56, n_57, n_58, n_59, n_60, n_61, n_62, hr']
  refine ⟨fun q => J _ _ _ _ _ _ (by unfold geeseN; rw [if_neg q]; exact hr) (fM.refl hi), fun q => ?_⟩
  refine c_raked (r := 0) hr ok (by omega) (fun hi1 a1 b1 => ?_)
  obtain ⟨ok1, s1⟩ := wipe_ok (8 * 0) 8 (by omega) ok
  simp (disch := omega) only [b_M_minute_25, true_and, and_true, true_implies, false_implies, not_true_eq_false, not_false_eq_true, eq_self, or_true, true_or, false_or, or_false, false_and, and_false, Option.toList_some, Option.toList_none, List.cons_append, List.nil_append, n10, n01, e10, e01, e08, e18, e28, e38, e48, e58, e68, e78, lt_lit, nI_add, pk_mul, n_le, n_lt, n_eq, n_cl, n_in, n_sub, n_div, n_rem, n_ite, Nat.zero_add, r_51_0, r_51_1, r_51_2, r_51_4, r_51_6, r_51_13, r_51_14, r_51_18, r_51_19, r_51_20, r_51_21, k_51, k_52, k_53, k_54, k_55, k_56, k_57, k_58, k_59, k_60, k_61, k_62, n_52, n_53, n_54, n_55, n_56, n_57, n_58, n_59, n_60, n_61, n_62]
  refine c_raked (r := 1) a1 ok1 (by omega) (fun hi2 a2 b2 => ?_)
  simp (disch := omega) only [b_M_minute_30, true_and, and_true, true_implies, false_implies, not_true_eq_false, not_false_eq_true, eq_self, or_true, true_or, false_or, or_false, false_and, and_false, Option.toList_some, Option.toList_none, List.cons_append, List.nil_append, n10, n01, e10, e01, e08, e18, e28, e38, e48, e58, e68, e78, lt_lit, nI_add, pk_mul, n_le, n_lt, n_eq, n_cl, n_in, n_sub, n_div, n_rem, n_ite, Nat.zero_add, r_51_0, r_51_1, r_51_2, r_51_4, r_51_6, r_51_13, r_51_14, r_51_18, r_51_19, r_51_20, r_51_21, k_51, k_52, k_53, k_54, k_55, k_56, k_57, k_58, k_59, k_60, k_61, k_62, n_52, n_53, n_54, n_55, n_56, n_57, n_58, n_59, n_60, n_61, n_62]
  refine J _ _ _ _ _ _ ?_ ?_
  · unfold geeseN
    rw [if_pos q]
    intro k hk
    rw [u2_nh (by omega)]
    exact a2 k hk
  · refine ((fM.of b1).trans (fM.of b2)).trans ⟨fun o _ h51 => ?_, fun k hk => ?_⟩
    · funext j; rw [u2_nh h51]
    · rw [u2_nk hk]
end M6
