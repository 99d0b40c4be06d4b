section M5
variable {u : UV} {hl : HL} {K : Option Value → HI → HL → Prop}
theorem c_minute_end {e : Int32} {w : Nat → Bool} (hw : hereIs e w) {t : Nat} {hi0 : HI} {B : Nat} : ∀ (n g : Nat) (A : Nat → Nat) (hi : HI) (l5 l6 : Value), g + n = A 68 → Mr hi A → rowOk B A → fM hi0 hi → (∀ hi', Mr hi' (up (goAll w g n A) 64 (A 64 + 1)) → fM hi0 hi' → K (some (.int (nI t))) hi' hl) → Wp u 151 108 [.ref 51, .int e, .int (nI t), .int (nI 1), .int (nI g), l5, l6] [] hi hl K := by
  intro n
  induction n with
  | zero =>
    intro g A hi l5 l6 e1 hr ok fr h
    have hr' : ∀ k, k < 69 + 8 * A 68 → hi 52 k = nI (A k) := hr
    have o2 := ok.2.1
    have o6 := ok.2.2.2.2.2.1
    refine wv (by decide) ?_
    simp (disch := omega) only [b_M_minute_108, b_M_minute_170, true_and, and_true, true_implies, false_implies, not_true_eq_false, not_false_eq_true, eq_self, or_true, true_or, false_or, or_false, false_and, and_false, Option.toList_some, Option.toList_none, List.cons_append, List.nil_append, n10, n01, e10, e01, e08, e18, e28, e38, e48, e58, e68, e78, lt_lit, nI_add, pk_mul, n_le, n_lt, n_eq, n_cl, n_in, n_sub, n_div, n_rem, n_ite, Nat.zero_add, r_51_0, r_51_1, r_51_2, r_51_4, r_51_6, r_51_13, r_51_14, r_51_18, r_51_19, r_51_20, r_51_21, k_51, k_52, k_53, k_54, k_55, k_56, k_57, k_58, k_59, k_60, k_61, k_62, n_52, n_53, n_54, n_55, n_56, n_57, n_58, n_59, n_60, n_61, n_62, hr']
    refine ⟨fun _ => ?_, fun q => absurd (by omega) q⟩
    exact h _ (hr.up (k := 64) (by omega)) (fr.up _ _)
  | succ n ih =>
    intro g A hi l5 l6 e1 hr ok fr h
    have hr' : ∀ k, k < 69 + 8 * A 68 → hi 52 k = nI (A k) := hr
    have o6 := ok.2.2.2.2.2.1
    have inner : ∀ (m k p : Nat) (A' : Nat → Nat) (hi' : HI), k + m = p → p ≤ 2 → same4 A A' → Mr hi' A' → rowOk B A' → fM hi0 hi' → (∀ hi2 l5 l6, Mr hi2 (steps w g m A') → fM hi0 hi2 → Wp u 151 108 [.ref 51, .int e, .int (nI t), .int (nI 1), .int (nI (g + 1)), l5, l6] [] hi2 hl K) → Wp u 151 135 [.ref 51, .int e, .int (nI t), .int (nI 1), .int (nI g), .int (nI p), .int (nI k)] [] hi' hl K := by
      intro m
      induction m with
      | zero =>
        intro k p A' hi' e2 hp s hr ok fr h
        refine wv (by decide) ?_
        simp (disch := omega) only [b_M_minute_135, b_M_minute_142, b_M_minute_164, true_and, and_true, true_implies, false_implies, not_true_eq_false, not_false_eq_true, eq_self, or_true, true_or, false_or, or_false, false_and, and_false, Option.toList_some, Option.toList_none, List.cons_append, List.nil_append, n10, n01, e10, e01, e08, e18, e28, e38, e48, e58, e68, e78, lt_lit, nI_add, pk_mul, n_le, n_lt, n_eq, n_cl, n_in, n_sub, n_div, n_rem, n_ite, Nat.zero_add, r_51_0, r_51_1, r_51_2, r_51_4, r_51_6, r_51_13, r_51_14, r_51_18, r_51_19, r_51_20, r_51_21, k_51, k_52, k_53, k_54, k_55, k_56, k_57, k_58, k_59, k_60, k_61, k_62, n_52, n_53, n_54, n_55, n_56, n_57, n_58, n_59, n_60, n_61, n_62]
        exact ⟨fun _ => h _ _ _ hr fr, fun q => absurd (by omega) q⟩
      | succ m ihm =>
        intro k p A' hi' e2 hp s hr ok fr h
        have s68 := s.2.2.2
        refine wv (by decide) ?_
        simp (disch := omega) only [b_M_minute_135, b_M_minute_142, b_M_minute_164, true_and, and_true, true_implies, false_implies, not_true_eq_false, not_false_eq_true, eq_self, or_true, true_or, false_or, or_false, false_and, and_false, Option.toList_some, Option.toList_none, List.cons_append, List.nil_append, n10, n01, e10, e01, e08, e18, e28, e38, e48, e58, e68, e78, lt_lit, nI_add, pk_mul, n_le, n_lt, n_eq, n_cl, n_in, n_sub, n_div, n_rem, n_ite, Nat.zero_add, r_51_0, r_51_1, r_51_2, r_51_4, r_51_6, r_51_13, r_51_14, r_51_18, r_51_19, r_51_20, r_51_21, k_51, k_52, k_53, k_54, k_55, k_56, k_57, k_58, k_59, k_60, k_61, k_62, n_52, n_53, n_54, n_55, n_56, n_57, n_58, n_59, n_60, n_61, n_62]
        refine ⟨fun q => absurd q (by omega), fun _ => ?_⟩
        refine c_isAtWork hw hr ok (by omega) (fun q => ?_) (fun q => ?_)
        · simp (disch := omega) only [b_M_minute_149, b_M_minute_152, true_and, and_true, true_implies, false_implies, not_true_eq_false, not_false_eq_true, eq_self, or_true, true_or, false_or, or_false, false_and, and_false, Option.toList_some, Option.toList_none, List.cons_append, List.nil_append, n10, n01, e10, e01, e08, e18, e28, e38, e48, e58, e68, e78, lt_lit, nI_add, pk_mul, n_le, n_lt, n_eq, n_cl, n_in, n_sub, n_div, n_rem, n_ite, Nat.zero_add, r_51_0, r_51_1, r_51_2, r_51_4, r_51_6, r_51_13, r_51_14, r_51_18, r_51_19, r_51_20, r_51_21, k_51, k_52, k_53, k_54, k_55, k_56, k_57, k_58, k_59, k_60, k_61, k_62, n_52, n_53, n_54, n_55, n_56, n_57, n_58, n_59, n_60, n_61, n_62]
          refine c_step (g := g) hr ok (by omega) (fun hi2 hr2 f2 => ?_)
          simp (disch := omega) only [b_M_minute_158, true_and, and_true, true_implies, false_implies, not_true_eq_false, not_false_eq_true, eq_self, or_true, true_or, false_or, or_false, false_and, and_false, Option.toList_some, Option.toList_none, List.cons_append, List.nil_append, n10, n01, e10, e01, e08, e18, e28, e38, e48, e58, e68, e78, lt_lit, nI_add, pk_mul, n_le, n_lt, n_eq, n_cl, n_in, n_sub, n_div, n_rem, n_ite, Nat.zero_add, r_51_0, r_51_1, r_51_2, r_51_4, r_51_6, r_51_13, r_51_14, r_51_18, r_51_19, r_51_20, r_51_21, k_51, k_52, k_53, k_54, k_55, k_56, k_57, k_58, k_59, k_60, k_61, k_62, n_52, n_53, n_54, n_55, n_56, n_57, n_58, n_59, n_60, n_61, n_62]
          refine ihm (k + 1) p (stepN A' g) hi2 (by omega) hp (s.trans same4_step) hr2 (ok.step (by omega)) (fr.trans (fM.of f2)) (fun hi3 l5 l6 a b => h hi3 l5 l6 ?_ b)
          rw [steps, if_pos q]; exact a
        · simp (disch := omega) only [b_M_minute_149, b_M_minute_164, true_and, and_true, true_implies, false_implies, not_true_eq_false, not_false_eq_true, eq_self, or_true, true_or, false_or, or_false, false_and, and_false, Option.toList_some, Option.toList_none, List.cons_append, List.nil_append, n10, n01, e10, e01, e08, e18, e28, e38, e48, e58, e68, e78, lt_lit, nI_add, pk_mul, n_le, n_lt, n_eq, n_cl, n_in, n_sub, n_div, n_rem, n_ite, Nat.zero_add, r_51_0, r_51_1, r_51_2, r_51_4, r_51_6, r_51_13, r_51_14, r_51_18, r_51_19, r_51_20, r_51_21, k_51, k_52, k_53, k_54, k_55, k_56, k_57, k_58, k_59, k_60, k_61, k_62, n_52, n_53, n_54, n_55, n_56, n_57, n_58, n_59, n_60, n_61, n_62]
          refine h _ _ _ ?_ fr
          rw [steps, if_neg q]; exact hr
    refine wv (by decide) ?_
    simp (disch := omega) only [b_M_minute_108, b_M_minute_120, b_M_minute_124, true_and, and_true, true_implies, false_implies, not_true_eq_false, not_false_eq_true, eq_self, or_true, true_or, false_or, or_false, false_and, and_false, Option.toList_some, Option.toList_none, List.cons_append, List.nil_append, n10, n01, e10, e01, e08, e18, e28, e38, e48, e58, e68, e78, lt_lit, nI_add, pk_mul, n_le, n_lt, n_eq, n_cl, n_in, n_sub, n_div, n_rem, n_ite, Nat.zero_add, r_51_0, r_51_1, r_51_2, r_51_4, r_51_6, r_51_13, r_51_14, r_51_18, r_51_19, r_51_20, r_51_21, k_51, k_52, k_53, k_54, k_55, k_56, k_57, k_58, k_59, k_60, k_61, k_62, n_52, n_53, n_54, n_55, n_56, n_57, n_58, n_59, n_60, n_61, n_62, hr']
    refine ⟨fun q => absurd q (by omega), fun _ => ?_⟩
    refine c_goes (g := g) hr ok (by omega) ?_
    simp (disch := omega) only [b_M_minute_130, true_and, and_true, true_implies, false_implies, not_true_eq_false, not_false_eq_true, eq_self, or_true, true_or, false_or, or_false, false_and, and_false, Option.toList_some, Option.toList_none, List.cons_append, List.nil_append, n10, n01, e10, e01, e08, e18, e28, e38, e48, e58, e68, e78, lt_lit, nI_add, pk_mul, n_le, n_lt, n_eq, n_cl, n_in, n_sub, n_div, n_rem, n_ite, Nat.zero_add, r_51_0, r_51_1, r_51_2, r_51_4, r_51_6, r_51_13, r_51_14, r_51_18, r_51_19, r_51_20, r_51_21, k_51, k_52, k_53, k_54, k_55, k_56, k_57, k_58, k_59, k_60, k_61, k_62, n_52, n_53, n_54, n_55, n_56, n_57, n_58, n_59, n_60, n_61, n_62]
    have hp : paceN (A (69 + 8 * g)) (A 64) ≤ 2 := by unfold paceN; (repeat' split) <;> omega
    refine inner (paceN (A (69 + 8 * g)) (A 64)) 0 _ A hi (by omega) hp (same4.refl A) hr ok fr (fun hi2 l5 l6 a b => ?_)
    obtain ⟨ok2, s⟩ := steps_ok w g (paceN (A (69 + 8 * g)) (A 64)) (A := A) (by omega) ok
    refine ih (g + 1) _ hi2 l5 l6 (by rw [s.2.2.2]; omega) a ok2 b (fun hi3 c d => h hi3 ?_ d)
    rw [s.1] at c; rw [goAll]; exact c
end M5
