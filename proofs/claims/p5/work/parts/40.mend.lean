section M8
variable {u : UV} {hl : HL} {K : Option Value → HI → HL → Prop}
theorem c_goesToTheEnd {e : Int32} {w : Nat → Bool} (hw : hereIs e w) {hi : HI} {A : Nat → Nat} {B : Nat} (hr : Mr hi A) (ok : rowOk B A) (hA : A 64 ≤ 9999) (hB : B < 99000000) (h : ∀ hi', Mr hi' (endN w 200 A) → fM hi hi' → K none hi' hl) : Call u 164 [.ref 51, .int e] hi hl K := by
  have loop : ∀ m k t A' B' hi', k + m = 200 → t ≤ 909 * k → A' 64 + m ≤ 10200 → B' + 909 * m < 100000000 → Mr hi' A' → rowOk B' A' → fM hi hi' → (∀ hi2, Mr hi2 (endN w m A') → fM hi hi2 → K none hi2 hl) → Wp u 164 4 [.ref 51, .int e, .int (nI t), .int (nI k)] [] hi' hl K := by
    intro m
    induction m with
    | zero =>
      intro k t A' B' hi' e ht hA hB hr ok fr h
      refine wv (by decide) ?_
      simp (disch := omega) only [b_M_goesToTheEnd_0, b_M_goesToTheEnd_4, b_M_goesToTheEnd_11, b_M_goesToTheEnd_15, b_M_goesToTheEnd_20, b_M_goesToTheEnd_23, b_M_goesToTheEnd_29, b_M_goesToTheEnd_37, true_and, and_true, true_implies, false_implies, not_true_eq_false, not_false_eq_true, eq_self, or_true, true_or, false_or, or_false, false_and, and_false, Option.toList_some, Option.toList_none, List.cons_append, List.nil_append, n10, n01, e10, e01, e08, e18, e28, e38, e48, e58, e68, e78, lt_lit, nI_add, pk_mul, n_le, n_lt, n_eq, n_cl, n_in, n_sub, n_div, n_rem, n_ite, Nat.zero_add, r_51_0, r_51_1, r_51_2, r_51_4, r_51_6, r_51_13, r_51_14, r_51_18, r_51_19, r_51_20, r_51_21, k_51, k_52, k_53, k_54, k_55, k_56, k_57, k_58, k_59, k_60, k_61, k_62, n_52, n_53, n_54, n_55, n_56, n_57, n_58, n_59, n_60, n_61, n_62]
      exact ⟨fun _ => ⟨rfl, h _ hr fr⟩, fun q => absurd (by omega) q⟩
    | succ m ih =>
      intro k t A' B' hi' e ht hA hB hr ok fr h
      refine wv (by decide) ?_
      simp (disch := omega) only [b_M_goesToTheEnd_0, b_M_goesToTheEnd_4, b_M_goesToTheEnd_11, b_M_goesToTheEnd_15, b_M_goesToTheEnd_20, b_M_goesToTheEnd_23, b_M_goesToTheEnd_29, b_M_goesToTheEnd_37, true_and, and_true, true_implies, false_implies, not_true_eq_false, not_false_eq_true, eq_self, or_true, true_or, false_or, or_false, false_and, and_false, Option.toList_some, Option.toList_none, List.cons_append, List.nil_append, n10, n01, e10, e01, e08, e18, e28, e38, e48, e58, e68, e78, lt_lit, nI_add, pk_mul, n_le, n_lt, n_eq, n_cl, n_in, n_sub, n_div, n_rem, n_ite, Nat.zero_add, r_51_0, r_51_1, r_51_2, r_51_4, r_51_6, r_51_13, r_51_14, r_51_18, r_51_19, r_51_20, r_51_21, k_51, k_52, k_53, k_54, k_55, k_56, k_57, k_58, k_59, k_60, k_61, k_62, n_52, n_53, n_54, n_55, n_56, n_57, n_58, n_59, n_60, n_61, n_62]
      refine ⟨fun q => absurd q (by omega), fun _ => ⟨fun q => absurd q (by omega), fun _ => ?_⟩⟩
      refine c_isSomebody hw hr ok (fun q => ?_) (fun q => ?_)
      · simp (disch := omega) only [b_M_goesToTheEnd_0, b_M_goesToTheEnd_4, b_M_goesToTheEnd_11, b_M_goesToTheEnd_15, b_M_goesToTheEnd_20, b_M_goesToTheEnd_23, b_M_goesToTheEnd_29, b_M_goesToTheEnd_37, true_and, and_true, true_implies, false_implies, not_true_eq_false, not_false_eq_true, eq_self, or_true, true_or, false_or, or_false, false_and, and_false, Option.toList_some, Option.toList_none, List.cons_append, List.nil_append, n10, n01, e10, e01, e08, e18, e28, e38, e48, e58, e68, e78, lt_lit, nI_add, pk_mul, n_le, n_lt, n_eq, n_cl, n_in, n_sub, n_div, n_rem, n_ite, Nat.zero_add, r_51_0, r_51_1, r_51_2, r_51_4, r_51_6, r_51_13, r_51_14, r_51_18, r_51_19, r_51_20, r_51_21, k_51, k_52, k_53, k_54, k_55, k_56, k_57, k_58, k_59, k_60, k_61, k_62, n_52, n_53, n_54, n_55, n_56, n_57, n_58, n_59, n_60, n_61, n_62]
        have hB2 : B' + 909 < 100000000 := Nat.lt_of_le_of_lt (Nat.add_le_add_left (by omega : 909 ≤ 909 * (m + 1)) B') hB
        refine c_minute hw hr ok hB2 (fun hi2 a b => ?_)
        obtain ⟨m1, m2, m3, m4, m5, m6⟩ := min_ok w ok (by omega)
        simp (disch := omega) only [b_M_goesToTheEnd_0, b_M_goesToTheEnd_4, b_M_goesToTheEnd_11, b_M_goesToTheEnd_15, b_M_goesToTheEnd_20, b_M_goesToTheEnd_23, b_M_goesToTheEnd_29, b_M_goesToTheEnd_37, true_and, and_true, true_implies, false_implies, not_true_eq_false, not_false_eq_true, eq_self, or_true, true_or, false_or, or_false, false_and, and_false, Option.toList_some, Option.toList_none, List.cons_append, List.nil_append, n10, n01, e10, e01, e08, e18, e28, e38, e48, e58, e68, e78, lt_lit, nI_add, pk_mul, n_le, n_lt, n_eq, n_cl, n_in, n_sub, n_div, n_rem, n_ite, Nat.zero_add, r_51_0, r_51_1, r_51_2, r_51_4, r_51_6, r_51_13, r_51_14, r_51_18, r_51_19, r_51_20, r_51_21, k_51, k_52, k_53, k_54, k_55, k_56, k_57, k_58, k_59, k_60, k_61, k_62, n_52, n_53, n_54, n_55, n_56, n_57, n_58, n_59, n_60, n_61, n_62]
        refine ih (k + 1) _ (minN w A') (B' + 909) hi2 (by omega) (by omega) (by omega) (by omega) a m1 (fr.trans b) (fun hi3 c d => ?_)
        rw [endN, if_pos q] at h
        exact h hi3 c d
      · simp (disch := omega) only [b_M_goesToTheEnd_0, b_M_goesToTheEnd_4, b_M_goesToTheEnd_11, b_M_goesToTheEnd_15, b_M_goesToTheEnd_20, b_M_goesToTheEnd_23, b_M_goesToTheEnd_29, b_M_goesToTheEnd_37, true_and, and_true, true_implies, false_implies, not_true_eq_false, not_false_eq_true, eq_self, or_true, true_or, false_or, or_false, false_and, and_false, Option.toList_some, Option.toList_none, List.cons_append, List.nil_append, n10, n01, e10, e01, e08, e18, e28, e38, e48, e58, e68, e78, lt_lit, nI_add, pk_mul, n_le, n_lt, n_eq, n_cl, n_in, n_sub, n_div, n_rem, n_ite, Nat.zero_add, r_51_0, r_51_1, r_51_2, r_51_4, r_51_6, r_51_13, r_51_14, r_51_18, r_51_19, r_51_20, r_51_21, k_51, k_52, k_53, k_54, k_55, k_56, k_57, k_58, k_59, k_60, k_61, k_62, n_52, n_53, n_54, n_55, n_56, n_57, n_58, n_59, n_60, n_61, n_62]
        rw [endN, if_neg q] at h
        exact ⟨rfl, h _ hr fr⟩
  refine i_M_goesToTheEnd ?_
  simp (disch := omega) only [b_M_goesToTheEnd_0, b_M_goesToTheEnd_4, b_M_goesToTheEnd_11, b_M_goesToTheEnd_15, b_M_goesToTheEnd_20, b_M_goesToTheEnd_23, b_M_goesToTheEnd_29, b_M_goesToTheEnd_37, true_and, and_true, true_implies, false_implies, not_true_eq_false, not_false_eq_true, eq_self, or_true, true_or, false_or, or_false, false_and, and_false, Option.toList_some, Option.toList_none, List.cons_append, List.nil_append, n10, n01, e10, e01, e08, e18, e28, e38, e48, e58, e68, e78, lt_lit, nI_add, pk_mul, n_le, n_lt, n_eq, n_cl, n_in, n_sub, n_div, n_rem, n_ite, Nat.zero_add, r_51_0, r_51_1, r_51_2, r_51_4, r_51_6, r_51_13, r_51_14, r_51_18, r_51_19, r_51_20, r_51_21, k_51, k_52, k_53, k_54, k_55, k_56, k_57, k_58, k_59, k_60, k_61, k_62, n_52, n_53, n_54, n_55, n_56, n_57, n_58, n_59, n_60, n_61, n_62]
  exact loop 200 0 0 A B hi (by omega) (by omega) (by omega) (by omega) hr ok (fM.refl hi) h
/-- the row a comes to the row b -/
def cpy (hi : HI) (a b : Nat) : HI := fun o j => if o = b ∧ j < 141 then hi a j else hi o j
theorem c_copyRow {hi : HI} {a b : Nat} (hab : a ≠ b) (ka : kd a = 8) (kb : kd b = 8) (la : ln a = 141) (lb : ln b = 141) (h : K none (cpy hi a b) hl) : Call u 121 [.ref a, .ref b] hi hl K := by
  have loop : ∀ m k, k + m = 141 → Wp u 121 2 [.ref a, .ref b, .int (nI k)] [] (fun o j => if o = b ∧ j < k then hi a j else hi o j) hl K := by
    intro m
    induction m with
    | zero =>
      intro k e
      refine wv (by decide) ?_
      simp (disch := omega) only [b_M_copyRow_0, b_M_copyRow_2, b_M_copyRow_9, b_M_copyRow_21, true_and, and_true, true_implies, false_implies, not_true_eq_false, not_false_eq_true, eq_self, or_true, true_or, false_or, or_false, false_and, and_false, Option.toList_some, Option.toList_none, List.cons_append, List.nil_append, n10, n01, e10, e01, e08, e18, e28, e38, e48, e58, e68, e78, lt_lit, nI_add, pk_mul, n_le, n_lt, n_eq, n_cl, n_in, n_sub, n_div, n_rem, n_ite, Nat.zero_add, r_51_0, r_51_1, r_51_2, r_51_4, r_51_6, r_51_13, r_51_14, r_51_18, r_51_19, r_51_20, r_51_21, k_51, k_52, k_53, k_54, k_55, k_56, k_57, k_58, k_59, k_60, k_61, k_62, n_52, n_53, n_54, n_55, n_56, n_57, n_58, n_59, n_60, n_61, n_62]
      have : k = 141 := by omega
      subst this
      exact ⟨fun _ => ⟨rfl, h⟩, fun q => absurd (by omega) q⟩
    | succ m ih =>
      intro k e
      refine wv (by decide) ?_
      simp (disch := omega) only [b_M_copyRow_0, b_M_copyRow_2, b_M_copyRow_9, b_M_copyRow_21, true_and, and_true, true_implies, false_implies, not_true_eq_false, not_false_eq_true, eq_self, or_true, true_or, false_or, or_false, false_and, and_false, Option.toList_some, Option.toList_none, List.cons_append, List.nil_append, n10, n01, e10, e01, e08, e18, e28, e38, e48, e58, e68, e78, lt_lit, nI_add, pk_mul, n_le, n_lt, n_eq, n_cl, n_in, n_sub, n_div, n_rem, n_ite, Nat.zero_add, r_51_0, r_51_1, r_51_2, r_51_4, r_51_6, r_51_13, r_51_14, r_51_18, r_51_19, r_51_20, r_51_21, k_51, k_52, k_53, k_54, k_55, k_56, k_57, k_58, k_59, k_60, k_61, k_62, n_52, n_53, n_54, n_55, n_56, n_57, n_58, n_59, n_60, n_61, n_62, ka, kb, la, lb]
      refine ⟨fun q => absurd q (by omega), fun _ => ?_⟩
      have e2 : up2 (fun o j => if o = b ∧ j < k then hi a j else hi o j) b k (if a = b ∧ k < k then hi a k else hi a k) = (fun o j => if o = b ∧ j < k + 1 then hi a j else hi o j) := by
        funext o j
        by_cases q : o = b
        · subst q
          by_cases q2 : j = k
          · subst q2; rw [u2_eq]; simp
          · rw [u2_nk q2]
            by_cases q3 : j < k
            · rw [if_pos ⟨rfl, q3⟩, if_pos ⟨rfl, by omega⟩]
            · rw [if_neg (fun z => q3 z.2), if_neg (fun z => q3 (by omega))]
        · rw [u2_nh q, if_neg (fun z => q z.1), if_neg (fun z => q z.1)]
      rw [e2]
      exact ih (k + 1) (by omega)
  refine i_M_copyRow ?_
  simp (disch := omega) only [b_M_copyRow_0, b_M_copyRow_2, b_M_copyRow_9, b_M_copyRow_21, true_and, and_true, true_implies, false_implies, not_true_eq_false, not_false_eq_true, eq_self, or_true, true_or, false_or, or_false, false_and, and_false, Option.toList_some, Option.toList_none, List.cons_append, List.nil_append, n10, n01, e10, e01, e08, e18, e28, e38, e48, e58, e68, e78, lt_lit, nI_add, pk_mul, n_le, n_lt, n_eq, n_cl, n_in, n_sub, n_div, n_rem, n_ite, Nat.zero_add, r_51_0, r_51_1, r_51_2, r_51_4, r_51_6, r_51_13, r_51_14, r_51_18, r_51_19, r_51_20, r_51_21, k_51, k_52, k_53, k_54, k_55, k_56, k_57, k_58, k_59, k_60, k_61, k_62, n_52, n_53, n_54, n_55, n_56, n_57, n_58, n_59, n_60, n_61, n_62]
  have := loop 141 0 (by omega)
  have e0 : (fun o j => if o = b ∧ j < 0 then hi a j else hi o j) = hi := by funext o j; simp
  rw [e0] at this
  exact this
theorem cpy_to {hi : HI} {a b j : Nat} (h : j < 141) : cpy hi a b b j = hi a j := by simp [cpy, h]
theorem cpy_ne {hi : HI} {a b o : Nat} (h : o ≠ b) : cpy hi a b o = hi o := by funext j; simp [cpy, h]
theorem c_putBack {hi : HI} {v : Int32} (h : K (some (.int v)) (cpy hi 54 52) hl) : Call u 122 [.ref 51, .int v] hi hl K := by
  refine i_M_putBack ?_
  simp only [b_M_putBack_0, b_M_putBack_11, true_and, and_true, true_implies, false_implies, not_true_eq_false, not_false_eq_true, eq_self, or_true, true_or, false_or, or_false, false_and, and_false, Option.toList_some, Option.toList_none, List.cons_append, List.nil_append, n10, n01, e10, e01, e08, e18, e28, e38, e48, e58, e68, e78, r_51_0, r_51_1, r_51_2, r_51_4, r_51_6, r_51_13, r_51_14, r_51_18, r_51_19, r_51_20, r_51_21, k_51, k_52, k_53, k_54, k_55, k_56, k_57, k_58, k_59, k_60, k_61, k_62, n_52, n_53, n_54, n_55, n_56, n_57, n_58, n_59, n_60, n_61, n_62]
  refine c_copyRow (by omega) (by simp only [r_51_0, r_51_1, r_51_2, r_51_4, r_51_6, r_51_13, r_51_14, r_51_18, r_51_19, r_51_20, r_51_21, k_51, k_52, k_53, k_54, k_55, k_56, k_57, k_58, k_59, k_60, k_61, k_62, n_52, n_53, n_54, n_55, n_56, n_57, n_58, n_59, n_60, n_61, n_62]) (by simp only [r_51_0, r_51_1, r_51_2, r_51_4, r_51_6, r_51_13, r_51_14, r_51_18, r_51_19, r_51_20, r_51_21, k_51, k_52, k_53, k_54, k_55, k_56, k_57, k_58, k_59, k_60, k_61, k_62, n_52, n_53, n_54, n_55, n_56, n_57, n_58, n_59, n_60, n_61, n_62]) (by simp only [r_51_0, r_51_1, r_51_2, r_51_4, r_51_6, r_51_13, r_51_14, r_51_18, r_51_19, r_51_20, r_51_21, k_51, k_52, k_53, k_54, k_55, k_56, k_57, k_58, k_59, k_60, k_61, k_62, n_52, n_53, n_54, n_55, n_56, n_57, n_58, n_59, n_60, n_61, n_62]) (by simp only [r_51_0, r_51_1, r_51_2, r_51_4, r_51_6, r_51_13, r_51_14, r_51_18, r_51_19, r_51_20, r_51_21, k_51, k_52, k_53, k_54, k_55, k_56, k_57, k_58, k_59, k_60, k_61, k_62, n_52, n_53, n_54, n_55, n_56, n_57, n_58, n_59, n_60, n_61, n_62]) ?_
  simp only [b_M_putBack_0, b_M_putBack_11, true_and, and_true, true_implies, false_implies, not_true_eq_false, not_false_eq_true, eq_self, or_true, true_or, false_or, or_false, false_and, and_false, Option.toList_some, Option.toList_none, List.cons_append, List.nil_append, n10, n01, e10, e01, e08, e18, e28, e38, e48, e58, e68, e78, r_51_0, r_51_1, r_51_2, r_51_4, r_51_6, r_51_13, r_51_14, r_51_18, r_51_19, r_51_20, r_51_21, k_51, k_52, k_53, k_54, k_55, k_56, k_57, k_58, k_59, k_60, k_61, k_62, n_52, n_53, n_54, n_55, n_56, n_57, n_58, n_59, n_60, n_61, n_62]
  exact h
end M8
