/-- the reference's row: its numbers as far as there are gleaners -/
def Mr (hi : HI) (A : Nat → Nat) : Prop := ∀ k, k < 69 + 8 * A 68 → hi 52 k = nI (A k)
def up (A : Nat → Nat) (k v : Nat) : Nat → Nat := fun j => if j = k then v else A j
theorem up_eq (A : Nat → Nat) (k v : Nat) : up A k v k = v := by simp [up]
theorem up_ne (A : Nat → Nat) {k v j : Nat} (h : j ≠ k) : up A k v j = A j := by simp [up, h]
theorem u2_eq {hi : HI} {h k : Nat} {v : Int32} : up2 hi h k v h k = v := by simp [up2, upd]
theorem u2_nk {hi : HI} {h k j : Nat} {v : Int32} (q : j ≠ k) : up2 hi h k v h j = hi h j := by simp [up2, upd, q]
theorem u2_nh {hi : HI} {h k o j : Nat} {v : Int32} (q : o ≠ h) : up2 hi h k v o j = hi o j := by simp [up2, q]
theorem Mr.up {hi : HI} {A : Nat → Nat} {k v : Nat} (h : Mr hi A) (hk : k ≠ 68) : Mr (up2 hi 52 k (nI v)) (up A k v) := by
  intro j hj
  rw [up_ne A (show (68 : Nat) ≠ k from fun q => hk q.symm)] at hj
  by_cases q : j = k
  · subst q; rw [u2_eq, up_eq]
  · rw [u2_nk q, up_ne A q]; exact h j hj
section M
variable {u : UV} {hi : HI} {hl : HL} {K : Option Value → HI → HL → Prop} {A : Nat → Nat}
theorem c_at {g f : Nat} (hg : g < 1000) (hf : f < 1000) (h : K (some (.int (nI (69 + 8 * g + f)))) hi hl) : Call u 132 [.int (nI g), .int (nI f)] hi hl K := by
  refine i_M_at ?_
  simp (disch := omega) only [b_M_at_0, true_and, and_true, true_implies, false_implies, not_true_eq_false, not_false_eq_true, eq_self, or_true, true_or, false_or, or_false, false_and, and_false, Option.toList_some, Option.toList_none, List.cons_append, List.nil_append, n10, n01, e10, e01, e08, e18, e28, e38, e48, e58, e68, e78, lt_lit, nI_add, pk_mul, n_le, n_lt, n_eq, n_cl, n_in, n_sub, n_div, n_rem, n_ite, Nat.zero_add]
  exact h
theorem c_gleanerIs {g f : Nat} (hr : Mr hi A) (hn : A 68 ≤ 9) (hg : g < A 68) (hf : f < 8) (h : K (some (.int (nI (A (69 + 8 * g + f))))) hi hl) : Call u 133 [.ref 51, .int (nI g), .int (nI f)] hi hl K := by
  refine i_M_gleanerIs ?_
  simp (disch := omega) only [b_M_gleanerIs_0, b_M_gleanerIs_9, true_and, and_true, true_implies, false_implies, not_true_eq_false, not_false_eq_true, eq_self, or_true, true_or, false_or, or_false, false_and, and_false, Option.toList_some, Option.toList_none, List.cons_append, List.nil_append, n10, n01, e10, e01, e08, e18, e28, e38, e48, e58, e68, e78, lt_lit, nI_add, pk_mul, n_le, n_lt, n_eq, n_cl, n_in, n_sub, n_div, n_rem, n_ite, Nat.zero_add, r_51_0, r_51_1, r_51_2, r_51_4, r_51_6, r_51_13, r_51_14, r_51_18, r_51_19, r_51_20, r_51_21, k_51, k_52, k_53, k_54, k_55, k_56, k_57, k_58, k_59, k_60, k_61, k_62, n_52, n_53, n_54, n_55, n_56, n_57, n_58, n_59, n_60, n_61, n_62]
  refine c_at (by omega) (by omega) ?_
  simp (disch := omega) only [b_M_gleanerIs_0, b_M_gleanerIs_9, true_and, and_true, true_implies, false_implies, not_true_eq_false, not_false_eq_true, eq_self, or_true, true_or, false_or, or_false, false_and, and_false, Option.toList_some, Option.toList_none, List.cons_append, List.nil_append, n10, n01, e10, e01, e08, e18, e28, e38, e48, e58, e68, e78, lt_lit, nI_add, pk_mul, n_le, n_lt, n_eq, n_cl, n_in, n_sub, n_div, n_rem, n_ite, Nat.zero_add, r_51_0, r_51_1, r_51_2, r_51_4, r_51_6, r_51_13, r_51_14, r_51_18, r_51_19, r_51_20, r_51_21, k_51, k_52, k_53, k_54, k_55, k_56, k_57, k_58, k_59, k_60, k_61, k_62, n_52, n_53, n_54, n_55, n_56, n_57, n_58, n_59, n_60, n_61, n_62]
  rw [hr _ (by omega)]
  exact h
theorem c_mfinding {w : Int32} {j : Nat} (hj : j < 7) (e : (-1000000001 : Int32) - w = nI j) (h : K (some (.int w)) (up2 (up2 hi 55 (j + 1) (hi 55 (j + 1) + nI 1)) 55 0 (hi 55 0 + nI 1)) hl) : Call u 118 [.ref 51, .int w] hi hl K := by
  refine i_M_finding ?_
  have e1 : (1 : Int32) = nI 1 := rfl
  have e0 : (0 : Int32) = nI 0 := rfl
  simp only [b_M_finding_0, true_and, and_true, true_implies, false_implies, not_true_eq_false, not_false_eq_true, eq_self, or_true, true_or, false_or, or_false, false_and, and_false, Option.toList_some, Option.toList_none, List.cons_append, List.nil_append, n10, n01, e10, e01, e08, e18, e28, e38, e48, e58, e68, e78, r_51_0, r_51_1, r_51_2, r_51_4, r_51_6, r_51_13, r_51_14, r_51_18, r_51_19, r_51_20, r_51_21, k_51, k_52, k_53, k_54, k_55, k_56, k_57, k_58, k_59, k_60, k_61, k_62, n_52, n_53, n_54, n_55, n_56, n_57, n_58, n_59, n_60, n_61, n_62, e]
  simp (disch := omega) only [e1, e0, nI_add, n_cl, n_in, true_and, and_true, true_implies, false_implies, not_true_eq_false, not_false_eq_true, eq_self, or_true, true_or, false_or, or_false, false_and, and_false, Option.toList_some, Option.toList_none, List.cons_append, List.nil_append, n10, n01, e10, e01, e08, e18, e28, e38, e48, e58, e68, e78, u2_nk]
  exact h
theorem c_misGleaner {x : Int32} (hr : Mr hi A) (hn : A 68 ≤ 9) (h1 : vp_in x (A 68) → K (some (.int 1)) hi hl) (h0 : ¬ vp_in x (A 68) → K (some (.int 0)) hi hl) : Call u 131 [.ref 51, .int x] hi hl K := by
  refine i_M_isGleaner ?_
  simp (disch := omega) only [b_M_isGleaner_0, b_M_isGleaner_14, true_and, and_true, true_implies, false_implies, not_true_eq_false, not_false_eq_true, eq_self, or_true, true_or, false_or, or_false, false_and, and_false, Option.toList_some, Option.toList_none, List.cons_append, List.nil_append, n10, n01, e10, e01, e08, e18, e28, e38, e48, e58, e68, e78, lt_lit, nI_add, pk_mul, n_le, n_lt, n_eq, n_cl, n_in, n_sub, n_div, n_rem, n_ite, Nat.zero_add, r_51_0, r_51_1, r_51_2, r_51_4, r_51_6, r_51_13, r_51_14, r_51_18, r_51_19, r_51_20, r_51_21, k_51, k_52, k_53, k_54, k_55, k_56, k_57, k_58, k_59, k_60, k_61, k_62, n_52, n_53, n_54, n_55, n_56, n_57, n_58, n_59, n_60, n_61, n_62, hr 68 (by omega)]
  refine c_within (fun h => ?_) (fun h => ?_)
  · simp only [b_M_isGleaner_0, b_M_isGleaner_14, true_and, and_true, true_implies, false_implies, not_true_eq_false, not_false_eq_true, eq_self, or_true, true_or, false_or, or_false, false_and, and_false, Option.toList_some, Option.toList_none, List.cons_append, List.nil_append, n10, n01, e10, e01, e08, e18, e28, e38, e48, e58, e68, e78]; exact h1 ((q_iff2 (by omega)).mpr h)
  · simp only [b_M_isGleaner_0, b_M_isGleaner_14, true_and, and_true, true_implies, false_implies, not_true_eq_false, not_false_eq_true, eq_self, or_true, true_or, false_or, or_false, false_and, and_false, Option.toList_some, Option.toList_none, List.cons_append, List.nil_append, n10, n01, e10, e01, e08, e18, e28, e38, e48, e58, e68, e78]; exact h0 (fun q => h ((q_iff2 (by omega)).mp q))
theorem c_become {k v : Nat} (hr : Mr hi A) (hk : k < 69 + 8 * A 68) (hn : A 68 ≤ 9) (h : K (some (.int (nI (A k)))) (up2 hi 52 k (nI v)) hl) : Call u 120 [.ref 51, .int (nI k), .int (nI v)] hi hl K := by
  refine i_M_become ?_
  simp (disch := omega) only [b_M_become_0, true_and, and_true, true_implies, false_implies, not_true_eq_false, not_false_eq_true, eq_self, or_true, true_or, false_or, or_false, false_and, and_false, Option.toList_some, Option.toList_none, List.cons_append, List.nil_append, n10, n01, e10, e01, e08, e18, e28, e38, e48, e58, e68, e78, lt_lit, nI_add, pk_mul, n_le, n_lt, n_eq, n_cl, n_in, n_sub, n_div, n_rem, n_ite, Nat.zero_add, r_51_0, r_51_1, r_51_2, r_51_4, r_51_6, r_51_13, r_51_14, r_51_18, r_51_19, r_51_20, r_51_21, k_51, k_52, k_53, k_54, k_55, k_56, k_57, k_58, k_59, k_60, k_61, k_62, n_52, n_53, n_54, n_55, n_56, n_57, n_58, n_59, n_60, n_61, n_62, hr k hk]
  exact h
/-- a sum over a stretch -/
def smN (f : Nat → Nat) : Nat → Nat → Nat
  | _, 0 => 0
  | a, n + 1 => f a + smN f (a + 1) n
theorem c_earsOf {a b : Nat} (hr : Mr hi A) (hok : ∀ k, k < 64 → A k ≤ 99) (hab : a ≤ b) (hb : b ≤ 64) (h : K (some (.int (nI (smN A a (b - a))))) hi hl) : Call u 126 [.ref 51, .int (nI a), .int (nI b)] hi hl K := by
  have loop : ∀ n a s, a + n = b → s ≤ 100 * a → K (some (.int (nI (s + smN A a n)))) hi hl → ∀ x1, Wp u 126 5 [.ref 51, .int x1, .int (nI b), .int (nI s), .int (nI a)] [] hi hl K := by
    intro n
    induction n with
    | zero =>
      intro a s e hs h x1
      refine wv (by decide) ?_
      simp (disch := omega) only [b_M_earsOf_0, b_M_earsOf_5, b_M_earsOf_11, b_M_earsOf_29, true_and, and_true, true_implies, false_implies, not_true_eq_false, not_false_eq_true, eq_self, or_true, true_or, false_or, or_false, false_and, and_false, Option.toList_some, Option.toList_none, List.cons_append, List.nil_append, n10, n01, e10, e01, e08, e18, e28, e38, e48, e58, e68, e78, lt_lit, nI_add, pk_mul, n_le, n_lt, n_eq, n_cl, n_in, n_sub, n_div, n_rem, n_ite, Nat.zero_add, r_51_0, r_51_1, r_51_2, r_51_4, r_51_6, r_51_13, r_51_14, r_51_18, r_51_19, r_51_20, r_51_21, k_51, k_52, k_53, k_54, k_55, k_56, k_57, k_58, k_59, k_60, k_61, k_62, n_52, n_53, n_54, n_55, n_56, n_57, n_58, n_59, n_60, n_61, n_62]
      refine ⟨fun _ => ?_, fun q => absurd (by omega) q⟩
      simpa [smN] using h
    | succ n ih =>
      intro a s e hs h x1
      refine wv (by decide) ?_
      have hr' : ∀ k, k < 69 + 8 * A 68 → hi 52 k = nI (A k) := hr
      simp (disch := omega) only [b_M_earsOf_0, b_M_earsOf_5, b_M_earsOf_11, b_M_earsOf_29, true_and, and_true, true_implies, false_implies, not_true_eq_false, not_false_eq_true, eq_self, or_true, true_or, false_or, or_false, false_and, and_false, Option.toList_some, Option.toList_none, List.cons_append, List.nil_append, n10, n01, e10, e01, e08, e18, e28, e38, e48, e58, e68, e78, lt_lit, nI_add, pk_mul, n_le, n_lt, n_eq, n_cl, n_in, n_sub, n_div, n_rem, n_ite, Nat.zero_add, r_51_0, r_51_1, r_51_2, r_51_4, r_51_6, r_51_13, r_51_14, r_51_18, r_51_19, r_51_20, r_51_21, k_51, k_52, k_53, k_54, k_55, k_56, k_57, k_58, k_59, k_60, k_61, k_62, n_52, n_53, n_54, n_55, n_56, n_57, n_58, n_59, n_60, n_61, n_62, hr']
      refine ⟨fun q => absurd q (by omega), fun _ => ?_⟩
      have := hok a (by omega)
      exact ih (a + 1) (s + A a) (by omega) (by omega) (by rw [smN, ← Nat.add_assoc] at h; exact h) x1
  refine i_M_earsOf ?_
  simp (disch := omega) only [b_M_earsOf_0, b_M_earsOf_5, b_M_earsOf_11, b_M_earsOf_29, true_and, and_true, true_implies, false_implies, not_true_eq_false, not_false_eq_true, eq_self, or_true, true_or, false_or, or_false, false_and, and_false, Option.toList_some, Option.toList_none, List.cons_append, List.nil_append, n10, n01, e10, e01, e08, e18, e28, e38, e48, e58, e68, e78, lt_lit, nI_add, pk_mul, n_le, n_lt, n_eq, n_cl, n_in, n_sub, n_div, n_rem, n_ite, Nat.zero_add, r_51_0, r_51_1, r_51_2, r_51_4, r_51_6, r_51_13, r_51_14, r_51_18, r_51_19, r_51_20, r_51_21, k_51, k_52, k_53, k_54, k_55, k_56, k_57, k_58, k_59, k_60, k_61, k_62, n_52, n_53, n_54, n_55, n_56, n_57, n_58, n_59, n_60, n_61, n_62]
  exact loop (b - a) a 0 (by omega) (by omega) (by simpa using h) _
end M
