/-! a field as a row of numbers, and what a minute does to it -/
def glOk (B : Nat) (A : Nat → Nat) (g : Nat) : Prop := A (69 + 8 * g) ≤ 5 ∧ A (70 + 8 * g) ≤ 7 ∧ A (71 + 8 * g) ≤ 7 ∧ A (72 + 8 * g) ≤ 4 ∧ A (73 + 8 * g) ≤ B ∧ A (74 + 8 * g) ≤ A (73 + 8 * g) ∧ A (75 + 8 * g) ≤ 1 ∧ A (76 + 8 * g) ≤ 1
def rowOk (B : Nat) (A : Nat → Nat) : Prop := (∀ k, k < 64 → A k ≤ 99) ∧ A 64 ≤ 10200 ∧ A 65 ≤ 999 ∧ A 66 ≤ 9999 ∧ A 67 ≤ 9999 ∧ A 68 ≤ 9 ∧ ∀ g, g < A 68 → glOk B A g
def atN (A : Nat → Nat) (g : Nat) : Nat := 8 * A (70 + 8 * g) + A (71 + 8 * g)
def tk1 (A : Nat → Nat) (g : Nat) : Nat := shareN (A (69 + 8 * g)) (A (atN A g))
def dr1 (A : Nat → Nat) (g : Nat) : Nat := min (pullN (A (69 + 8 * g)) (A 64)) (A 67)
def take (A : Nat → Nat) (g : Nat) : Nat → Nat := up (up (up (up A (atN A g) (A (atN A g) - tk1 A g)) 67 (A 67 - dr1 A g)) (73 + 8 * g) (A (73 + 8 * g) + (tk1 A g + dr1 A g))) (74 + 8 * g) (A (74 + 8 * g) + dr1 A g)
theorem share_le (k n : Nat) : shareN k n ≤ n := by
  unfold shareN
  repeat' split
  all_goals omega
theorem pull_le (k m : Nat) : pullN k m ≤ 2 := by
  unfold pullN
  split <;> omega
/-- a step of gleaner g -/
def stepN (A : Nat → Nat) (g : Nat) : Nat → Nat :=
  if A (75 + 8 * g) = 1 then (if A (71 + 8 * g) = 0 then (if A (70 + 8 * g) = 7 then up A (76 + 8 * g) 1 else up (up A (70 + 8 * g) (A (70 + 8 * g) + 1)) (75 + 8 * g) 0) else up A (71 + 8 * g) (A (71 + 8 * g) - 1))
  else (if A (71 + 8 * g) = 7 then (if A (70 + 8 * g) = 7 then up A (76 + 8 * g) 1 else up (up A (70 + 8 * g) (A (70 + 8 * g) + 1)) (75 + 8 * g) 1) else up A (71 + 8 * g) (A (71 + 8 * g) + 1))
section M2
variable {u : UV} {hi : HI} {hl : HL} {K : Option Value → HI → HL → Prop} {A : Nat → Nat} {B : Nat}
theorem c_under {g : Nat} (hr : Mr hi A) (ok : rowOk B A) (hg : g < A 68) (h : K (some (.int (nI (atN A g)))) hi hl) : Call u 140 [.ref 51, .int (nI g)] hi hl K := by
  obtain ⟨o1, o2, o3, o4, o5, o6, o7⟩ := ok
  obtain ⟨g1, g2, g3, g4, g5, g6, g7, g8⟩ := o7 g hg
  refine i_M_under ?_
  simp (disch := omega) only [b_M_under_0, b_M_under_9, b_M_under_17, true_and, and_true, true_implies, false_implies, not_true_eq_false, not_false_eq_true, eq_self, or_true, true_or, false_or, or_false, false_and, and_false, Option.toList_some, Option.toList_none, List.cons_append, List.nil_append, n10, n01, e10, e01, e08, e18, e28, e38, e48, e58, e68, e78, lt_lit, nI_add, pk_mul, n_le, n_lt, n_eq, n_cl, n_in, n_sub, n_div, n_rem, n_ite, Nat.zero_add, r_51_0, r_51_1, r_51_2, r_51_4, r_51_6, r_51_13, r_51_14, r_51_18, r_51_19, r_51_20, r_51_21, k_51, k_52, k_53, k_54, k_55, k_56, k_57, k_58, k_59, k_60, k_61, k_62, n_52, n_53, n_54, n_55, n_56, n_57, n_58, n_59, n_60, n_61, n_62]
  refine c_gleanerIs hr o6 hg (by omega) ?_
  simp (disch := omega) only [b_M_under_0, b_M_under_9, b_M_under_17, true_and, and_true, true_implies, false_implies, not_true_eq_false, not_false_eq_true, eq_self, or_true, true_or, false_or, or_false, false_and, and_false, Option.toList_some, Option.toList_none, List.cons_append, List.nil_append, n10, n01, e10, e01, e08, e18, e28, e38, e48, e58, e68, e78, lt_lit, nI_add, pk_mul, n_le, n_lt, n_eq, n_cl, n_in, n_sub, n_div, n_rem, n_ite, Nat.zero_add, r_51_0, r_51_1, r_51_2, r_51_4, r_51_6, r_51_13, r_51_14, r_51_18, r_51_19, r_51_20, r_51_21, k_51, k_52, k_53, k_54, k_55, k_56, k_57, k_58, k_59, k_60, k_61, k_62, n_52, n_53, n_54, n_55, n_56, n_57, n_58, n_59, n_60, n_61, n_62]
  refine c_gleanerIs hr o6 hg (by omega) ?_
  simp (disch := omega) only [b_M_under_0, b_M_under_9, b_M_under_17, true_and, and_true, true_implies, false_implies, not_true_eq_false, not_false_eq_true, eq_self, or_true, true_or, false_or, or_false, false_and, and_false, Option.toList_some, Option.toList_none, List.cons_append, List.nil_append, n10, n01, e10, e01, e08, e18, e28, e38, e48, e58, e68, e78, lt_lit, nI_add, pk_mul, n_le, n_lt, n_eq, n_cl, n_in, n_sub, n_div, n_rem, n_ite, Nat.zero_add, r_51_0, r_51_1, r_51_2, r_51_4, r_51_6, r_51_13, r_51_14, r_51_18, r_51_19, r_51_20, r_51_21, k_51, k_52, k_53, k_54, k_55, k_56, k_57, k_58, k_59, k_60, k_61, k_62, n_52, n_53, n_54, n_55, n_56, n_57, n_58, n_59, n_60, n_61, n_62]
  rw [show 69 + 8 * g + 1 = 70 + 8 * g by omega, show 69 + 8 * g + 2 = 71 + 8 * g by omega]
  exact h
theorem c_goes {g : Nat} (hr : Mr hi A) (ok : rowOk B A) (hg : g < A 68) (h : K (some (.int (nI (paceN (A (69 + 8 * g)) (A 64))))) hi hl) : Call u 139 [.ref 51, .int (nI g)] hi hl K := by
  obtain ⟨o1, o2, o3, o4, o5, o6, o7⟩ := ok
  obtain ⟨g1, g2, g3, g4, g5, g6, g7, g8⟩ := o7 g hg
  have hr' : ∀ k, k < 69 + 8 * A 68 → hi 52 k = nI (A k) := hr
  refine i_M_goes ?_
  simp (disch := omega) only [b_M_goes_0, b_M_goes_6, b_M_goes_12, b_M_goes_17, b_M_goes_21, b_M_goes_26, b_M_goes_31, b_M_goes_45, b_M_goes_46, true_and, and_true, true_implies, false_implies, not_true_eq_false, not_false_eq_true, eq_self, or_true, true_or, false_or, or_false, false_and, and_false, Option.toList_some, Option.toList_none, List.cons_append, List.nil_append, n10, n01, e10, e01, e08, e18, e28, e38, e48, e58, e68, e78, lt_lit, nI_add, pk_mul, n_le, n_lt, n_eq, n_cl, n_in, n_sub, n_div, n_rem, n_ite, Nat.zero_add, r_51_0, r_51_1, r_51_2, r_51_4, r_51_6, r_51_13, r_51_14, r_51_18, r_51_19, r_51_20, r_51_21, k_51, k_52, k_53, k_54, k_55, k_56, k_57, k_58, k_59, k_60, k_61, k_62, n_52, n_53, n_54, n_55, n_56, n_57, n_58, n_59, n_60, n_61, n_62]
  refine c_gleanerIs hr o6 hg (by omega) ?_
  simp (disch := omega) only [b_M_goes_0, b_M_goes_6, b_M_goes_12, b_M_goes_17, b_M_goes_21, b_M_goes_26, b_M_goes_31, b_M_goes_45, b_M_goes_46, true_and, and_true, true_implies, false_implies, not_true_eq_false, not_false_eq_true, eq_self, or_true, true_or, false_or, or_false, false_and, and_false, Option.toList_some, Option.toList_none, List.cons_append, List.nil_append, n10, n01, e10, e01, e08, e18, e28, e38, e48, e58, e68, e78, lt_lit, nI_add, pk_mul, n_le, n_lt, n_eq, n_cl, n_in, n_sub, n_div, n_rem, n_ite, Nat.zero_add, r_51_0, r_51_1, r_51_2, r_51_4, r_51_6, r_51_13, r_51_14, r_51_18, r_51_19, r_51_20, r_51_21, k_51, k_52, k_53, k_54, k_55, k_56, k_57, k_58, k_59, k_60, k_61, k_62, n_52, n_53, n_54, n_55, n_56, n_57, n_58, n_59, n_60, n_61, n_62, hr', Nat.add_zero]
  have h2 : ∀ v, v = paceN (A (69 + 8 * g)) (A 64) → K (some (.int (nI v))) hi hl := fun v e => by rw [e]; exact h
  repeat' (first | apply And.intro | intro _)
  all_goals first | omega | exact h2 _ (by unfold paceN; (repeat' split) <;> omega)
theorem take_68 (A : Nat → Nat) (g : Nat) (hg : g < 9) (hat : atN A g < 64) : take A g 68 = A 68 := by
  unfold take
  rw [up_ne _ (by omega), up_ne _ (by omega), up_ne _ (by omega), up_ne _ (by omega)]
theorem c_takesNow {g : Nat} (hr : Mr hi A) (ok : rowOk B A) (hB : B < 100000000) (hg : g < A 68) (h : ∀ hi', Mr hi' (take A g) → (∀ o, o ≠ 52 → hi' o = hi o) → K (some (.int (nI (tk1 A g + dr1 A g)))) hi' hl) : Call u 148 [.ref 51, .int (nI g)] hi hl K := by
  have ok' := ok
  obtain ⟨o1, o2, o3, o4, o5, o6, o7⟩ := ok
  obtain ⟨g1, g2, g3, g4, g5, g6, g7, g8⟩ := o7 g hg
  have hat : atN A g < 64 := by unfold atN; omega
  have ha99 := o1 _ hat
  have hr' : ∀ k, k < 69 + 8 * A 68 → hi 52 k = nI (A k) := hr
  have hsh : tk1 A g ≤ A (atN A g) := share_le _ _
  have hdr : dr1 A g ≤ 2 ∧ dr1 A g ≤ A 67 := by
    have := pull_le (A (69 + 8 * g)) (A 64)
    unfold dr1; omega
  have J : ∀ n c l3, c = dr1 A g → vc u (n + 100) 148 57 [.ref 51, .int (nI g), .int (nI (tk1 A g)), l3] [.int (nI c)] hi hl K := by
    intro n c l3 e
    subst e
    simp (disch := omega) only [b_M_takesNow_0, b_M_takesNow_6, b_M_takesNow_15, b_M_takesNow_19, b_M_takesNow_26, b_M_takesNow_30, b_M_takesNow_42, b_M_takesNow_56, b_M_takesNow_57, b_M_takesNow_67, b_M_takesNow_92, b_M_takesNow_108, true_and, and_true, true_implies, false_implies, not_true_eq_false, not_false_eq_true, eq_self, or_true, true_or, false_or, or_false, false_and, and_false, Option.toList_some, Option.toList_none, List.cons_append, List.nil_append, n10, n01, e10, e01, e08, e18, e28, e38, e48, e58, e68, e78, lt_lit, nI_add, pk_mul, n_le, n_lt, n_eq, n_cl, n_in, n_sub, n_div, n_rem, n_ite, Nat.zero_add, r_51_0, r_51_1, r_51_2, r_51_4, r_51_6, r_51_13, r_51_14, r_51_18, r_51_19, r_51_20, r_51_21, k_51, k_52, k_53, k_54, k_55, k_56, k_57, k_58, k_59, k_60, k_61, k_62, n_52, n_53, n_54, n_55, n_56, n_57, n_58, n_59, n_60, n_61, n_62]
    refine c_under hr ok' hg ?_
    simp (disch := omega) only [b_M_takesNow_0, b_M_takesNow_6, b_M_takesNow_15, b_M_takesNow_19, b_M_takesNow_26, b_M_takesNow_30, b_M_takesNow_42, b_M_takesNow_56, b_M_takesNow_57, b_M_takesNow_67, b_M_takesNow_92, b_M_takesNow_108, true_and, and_true, true_implies, false_implies, not_true_eq_false, not_false_eq_true, eq_self, or_true, true_or, false_or, or_false, false_and, and_false, Option.toList_some, Option.toList_none, List.cons_append, List.nil_append, n10, n01, e10, e01, e08, e18, e28, e38, e48, e58, e68, e78, lt_lit, nI_add, pk_mul, n_le, n_lt, n_eq, n_cl, n_in, n_sub, n_div, n_rem, n_ite, Nat.zero_add, r_51_0, r_51_1, r_51_2, r_51_4, r_51_6, r_51_13, r_51_14, r_51_18, r_51_19, r_51_20, r_51_21, k_51, k_52, k_53, k_54, k_55, k_56, k_57, k_58, k_59, k_60, k_61, k_62, n_52, n_53, n_54, n_55, n_56, n_57, n_58, n_59, n_60, n_61, n_62, hr', u2_nk]
    refine c_at (by omega) (by omega) ?_
    have hm1 := (hr.up (k := atN A g) (v := A (atN A g) - tk1 A g) (by omega)).up (k := 67) (v := A 67 - dr1 A g) (by omega)
    have hq : ∀ o, o ≠ 52 → up2 (up2 hi 52 (atN A g) (nI (A (atN A g) - tk1 A g))) 52 67 (nI (A 67 - dr1 A g)) o = hi o := fun o ho => by funext j; rw [u2_nh ho, u2_nh ho]
    generalize up2 (up2 hi 52 (atN A g) (nI (A (atN A g) - tk1 A g))) 52 67 (nI (A 67 - dr1 A g)) = h1 at hm1 hq ⊢
    have hm2 := hm1.up (k := 73 + 8 * g) (v := A (73 + 8 * g) + (tk1 A g + dr1 A g)) (by omega)
    have hm3 := hm2.up (k := 74 + 8 * g) (v := A (74 + 8 * g) + dr1 A g) (by omega)
    have r4 : h1 52 (73 + 8 * g) = nI (A (73 + 8 * g)) := by
      rw [hm1 _ (by rw [up_ne _ (by omega), up_ne _ (by omega)]; omega), up_ne _ (by omega), up_ne _ (by omega)]
    have r5 : h1 52 (74 + 8 * g) = nI (A (74 + 8 * g)) := by
      rw [hm1 _ (by rw [up_ne _ (by omega), up_ne _ (by omega)]; omega), up_ne _ (by omega), up_ne _ (by omega)]
    simp (disch := omega) only [b_M_takesNow_0, b_M_takesNow_6, b_M_takesNow_15, b_M_takesNow_19, b_M_takesNow_26, b_M_takesNow_30, b_M_takesNow_42, b_M_takesNow_56, b_M_takesNow_57, b_M_takesNow_67, b_M_takesNow_92, b_M_takesNow_108, true_and, and_true, true_implies, false_implies, not_true_eq_false, not_false_eq_true, eq_self, or_true, true_or, false_or, or_false, false_and, and_false, Option.toList_some, Option.toList_none, List.cons_append, List.nil_append, n10, n01, e10, e01, e08, e18, e28, e38, e48, e58, e68, e78, lt_lit, nI_add, pk_mul, n_le, n_lt, n_eq, n_cl, n_in, n_sub, n_div, n_rem, n_ite, Nat.zero_add, r_51_0, r_51_1, r_51_2, r_51_4, r_51_6, r_51_13, r_51_14, r_51_18, r_51_19, r_51_20, r_51_21, k_51, k_52, k_53, k_54, k_55, k_56, k_57, k_58, k_59, k_60, k_61, k_62, n_52, n_53, n_54, n_55, n_56, n_57, n_58, n_59, n_60, n_61, n_62, show 69 + 8 * g + 4 = 73 + 8 * g by omega, r4, List.cons_append, List.nil_append, Option.toList]
    refine c_at (by omega) (by omega) ?_
    simp (disch := omega) only [b_M_takesNow_0, b_M_takesNow_6, b_M_takesNow_15, b_M_takesNow_19, b_M_takesNow_26, b_M_takesNow_30, b_M_takesNow_42, b_M_takesNow_56, b_M_takesNow_57, b_M_takesNow_67, b_M_takesNow_92, b_M_takesNow_108, true_and, and_true, true_implies, false_implies, not_true_eq_false, not_false_eq_true, eq_self, or_true, true_or, false_or, or_false, false_and, and_false, Option.toList_some, Option.toList_none, List.cons_append, List.nil_append, n10, n01, e10, e01, e08, e18, e28, e38, e48, e58, e68, e78, lt_lit, nI_add, pk_mul, n_le, n_lt, n_eq, n_cl, n_in, n_sub, n_div, n_rem, n_ite, Nat.zero_add, r_51_0, r_51_1, r_51_2, r_51_4, r_51_6, r_51_13, r_51_14, r_51_18, r_51_19, r_51_20, r_51_21, k_51, k_52, k_53, k_54, k_55, k_56, k_57, k_58, k_59, k_60, k_61, k_62, n_52, n_53, n_54, n_55, n_56, n_57, n_58, n_59, n_60, n_61, n_62, show 69 + 8 * g + 5 = 74 + 8 * g by omega, r5, u2_nk]
    exact h _ hm3 (fun o ho => by funext j; rw [u2_nh ho, u2_nh ho, hq _ ho])
  refine i_M_takesNow ?_
  simp (disch := omega) only [b_M_takesNow_0, b_M_takesNow_6, b_M_takesNow_15, b_M_takesNow_19, b_M_takesNow_26, b_M_takesNow_30, b_M_takesNow_42, b_M_takesNow_56, b_M_takesNow_67, b_M_takesNow_92, b_M_takesNow_108, true_and, and_true, true_implies, false_implies, not_true_eq_false, not_false_eq_true, eq_self, or_true, true_or, false_or, or_false, false_and, and_false, Option.toList_some, Option.toList_none, List.cons_append, List.nil_append, n10, n01, e10, e01, e08, e18, e28, e38, e48, e58, e68, e78, lt_lit, nI_add, pk_mul, n_le, n_lt, n_eq, n_cl, n_in, n_sub, n_div, n_rem, n_ite, Nat.zero_add, r_51_0, r_51_1, r_51_2, r_51_4, r_51_6, r_51_13, r_51_14, r_51_18, r_51_19, r_51_20, r_51_21, k_51, k_52, k_53, k_54, k_55, k_56, k_57, k_58, k_59, k_60, k_61, k_62, n_52, n_53, n_54, n_55, n_56, n_57, n_58, n_59, n_60, n_61, n_62]
  refine c_gleanerIs hr o6 hg (by omega) ?_
  simp (disch := omega) only [b_M_takesNow_0, b_M_takesNow_6, b_M_takesNow_15, b_M_takesNow_19, b_M_takesNow_26, b_M_takesNow_30, b_M_takesNow_42, b_M_takesNow_56, b_M_takesNow_67, b_M_takesNow_92, b_M_takesNow_108, true_and, and_true, true_implies, false_implies, not_true_eq_false, not_false_eq_true, eq_self, or_true, true_or, false_or, or_false, false_and, and_false, Option.toList_some, Option.toList_none, List.cons_append, List.nil_append, n10, n01, e10, e01, e08, e18, e28, e38, e48, e58, e68, e78, lt_lit, nI_add, pk_mul, n_le, n_lt, n_eq, n_cl, n_in, n_sub, n_div, n_rem, n_ite, Nat.zero_add, r_51_0, r_51_1, r_51_2, r_51_4, r_51_6, r_51_13, r_51_14, r_51_18, r_51_19, r_51_20, r_51_21, k_51, k_52, k_53, k_54, k_55, k_56, k_57, k_58, k_59, k_60, k_61, k_62, n_52, n_53, n_54, n_55, n_56, n_57, n_58, n_59, n_60, n_61, n_62, Nat.add_zero]
  refine c_under hr ok' hg ?_
  simp (disch := omega) only [b_M_takesNow_0, b_M_takesNow_6, b_M_takesNow_15, b_M_takesNow_19, b_M_takesNow_26, b_M_takesNow_30, b_M_takesNow_42, b_M_takesNow_56, b_M_takesNow_67, b_M_takesNow_92, b_M_takesNow_108, true_and, and_true, true_implies, false_implies, not_true_eq_false, not_false_eq_true, eq_self, or_true, true_or, false_or, or_false, false_and, and_false, Option.toList_some, Option.toList_none, List.cons_append, List.nil_append, n10, n01, e10, e01, e08, e18, e28, e38, e48, e58, e68, e78, lt_lit, nI_add, pk_mul, n_le, n_lt, n_eq, n_cl, n_in, n_sub, n_div, n_rem, n_ite, Nat.zero_add, r_51_0, r_51_1, r_51_2, r_51_4, r_51_6, r_51_13, r_51_14, r_51_18, r_51_19, r_51_20, r_51_21, k_51, k_52, k_53, k_54, k_55, k_56, k_57, k_58, k_59, k_60, k_61, k_62, n_52, n_53, n_54, n_55, n_56, n_57, n_58, n_59, n_60, n_61, n_62, hr', Nat.add_zero]
  refine c_takesOf (by omega) (by omega) ?_
  simp (disch := omega) only [b_M_takesNow_0, b_M_takesNow_6, b_M_takesNow_15, b_M_takesNow_19, b_M_takesNow_26, b_M_takesNow_30, b_M_takesNow_42, b_M_takesNow_56, b_M_takesNow_67, b_M_takesNow_92, b_M_takesNow_108, true_and, and_true, true_implies, false_implies, not_true_eq_false, not_false_eq_true, eq_self, or_true, true_or, false_or, or_false, false_and, and_false, Option.toList_some, Option.toList_none, List.cons_append, List.nil_append, n10, n01, e10, e01, e08, e18, e28, e38, e48, e58, e68, e78, lt_lit, nI_add, pk_mul, n_le, n_lt, n_eq, n_cl, n_in, n_sub, n_div, n_rem, n_ite, Nat.zero_add, r_51_0, r_51_1, r_51_2, r_51_4, r_51_6, r_51_13, r_51_14, r_51_18, r_51_19, r_51_20, r_51_21, k_51, k_52, k_53, k_54, k_55, k_56, k_57, k_58, k_59, k_60, k_61, k_62, n_52, n_53, n_54, n_55, n_56, n_57, n_58, n_59, n_60, n_61, n_62, hr', Nat.add_zero]
  refine c_gleanerIs hr o6 hg (by omega) ?_
  simp (disch := omega) only [b_M_takesNow_0, b_M_takesNow_6, b_M_takesNow_15, b_M_takesNow_19, b_M_takesNow_26, b_M_takesNow_30, b_M_takesNow_42, b_M_takesNow_56, b_M_takesNow_67, b_M_takesNow_92, b_M_takesNow_108, true_and, and_true, true_implies, false_implies, not_true_eq_false, not_false_eq_true, eq_self, or_true, true_or, false_or, or_false, false_and, and_false, Option.toList_some, Option.toList_none, List.cons_append, List.nil_append, n10, n01, e10, e01, e08, e18, e28, e38, e48, e58, e68, e78, lt_lit, nI_add, pk_mul, n_le, n_lt, n_eq, n_cl, n_in, n_sub, n_div, n_rem, n_ite, Nat.zero_add, r_51_0, r_51_1, r_51_2, r_51_4, r_51_6, r_51_13, r_51_14, r_51_18, r_51_19, r_51_20, r_51_21, k_51, k_52, k_53, k_54, k_55, k_56, k_57, k_58, k_59, k_60, k_61, k_62, n_52, n_53, n_54, n_55, n_56, n_57, n_58, n_59, n_60, n_61, n_62, hr', Nat.add_zero]
  refine ⟨fun q => J _ _ _ (by unfold dr1 pullN; split <;> omega), fun q => ⟨by omega, fun q2 => J _ _ _ (by unfold dr1 pullN; split <;> omega), fun q2 => J _ _ _ (by unfold dr1 pullN; split <;> split <;> omega)⟩⟩
end M2
