/-! the reference takes the items in -/
def okI (x : It) (A : Nat → Nat) : Prop := x.1 = 10 ∧ x.2.1 < 64 ∨ x.1 = 11 ∨ x.1 = 12 ∧ x.2.1 ≤ 2 ∨ x.1 < 6 ∧ A 68 < 9
def okL : List It → (Nat → Nat) → Prop
  | [], _ => True
  | x :: l, A => okI x A ∧ okL l (apI x A)
theorem okL_app {a b : List It} : ∀ A, okL a A → okL b (apL a A) → okL (a ++ b) A := by
  induction a with
  | nil => intro A _ h; exact h
  | cons x a ih => intro A h1 h2; exact ⟨h1.1, ih _ h1.2 h2⟩
section P47
variable {N : Nat → Nat} {L p : Nat} {A : Nat → Nat} {B : Nat}
theorem rowL_okL {r : Nat} (hr : r ≤ 7) : ∀ n k p (A : Nat → Nat), k + n ≤ 8 → okL (rowL N L r n k p).2.2 A := by
  intro n
  induction n with
  | zero => intro k p A _; exact trivial
  | succ n ih =>
    intro k p A e
    rw [rowL]
    split
    · exact trivial
    · split
      · exact ⟨.inl ⟨rfl, (show 8 * r + k < 64 by omega)⟩, ih (k + 1) _ _ (by omega)⟩
      · exact trivial
theorem it_okL (h9 : A 68 ≤ 9) : okL (itT N L (A 68) p).2.2 A := by
  unfold itT
  split
  · unfold rowT
    split
    · rename_i q
      split
      · exact rowL_okL q.2 8 0 _ A (by omega)
      · exact trivial
    · exact trivial
  split
  · unfold rd1
    split
    · exact ⟨.inr (.inl rfl), trivial⟩
    · exact trivial
  split
  · unfold rd1
    split
    · exact ⟨.inr (.inr (.inl ⟨rfl, (show 0 ≤ 2 by omega)⟩)), trivial⟩
    · exact trivial
  split
  · unfold rd1
    split
    · exact ⟨.inr (.inr (.inl ⟨rfl, (show 1 ≤ 2 by omega)⟩)), trivial⟩
    · exact trivial
  split
  · unfold rd1
    split
    · exact ⟨.inr (.inr (.inl ⟨rfl, (show 2 ≤ 2 by omega)⟩)), trivial⟩
    · exact trivial
  have k6 := kdF_le N L p 6 0
  unfold glT
  split
  · exact trivial
  rename_i n6
  have k5 : kdF N L p 6 0 < 6 := by omega
  have a8 : A 68 < 9 := by omega
  unfold glE
  split
  · unfold glD
    split
    · unfold glC
      split
      · unfold glB
        split
        · unfold glA
          split
          · exact ⟨.inr (.inr (.inr ⟨k5, a8⟩)), trivial⟩
          · exact ⟨.inr (.inr (.inr ⟨k5, a8⟩)), trivial⟩
        · exact trivial
      · exact trivial
    · exact trivial
  · exact trivial
/-- all items: where they end, what they make of a row -/
theorem al_le : ∀ n (A : Nat → Nat) p, p ≤ L → (alT N L n A p).2.2.1 ≤ L := by
  intro n
  induction n with
  | zero => intro A p hp; exact hp
  | succ n ih =>
    intro A p hp
    have i2 := (it_le (N := N) (g := A 68) hp).2
    have l2 := (nx_le (N := N) i2).2
    rw [alT]
    split
    · split
      · exact ih _ _ l2
      · split
        · exact i2
        · exact i2
    · exact i2
theorem al_ok : ∀ n (A : Nat → Nat) p, p ≤ L → rowOk B A → (alT N L n A p).1 = true → (rowOk B (apL (alT N L n A p).2.2.2 A) ∧ apL (alT N L n A p).2.2.2 A 64 = A 64) ∧ okL (alT N L n A p).2.2.2 A ∧ 1 ≤ (alT N L n A p).2.1 ∧ (alT N L n A p).2.1 ≤ n := by
  intro n
  induction n with
  | zero => intro A p _ _ h; exact absurd h (by simp [alT])
  | succ n ih =>
    intro A p hp ok h
    have o6 := ok.2.2.2.2.2.1
    have i2 := (it_le (N := N) (g := A 68) hp).2
    have l2 := (nx_le (N := N) i2).2
    rw [alT] at h ⊢
    split at h
    · rename_i q
      rw [if_pos q]
      obtain ⟨k1, k2⟩ := it_ok (N := N) (L := L) (p := p) ok q
      have k3 := it_okL (N := N) (L := L) (p := p) o6
      split at h
      · rename_i q3
        rw [if_pos q3]
        obtain ⟨⟨m1, m2⟩, m3, m4, m5⟩ := ih _ _ l2 k1 h
        dsimp only
        rw [apL_app]
        exact ⟨⟨m1, m2.trans k2⟩, okL_app A k3 m3, by omega, by omega⟩
      · rename_i q3
        rw [if_neg q3]
        split at h
        · rename_i q4
          rw [if_pos q4]
          exact ⟨⟨k1, k2⟩, k3, Nat.le_refl _, by dsimp only; omega⟩
        · exact absurd h (by simp)
    · exact absurd h (by simp)
end P47
section P48
variable {u : UV} {hi hi0 : HI} {hl : HL} {K : Option Value → HI → HL → Prop} {N : Nat → Nat} {L p : Nat} {l : List It} {A : Nat → Nat} {t : Nat}
theorem c_isSo {j : Nat} {x : It} (hr : Mr hi A) (h9 : A 68 ≤ 9) (hx : at5 hi j x) (hj : j < 120) (w : okI x A) (h : ∀ hi2, Mr hi2 (apI x A) → (∀ o, o ≠ 52 → hi2 o = hi o) → K none hi2 hl) : Call u 198 [.ref 51, .int (nI (5 * j))] hi hl K := by
  obtain ⟨a, b, c, d, e⟩ := x
  obtain ⟨x1, x2, x3, x4, x5⟩ := hx
  dsimp only at x1 x2 x3 x4 x5
  unfold okI at w
  unfold apI at h
  dsimp only at w h
  refine i_M_isSo ?_
  rcases w with ⟨rfl, w⟩ | rfl | ⟨rfl, w⟩ | ⟨w, w9⟩
  · rw [if_pos rfl] at h
    simp (disch := omega) only [b_M_isSo_0, b_M_isSo_52, b_M_isSo_64, b_M_isSo_67, b_M_isSo_74, b_M_isSo_90, b_M_isSo_93, b_M_isSo_106, b_M_isSo_134, b_M_isSo_136, true_and, and_true, true_implies, false_implies, not_true_eq_false, not_false_eq_true, eq_self, or_true, true_or, false_or, or_false, false_and, and_false, Option.toList_some, Option.toList_none, List.cons_append, List.nil_append, n10, n01, e10, e01, e08, e18, e28, e38, e48, e58, e68, e78, exI, exL, ↓fd0, ↓fd1, ↓fd2, ↓fd3, ↓fd4, ↓fd5, ↓fd6, ↓m1e, lt_lit, nI_add, pk_mul, n_le, n_lt, n_eq, n_cl, n_in, n_sub, n_div, n_rem, n_ite, Nat.zero_add, r_0_0, r_0_1, r_0_2, r_0_4, r_0_5, r_0_6, r_0_7, r_37_0, r_39_0, r_40_0, k_0, k_1, k_13, k_25, k_37, k_38, k_39, k_40, k_41, k_42, n_38, n_41, n_42, r_51_0, r_51_1, r_51_2, r_51_4, r_51_6, r_51_13, r_51_14, r_51_18, r_51_19, r_51_20, r_51_21, k_51, k_52, k_53, k_54, k_55, k_56, k_57, k_58, k_59, k_60, k_61, k_62, n_52, n_53, n_54, n_55, n_56, n_57, n_58, n_59, n_60, n_61, n_62, ix1, ix2, ix3, ix4, ix5, ix6, ix7, Nat.add_zero, ofn, x88, F_k isF1, F_k isF13, F_k isF25, F_k1 isF1, F_k1 isF13, F_k1 isF25, F_l1 isF1, F_l1 isF13, F_l1 isF25, F_r0 isF1, F_r0 isF13, F_r0 isF25, F_r1 isF1, F_r1 isF13, F_r1 isF25, F_k2 isF1, F_k2 isF13, F_k2 isF25, F_l2 isF1, F_l2 isF13, F_l2 isF25, F_rg isF1, F_rg isF13, F_rg isF25, F_kg isF1, F_kg isF13, F_kg isF25, x1, x2, x3, Nat.reduceEqDiff, Nat.reduceLeDiff, Nat.reduceLT, Nat.reduceAdd, Nat.reduceMul, Nat.reduceSub]
    exact ⟨rfl, h _ (hr.up (by omega)) (fun o ho => by funext k; exact u2_nh ho)⟩
  · rw [if_neg (by omega), if_pos rfl] at h
    simp (disch := omega) only [b_M_isSo_0, b_M_isSo_52, b_M_isSo_64, b_M_isSo_67, b_M_isSo_74, b_M_isSo_90, b_M_isSo_93, b_M_isSo_106, b_M_isSo_134, b_M_isSo_136, true_and, and_true, true_implies, false_implies, not_true_eq_false, not_false_eq_true, eq_self, or_true, true_or, false_or, or_false, false_and, and_false, Option.toList_some, Option.toList_none, List.cons_append, List.nil_append, n10, n01, e10, e01, e08, e18, e28, e38, e48, e58, e68, e78, exI, exL, ↓fd0, ↓fd1, ↓fd2, ↓fd3, ↓fd4, ↓fd5, ↓fd6, ↓m1e, lt_lit, nI_add, pk_mul, n_le, n_lt, n_eq, n_cl, n_in, n_sub, n_div, n_rem, n_ite, Nat.zero_add, r_0_0, r_0_1, r_0_2, r_0_4, r_0_5, r_0_6, r_0_7, r_37_0, r_39_0, r_40_0, k_0, k_1, k_13, k_25, k_37, k_38, k_39, k_40, k_41, k_42, n_38, n_41, n_42, r_51_0, r_51_1, r_51_2, r_51_4, r_51_6, r_51_13, r_51_14, r_51_18, r_51_19, r_51_20, r_51_21, k_51, k_52, k_53, k_54, k_55, k_56, k_57, k_58, k_59, k_60, k_61, k_62, n_52, n_53, n_54, n_55, n_56, n_57, n_58, n_59, n_60, n_61, n_62, ix1, ix2, ix3, ix4, ix5, ix6, ix7, Nat.add_zero, ofn, x88, F_k isF1, F_k isF13, F_k isF25, F_k1 isF1, F_k1 isF13, F_k1 isF25, F_l1 isF1, F_l1 isF13, F_l1 isF25, F_r0 isF1, F_r0 isF13, F_r0 isF25, F_r1 isF1, F_r1 isF13, F_r1 isF25, F_k2 isF1, F_k2 isF13, F_k2 isF25, F_l2 isF1, F_l2 isF13, F_l2 isF25, F_rg isF1, F_rg isF13, F_rg isF25, F_kg isF1, F_kg isF13, F_kg isF25, x1, x2, x3, Nat.reduceEqDiff, Nat.reduceLeDiff, Nat.reduceLT, Nat.reduceAdd, Nat.reduceMul, Nat.reduceSub]
    have loop : ∀ n k hi', k + n = 64 → Mr hi' (fun i => if i < k then b else A i) → (∀ o, o ≠ 52 → hi' o = hi o) → Wp u 198 67 [.ref 51, .int (nI (5 * j)), .int (nI b), .int (nI c), .null, .int (nI k)] [] hi' hl K := by
      intro n
      induction n with
      | zero =>
        intro k hi' ek hm hf
        have : k = 64 := by omega
        subst this
        refine wv (by decide) ?_
        simp (disch := omega) only [b_M_isSo_0, b_M_isSo_52, b_M_isSo_64, b_M_isSo_67, b_M_isSo_74, b_M_isSo_90, b_M_isSo_93, b_M_isSo_106, b_M_isSo_134, b_M_isSo_136, true_and, and_true, true_implies, false_implies, not_true_eq_false, not_false_eq_true, eq_self, or_true, true_or, false_or, or_false, false_and, and_false, Option.toList_some, Option.toList_none, List.cons_append, List.nil_append, n10, n01, e10, e01, e08, e18, e28, e38, e48, e58, e68, e78, exI, exL, ↓fd0, ↓fd1, ↓fd2, ↓fd3, ↓fd4, ↓fd5, ↓fd6, ↓m1e, lt_lit, nI_add, pk_mul, n_le, n_lt, n_eq, n_cl, n_in, n_sub, n_div, n_rem, n_ite, Nat.zero_add, r_0_0, r_0_1, r_0_2, r_0_4, r_0_5, r_0_6, r_0_7, r_37_0, r_39_0, r_40_0, k_0, k_1, k_13, k_25, k_37, k_38, k_39, k_40, k_41, k_42, n_38, n_41, n_42, r_51_0, r_51_1, r_51_2, r_51_4, r_51_6, r_51_13, r_51_14, r_51_18, r_51_19, r_51_20, r_51_21, k_51, k_52, k_53, k_54, k_55, k_56, k_57, k_58, k_59, k_60, k_61, k_62, n_52, n_53, n_54, n_55, n_56, n_57, n_58, n_59, n_60, n_61, n_62, ix1, ix2, ix3, ix4, ix5, ix6, ix7, Nat.add_zero, ofn, x88, F_k isF1, F_k isF13, F_k isF25, F_k1 isF1, F_k1 isF13, F_k1 isF25, F_l1 isF1, F_l1 isF13, F_l1 isF25, F_r0 isF1, F_r0 isF13, F_r0 isF25, F_r1 isF1, F_r1 isF13, F_r1 isF25, F_k2 isF1, F_k2 isF13, F_k2 isF25, F_l2 isF1, F_l2 isF13, F_l2 isF25, F_rg isF1, F_rg isF13, F_rg isF25, F_kg isF1, F_kg isF13, F_kg isF25, Nat.reduceEqDiff, Nat.reduceLeDiff, Nat.reduceLT, Nat.reduceAdd, Nat.reduceMul, Nat.reduceSub]
        exact ⟨rfl, h _ hm hf⟩
      | succ n ih =>
        intro k hi' ek hm hf
        refine wv (by decide) ?_
        simp (disch := omega) only [b_M_isSo_0, b_M_isSo_52, b_M_isSo_64, b_M_isSo_67, b_M_isSo_74, b_M_isSo_90, b_M_isSo_93, b_M_isSo_106, b_M_isSo_134, b_M_isSo_136, true_and, and_true, true_implies, false_implies, not_true_eq_false, not_false_eq_true, eq_self, or_true, true_or, false_or, or_false, false_and, and_false, Option.toList_some, Option.toList_none, List.cons_append, List.nil_append, n10, n01, e10, e01, e08, e18, e28, e38, e48, e58, e68, e78, exI, exL, ↓fd0, ↓fd1, ↓fd2, ↓fd3, ↓fd4, ↓fd5, ↓fd6, ↓m1e, lt_lit, nI_add, pk_mul, n_le, n_lt, n_eq, n_cl, n_in, n_sub, n_div, n_rem, n_ite, Nat.zero_add, r_0_0, r_0_1, r_0_2, r_0_4, r_0_5, r_0_6, r_0_7, r_37_0, r_39_0, r_40_0, k_0, k_1, k_13, k_25, k_37, k_38, k_39, k_40, k_41, k_42, n_38, n_41, n_42, r_51_0, r_51_1, r_51_2, r_51_4, r_51_6, r_51_13, r_51_14, r_51_18, r_51_19, r_51_20, r_51_21, k_51, k_52, k_53, k_54, k_55, k_56, k_57, k_58, k_59, k_60, k_61, k_62, n_52, n_53, n_54, n_55, n_56, n_57, n_58, n_59, n_60, n_61, n_62, ix1, ix2, ix3, ix4, ix5, ix6, ix7, Nat.add_zero, ofn, x88, F_k isF1, F_k isF13, F_k isF25, F_k1 isF1, F_k1 isF13, F_k1 isF25, F_l1 isF1, F_l1 isF13, F_l1 isF25, F_r0 isF1, F_r0 isF13, F_r0 isF25, F_r1 isF1, F_r1 isF13, F_r1 isF25, F_k2 isF1, F_k2 isF13, F_k2 isF25, F_l2 isF1, F_l2 isF13, F_l2 isF25, F_rg isF1, F_rg isF13, F_rg isF25, F_kg isF1, F_kg isF13, F_kg isF25]
        refine ⟨fun q => absurd q (by omega), fun _ => ?_⟩
        refine ih (k + 1) _ (by omega) ?_ (fun o ho => by rw [← hf o ho]; funext i; exact u2_nh ho)
        have := hm.up (k := k) (v := b) (by omega)
        intro i hi2
        have e8 : ¬ (68 < k + 1) := by omega
        have e9 : ¬ (68 < k) := by omega
        dsimp only at hi2 ⊢
        rw [if_neg e8] at hi2
        have h3 := this i (by unfold up; dsimp only; rw [if_neg (by omega), if_neg e9]; exact hi2)
        rw [h3]
        unfold up
        dsimp only
        by_cases z : i = k
        · rw [if_pos z, if_pos (by omega)]
        · rw [if_neg z]
          by_cases z2 : i < k
          · rw [if_pos z2, if_pos (by omega)]
          · rw [if_neg z2, if_neg (by omega)]
    refine loop 64 0 hi (by omega) (fun i hi2 => ?_) (fun _ _ => rfl)
    dsimp only at hi2 ⊢
    rw [if_neg (Nat.not_lt_zero _)] at hi2 ⊢
    exact hr i hi2
  · rw [if_neg (by omega), if_neg (by omega), if_pos rfl] at h
    simp (disch := omega) only [b_M_isSo_0, b_M_isSo_52, b_M_isSo_64, b_M_isSo_67, b_M_isSo_74, b_M_isSo_90, b_M_isSo_93, b_M_isSo_106, b_M_isSo_134, b_M_isSo_136, true_and, and_true, true_implies, false_implies, not_true_eq_false, not_false_eq_true, eq_self, or_true, true_or, false_or, or_false, false_and, and_false, Option.toList_some, Option.toList_none, List.cons_append, List.nil_append, n10, n01, e10, e01, e08, e18, e28, e38, e48, e58, e68, e78, exI, exL, ↓fd0, ↓fd1, ↓fd2, ↓fd3, ↓fd4, ↓fd5, ↓fd6, ↓m1e, lt_lit, nI_add, pk_mul, n_le, n_lt, n_eq, n_cl, n_in, n_sub, n_div, n_rem, n_ite, Nat.zero_add, r_0_0, r_0_1, r_0_2, r_0_4, r_0_5, r_0_6, r_0_7, r_37_0, r_39_0, r_40_0, k_0, k_1, k_13, k_25, k_37, k_38, k_39, k_40, k_41, k_42, n_38, n_41, n_42, r_51_0, r_51_1, r_51_2, r_51_4, r_51_6, r_51_13, r_51_14, r_51_18, r_51_19, r_51_20, r_51_21, k_51, k_52, k_53, k_54, k_55, k_56, k_57, k_58, k_59, k_60, k_61, k_62, n_52, n_53, n_54, n_55, n_56, n_57, n_58, n_59, n_60, n_61, n_62, ix1, ix2, ix3, ix4, ix5, ix6, ix7, Nat.add_zero, ofn, x88, F_k isF1, F_k isF13, F_k isF25, F_k1 isF1, F_k1 isF13, F_k1 isF25, F_l1 isF1, F_l1 isF13, F_l1 isF25, F_r0 isF1, F_r0 isF13, F_r0 isF25, F_r1 isF1, F_r1 isF13, F_r1 isF25, F_k2 isF1, F_k2 isF13, F_k2 isF25, F_l2 isF1, F_l2 isF13, F_l2 isF25, F_rg isF1, F_rg isF13, F_rg isF25, F_kg isF1, F_kg isF13, F_kg isF25, x1, x2, x3, Nat.reduceEqDiff, Nat.reduceLeDiff, Nat.reduceLT, Nat.reduceAdd, Nat.reduceMul, Nat.reduceSub]
    exact ⟨rfl, h _ (hr.up (by omega)) (fun o ho => by funext k; exact u2_nh ho)⟩
  · rw [if_neg (by omega), if_neg (by omega), if_neg (by omega)] at h
    have n10 : (nI a = nI 10) = False := by rw [n_eq (by omega) (by omega)]; exact eq_false (by omega)
    have n11 : (nI a = nI 11) = False := by rw [n_eq (by omega) (by omega)]; exact eq_false (by omega)
    have n12 : (nI a = nI 12) = False := by rw [n_eq (by omega) (by omega)]; exact eq_false (by omega)
    simp (disch := omega) only [b_M_isSo_0, b_M_isSo_52, b_M_isSo_64, b_M_isSo_67, b_M_isSo_74, b_M_isSo_90, b_M_isSo_93, b_M_isSo_106, b_M_isSo_134, b_M_isSo_136, true_and, and_true, true_implies, false_implies, not_true_eq_false, not_false_eq_true, eq_self, or_true, true_or, false_or, or_false, false_and, and_false, Option.toList_some, Option.toList_none, List.cons_append, List.nil_append, n10, n01, e10, e01, e08, e18, e28, e38, e48, e58, e68, e78, exI, exL, ↓fd0, ↓fd1, ↓fd2, ↓fd3, ↓fd4, ↓fd5, ↓fd6, ↓m1e, lt_lit, nI_add, pk_mul, n_le, n_lt, n_eq, n_cl, n_in, n_sub, n_div, n_rem, n_ite, Nat.zero_add, r_0_0, r_0_1, r_0_2, r_0_4, r_0_5, r_0_6, r_0_7, r_37_0, r_39_0, r_40_0, k_0, k_1, k_13, k_25, k_37, k_38, k_39, k_40, k_41, k_42, n_38, n_41, n_42, r_51_0, r_51_1, r_51_2, r_51_4, r_51_6, r_51_13, r_51_14, r_51_18, r_51_19, r_51_20, r_51_21, k_51, k_52, k_53, k_54, k_55, k_56, k_57, k_58, k_59, k_60, k_61, k_62, n_52, n_53, n_54, n_55, n_56, n_57, n_58, n_59, n_60, n_61, n_62, ix1, ix2, ix3, ix4, ix5, ix6, ix7, Nat.add_zero, ofn, x88, F_k isF1, F_k isF13, F_k isF25, F_k1 isF1, F_k1 isF13, F_k1 isF25, F_l1 isF1, F_l1 isF13, F_l1 isF25, F_r0 isF1, F_r0 isF13, F_r0 isF25, F_r1 isF1, F_r1 isF13, F_r1 isF25, F_k2 isF1, F_k2 isF13, F_k2 isF25, F_l2 isF1, F_l2 isF13, F_l2 isF25, F_rg isF1, F_rg isF13, F_rg isF25, F_kg isF1, F_kg isF13, F_kg isF25, x1, x2, x3, x4, x5, n10, n11, n12, Nat.reduceEqDiff, Nat.reduceLeDiff, Nat.reduceLT, Nat.reduceAdd, Nat.reduceMul, Nat.reduceSub]
    refine c_came hr w9 (fun hi2 a2 b2 => ?_)
    simp (disch := omega) only [b_M_isSo_0, b_M_isSo_52, b_M_isSo_64, b_M_isSo_67, b_M_isSo_74, b_M_isSo_90, b_M_isSo_93, b_M_isSo_106, b_M_isSo_134, b_M_isSo_136, true_and, and_true, true_implies, false_implies, not_true_eq_false, not_false_eq_true, eq_self, or_true, true_or, false_or, or_false, false_and, and_false, Option.toList_some, Option.toList_none, List.cons_append, List.nil_append, n10, n01, e10, e01, e08, e18, e28, e38, e48, e58, e68, e78, exI, exL, ↓fd0, ↓fd1, ↓fd2, ↓fd3, ↓fd4, ↓fd5, ↓fd6, ↓m1e, lt_lit, nI_add, pk_mul, n_le, n_lt, n_eq, n_cl, n_in, n_sub, n_div, n_rem, n_ite, Nat.zero_add, r_0_0, r_0_1, r_0_2, r_0_4, r_0_5, r_0_6, r_0_7, r_37_0, r_39_0, r_40_0, k_0, k_1, k_13, k_25, k_37, k_38, k_39, k_40, k_41, k_42, n_38, n_41, n_42, r_51_0, r_51_1, r_51_2, r_51_4, r_51_6, r_51_13, r_51_14, r_51_18, r_51_19, r_51_20, r_51_21, k_51, k_52, k_53, k_54, k_55, k_56, k_57, k_58, k_59, k_60, k_61, k_62, n_52, n_53, n_54, n_55, n_56, n_57, n_58, n_59, n_60, n_61, n_62, ix1, ix2, ix3, ix4, ix5, ix6, ix7, Nat.add_zero, ofn, x88, F_k isF1, F_k isF13, F_k isF25, F_k1 isF1, F_k1 isF13, F_k1 isF25, F_l1 isF1, F_l1 isF13, F_l1 isF25, F_r0 isF1, F_r0 isF13, F_r0 isF25, F_r1 isF1, F_r1 isF13, F_r1 isF25, F_k2 isF1, F_k2 isF13, F_k2 isF25, F_l2 isF1, F_l2 isF13, F_l2 isF25, F_rg isF1, F_rg isF13, F_rg isF25, F_kg isF1, F_kg isF13, F_kg isF25]
    exact ⟨rfl, h hi2 a2 b2⟩
theorem c_mtext_so : ∀ m k (A : Nat → Nat) (hi : HI), k + m = l.length → l.length ≤ 120 → ItM hi l → hi 51 16 = nI t → Mr hi A → A 68 ≤ 9 → okL (l.drop k) A → (∀ o, o ≠ 52 → hi o = hi0 o) → (∀ hi2, Mr hi2 (apL (l.drop k) A) → (∀ o, o ≠ 52 → hi2 o = hi0 o) → K (some (.int (nI t))) hi2 hl) → Wp u 199 117 [.ref 51, .int (nI k)] [] hi hl K := by
  intro m
  induction m with
  | zero =>
    intro k A hi ek hl1 hI e16 hr h9 w fr h
    have e15 := hI.1
    rw [List.drop_eq_nil_of_le (by omega)] at h
    refine wv (by decide) ?_
    simp (disch := omega) only [b_M_text_0, b_M_text_35, b_M_text_39, b_M_text_46, b_M_text_54, b_M_text_68, b_M_text_73, b_M_text_77, b_M_text_80, b_M_text_88, b_M_text_92, b_M_text_93, b_M_text_96, b_M_text_108, b_M_text_115, b_M_text_117, b_M_text_125, b_M_text_132, b_M_text_138, true_and, and_true, true_implies, false_implies, not_true_eq_false, not_false_eq_true, eq_self, or_true, true_or, false_or, or_false, false_and, and_false, Option.toList_some, Option.toList_none, List.cons_append, List.nil_append, n10, n01, e10, e01, e08, e18, e28, e38, e48, e58, e68, e78, exI, exL, ↓fd0, ↓fd1, ↓fd2, ↓fd3, ↓fd4, ↓fd5, ↓fd6, ↓m1e, lt_lit, nI_add, pk_mul, n_le, n_lt, n_eq, n_cl, n_in, n_sub, n_div, n_rem, n_ite, Nat.zero_add, r_0_0, r_0_1, r_0_2, r_0_4, r_0_5, r_0_6, r_0_7, r_37_0, r_39_0, r_40_0, k_0, k_1, k_13, k_25, k_37, k_38, k_39, k_40, k_41, k_42, n_38, n_41, n_42, r_51_0, r_51_1, r_51_2, r_51_4, r_51_6, r_51_13, r_51_14, r_51_18, r_51_19, r_51_20, r_51_21, k_51, k_52, k_53, k_54, k_55, k_56, k_57, k_58, k_59, k_60, k_61, k_62, n_52, n_53, n_54, n_55, n_56, n_57, n_58, n_59, n_60, n_61, n_62, ix1, ix2, ix3, ix4, ix5, ix6, ix7, Nat.add_zero, ofn, x88, F_k isF1, F_k isF13, F_k isF25, F_k1 isF1, F_k1 isF13, F_k1 isF25, F_l1 isF1, F_l1 isF13, F_l1 isF25, F_r0 isF1, F_r0 isF13, F_r0 isF25, F_r1 isF1, F_r1 isF13, F_r1 isF25, F_k2 isF1, F_k2 isF13, F_k2 isF25, F_l2 isF1, F_l2 isF13, F_l2 isF25, F_rg isF1, F_rg isF13, F_rg isF25, F_kg isF1, F_kg isF13, F_kg isF25, e15, e16]
    exact ⟨fun _ => h hi hr fr, fun q => absurd (by omega) q⟩
  | succ m ih =>
    intro k A hi ek hl1 hI e16 hr h9 w fr h
    have e15 := hI.1
    have hk : k < l.length := by omega
    rw [List.drop_eq_getElem_cons hk] at w h
    refine wv (by decide) ?_
    simp (disch := omega) only [b_M_text_0, b_M_text_35, b_M_text_39, b_M_text_46, b_M_text_54, b_M_text_68, b_M_text_73, b_M_text_77, b_M_text_80, b_M_text_88, b_M_text_92, b_M_text_93, b_M_text_96, b_M_text_108, b_M_text_115, b_M_text_117, b_M_text_125, b_M_text_132, b_M_text_138, true_and, and_true, true_implies, false_implies, not_true_eq_false, not_false_eq_true, eq_self, or_true, true_or, false_or, or_false, false_and, and_false, Option.toList_some, Option.toList_none, List.cons_append, List.nil_append, n10, n01, e10, e01, e08, e18, e28, e38, e48, e58, e68, e78, exI, exL, ↓fd0, ↓fd1, ↓fd2, ↓fd3, ↓fd4, ↓fd5, ↓fd6, ↓m1e, lt_lit, nI_add, pk_mul, n_le, n_lt, n_eq, n_cl, n_in, n_sub, n_div, n_rem, n_ite, Nat.zero_add, r_0_0, r_0_1, r_0_2, r_0_4, r_0_5, r_0_6, r_0_7, r_37_0, r_39_0, r_40_0, k_0, k_1, k_13, k_25, k_37, k_38, k_39, k_40, k_41, k_42, n_38, n_41, n_42, r_51_0, r_51_1, r_51_2, r_51_4, r_51_6, r_51_13, r_51_14, r_51_18, r_51_19, r_51_20, r_51_21, k_51, k_52, k_53, k_54, k_55, k_56, k_57, k_58, k_59, k_60, k_61, k_62, n_52, n_53, n_54, n_55, n_56, n_57, n_58, n_59, n_60, n_61, n_62, ix1, ix2, ix3, ix4, ix5, ix6, ix7, Nat.add_zero, ofn, x88, F_k isF1, F_k isF13, F_k isF25, F_k1 isF1, F_k1 isF13, F_k1 isF25, F_l1 isF1, F_l1 isF13, F_l1 isF25, F_r0 isF1, F_r0 isF13, F_r0 isF25, F_r1 isF1, F_r1 isF13, F_r1 isF25, F_k2 isF1, F_k2 isF13, F_k2 isF25, F_l2 isF1, F_l2 isF13, F_l2 isF25, F_rg isF1, F_rg isF13, F_rg isF25, F_kg isF1, F_kg isF13, F_kg isF25, e15, e16]
    refine ⟨fun q => absurd q (by omega), fun _ => ?_⟩
    have h92 : apI l[k] A 68 ≤ 9 := by
      have w1 := w.1
      unfold okI at w1
      unfold apI
      rcases w1 with ⟨y, z⟩ | y | ⟨y, z⟩ | ⟨y, z⟩
      · rw [if_pos y, up_ne _ (by omega)]; exact h9
      · rw [if_neg (by omega), if_pos y]; exact h9
      · rw [if_neg (by omega), if_neg (by omega), if_pos y, up_ne _ (by omega)]; exact h9
      · rw [if_neg (by omega), if_neg (by omega), if_neg (by omega)]; simp [addN]; omega
    refine c_isSo (x := l[k]) hr h9 (hI.2 k _ (List.getElem?_eq_getElem hk)) (by omega) w.1 (fun hi2 a2 b2 => ?_)
    simp (disch := omega) only [b_M_text_0, b_M_text_35, b_M_text_39, b_M_text_46, b_M_text_54, b_M_text_68, b_M_text_73, b_M_text_77, b_M_text_80, b_M_text_88, b_M_text_92, b_M_text_93, b_M_text_96, b_M_text_108, b_M_text_115, b_M_text_117, b_M_text_125, b_M_text_132, b_M_text_138, true_and, and_true, true_implies, false_implies, not_true_eq_false, not_false_eq_true, eq_self, or_true, true_or, false_or, or_false, false_and, and_false, Option.toList_some, Option.toList_none, List.cons_append, List.nil_append, n10, n01, e10, e01, e08, e18, e28, e38, e48, e58, e68, e78, exI, exL, ↓fd0, ↓fd1, ↓fd2, ↓fd3, ↓fd4, ↓fd5, ↓fd6, ↓m1e, lt_lit, nI_add, pk_mul, n_le, n_lt, n_eq, n_cl, n_in, n_sub, n_div, n_rem, n_ite, Nat.zero_add, r_0_0, r_0_1, r_0_2, r_0_4, r_0_5, r_0_6, r_0_7, r_37_0, r_39_0, r_40_0, k_0, k_1, k_13, k_25, k_37, k_38, k_39, k_40, k_41, k_42, n_38, n_41, n_42, r_51_0, r_51_1, r_51_2, r_51_4, r_51_6, r_51_13, r_51_14, r_51_18, r_51_19, r_51_20, r_51_21, k_51, k_52, k_53, k_54, k_55, k_56, k_57, k_58, k_59, k_60, k_61, k_62, n_52, n_53, n_54, n_55, n_56, n_57, n_58, n_59, n_60, n_61, n_62, ix1, ix2, ix3, ix4, ix5, ix6, ix7, Nat.add_zero, ofn, x88, F_k isF1, F_k isF13, F_k isF25, F_k1 isF1, F_k1 isF13, F_k1 isF25, F_l1 isF1, F_l1 isF13, F_l1 isF25, F_r0 isF1, F_r0 isF13, F_r0 isF25, F_r1 isF1, F_r1 isF13, F_r1 isF25, F_k2 isF1, F_k2 isF13, F_k2 isF25, F_l2 isF1, F_l2 isF13, F_l2 isF25, F_rg isF1, F_rg isF13, F_rg isF25, F_kg isF1, F_kg isF13, F_kg isF25]
    exact ih (k + 1) _ hi2 (by omega) hl1 (hI.keep (by rw [b2 51 (by omega)]) (b2 58 (by omega))) (by rw [b2 51 (by omega)]; exact e16) a2 h92 w.2 (fun o ho => (b2 o ho).trans (fr o ho)) h
end P48
