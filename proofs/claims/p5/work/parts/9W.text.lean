theorem m1_le0 : ∀ b, b < 121 → m1 - nI b ≤ nI 0 := by decide +kernel
section P50
variable {u : UV} {hi : HI} {hl : HL} {K : Option Value → HI → HL → Prop} {A : Nat → Nat} {B B' : Nat} {R : Nat → Int32} {X : XT}
/-- row and tape have changed -/
theorem Inv.tx {A' : Nat → Nat} {hi2 : HI} (I : Inv B A R X hi hl) (hB : B ≤ B') (ok : rowOk B' A') (h64 : A' 64 ≤ 9999) (c1 : Fp hi2 1 A') (mr : Mr hi2 A') (f : ∀ o, (o = 0 ∨ (25 ≤ o ∧ o < 37) ∨ (41 ≤ o ∧ o < 51) ∨ o = 53 ∨ o = 55 ∨ o = 59 ∨ o = 60) → hi2 o = hi o) (e3 : hi2 51 3 = hi 51 3) (e7 : hi2 51 7 = nI 0) (e37 : hi2 37 1 = nI 0) : InvE B' hi2 hl := by
  obtain ⟨⟨o1, o2, o3⟩, ⟨p1, p2, ⟨⟨a1, a2⟩, ⟨a3, a4⟩, a5⟩⟩, q1, q2, ⟨⟨b1, b2⟩, ⟨b3, b4⟩, b5⟩⟩ := I
  refine ⟨A', R, (X.1, (0, X.2.1.2), X.2.2), ⟨ok, h64, (o3.mono hB).1, ⟨Nat.zero_le _, fun k hk => absurd hk (Nat.not_lt_zero k)⟩, o3.2.2⟩, ⟨c1, fun i hi => by rw [f 42 (by omega)]; exact p2 i hi, ⟨⟨by rw [f 0 (by omega)]; exact a1, fun z => (a2 z).keep (o3.1 z).1.2.2.2.2.2.1 (fun o ha hb => f o (by omega))⟩, ⟨e37, fun k hk => absurd hk (Nat.not_lt_zero k)⟩, fun s hs => ?_⟩⟩, mr, q2.keep (f 55 (by omega)), ⟨⟨by rw [e3]; exact b1, fun z k hk => by rw [f 53 (by omega)]; exact b2 z k hk⟩, ⟨e7, fun k hk => absurd hk (Nat.not_lt_zero k)⟩, fun s hs => ?_⟩⟩
  · rw [f _ (by omega)]; exact a5 s hs
  · rw [f 59 (by omega), f 60 (by omega)]; exact b5 s hs
theorem pr_text (I : Inv B A R X hi hl) (hB : B ≤ B') : Pr u B' 94 199 [] hi hl := by
  obtain ⟨⟨ok, h64, xk⟩, ⟨hp, hR, hX⟩, hr, hm, hx⟩ := id I
  have o1 := ok.1
  have o6 := ok.2.2.2.2.2.1
  have hr' : ∀ k, k < 69 + 8 * A 68 → hi 52 k = nI (A k) := hr
  have eB := I.same hB
  unfold Pr
  have hT : Tp hi X.2.1.2 X.2.1.1 := ⟨xk.2.1.1, xk.2.1.2, hX.2.1.1, hX.2.1.2⟩
  have hq : Tq hi X.2.1.2 X.2.1.1 := ⟨xk.2.1.1, xk.2.1.2, hx.2.1.1, hx.2.1.2⟩
  generalize X.2.1.2 = N at hT hq
  generalize X.2.1.1 = L at hT hq
  refine i_E_text ?_
  simp (disch := omega) only [b_E_text_0, b_E_text_11, b_E_text_22, b_E_text_27, b_E_text_38, true_and, and_true, true_implies, false_implies, not_true_eq_false, not_false_eq_true, eq_self, or_true, true_or, false_or, or_false, false_and, and_false, Option.toList_some, Option.toList_none, List.cons_append, List.nil_append, n10, n01, e10, e01, e08, e18, e28, e38, e48, e58, e68, e78, exI, exL, ↓fd0, ↓fd1, ↓fd2, ↓fd3, ↓fd4, ↓fd5, ↓fd6, ↓m1e, lt_lit, nI_add, pk_mul, n_le, n_lt, n_eq, n_cl, n_in, n_sub, n_div, n_rem, n_ite, Nat.zero_add, r_0_0, r_0_1, r_0_2, r_0_4, r_0_5, r_0_6, r_0_7, r_37_0, r_39_0, r_40_0, k_0, k_1, k_13, k_25, k_37, k_38, k_39, k_40, k_41, k_42, n_38, n_41, n_42, r_51_0, r_51_1, r_51_2, r_51_4, r_51_6, r_51_13, r_51_14, r_51_18, r_51_19, r_51_20, r_51_21, k_51, k_52, k_53, k_54, k_55, k_56, k_57, k_58, k_59, k_60, k_61, k_62, n_52, n_53, n_54, n_55, n_56, n_57, n_58, n_59, n_60, n_61, n_62, ix1, ix2, ix3, ix4, ix5, ix6, ix7, Nat.add_zero, ofn, x88, F_k isF1, F_k isF13, F_k isF25, F_k1 isF1, F_k1 isF13, F_k1 isF25, F_l1 isF1, F_l1 isF13, F_l1 isF25, F_r0 isF1, F_r0 isF13, F_r0 isF25, F_r1 isF1, F_r1 isF13, F_r1 isF25, F_k2 isF1, F_k2 isF13, F_k2 isF25, F_l2 isF1, F_l2 isF13, F_l2 isF25, F_rg isF1, F_rg isF13, F_rg isF25, F_kg isF1, F_kg isF13, F_kg isF25]
  refine c_becomeAs isF13 isF1 (by omega) hp ok (fun hi1 a1 b1 => ?_)
  have hT1 : Tp hi1 N L := ⟨hT.1, hT.2.1, by rw [b1 37 (by omega)]; exact hT.2.2.1, fun k hk => by rw [b1 38 (by omega)]; exact hT.2.2.2 k hk⟩
  simp (disch := omega) only [b_E_text_0, b_E_text_11, b_E_text_22, b_E_text_27, b_E_text_38, true_and, and_true, true_implies, false_implies, not_true_eq_false, not_false_eq_true, eq_self, or_true, true_or, false_or, or_false, false_and, and_false, Option.toList_some, Option.toList_none, List.cons_append, List.nil_append, n10, n01, e10, e01, e08, e18, e28, e38, e48, e58, e68, e78, exI, exL, ↓fd0, ↓fd1, ↓fd2, ↓fd3, ↓fd4, ↓fd5, ↓fd6, ↓m1e, lt_lit, nI_add, pk_mul, n_le, n_lt, n_eq, n_cl, n_in, n_sub, n_div, n_rem, n_ite, Nat.zero_add, r_0_0, r_0_1, r_0_2, r_0_4, r_0_5, r_0_6, r_0_7, r_37_0, r_39_0, r_40_0, k_0, k_1, k_13, k_25, k_37, k_38, k_39, k_40, k_41, k_42, n_38, n_41, n_42, r_51_0, r_51_1, r_51_2, r_51_4, r_51_6, r_51_13, r_51_14, r_51_18, r_51_19, r_51_20, r_51_21, k_51, k_52, k_53, k_54, k_55, k_56, k_57, k_58, k_59, k_60, k_61, k_62, n_52, n_53, n_54, n_55, n_56, n_57, n_58, n_59, n_60, n_61, n_62, ix1, ix2, ix3, ix4, ix5, ix6, ix7, Nat.add_zero, ofn, x88, F_k isF1, F_k isF13, F_k isF25, F_k1 isF1, F_k1 isF13, F_k1 isF25, F_l1 isF1, F_l1 isF13, F_l1 isF25, F_r0 isF1, F_r0 isF13, F_r0 isF25, F_r1 isF1, F_r1 isF13, F_r1 isF25, F_k2 isF1, F_k2 isF13, F_k2 isF25, F_l2 isF1, F_l2 isF13, F_l2 isF25, F_rg isF1, F_rg isF13, F_rg isF25, F_kg isF1, F_kg isF13, F_kg isF25]
  refine c_readAll hT1 a1 ok (fun z hi2 a2 b2 => ?_) (fun z hi2 b2 => ?_)
  · obtain ⟨⟨k1, k2⟩, k3, k4, k5⟩ := al_ok (N := N) (L := L) (L + 1) A 0 (Nat.zero_le _) ok z
    have k9 := k1.2.2.2.2.2.1
    have hL := hT.1
    simp (disch := omega) only [b_E_text_0, b_E_text_11, b_E_text_22, b_E_text_27, b_E_text_38, true_and, and_true, true_implies, false_implies, not_true_eq_false, not_false_eq_true, eq_self, or_true, true_or, false_or, or_false, false_and, and_false, Option.toList_some, Option.toList_none, List.cons_append, List.nil_append, n10, n01, e10, e01, e08, e18, e28, e38, e48, e58, e68, e78, exI, exL, ↓fd0, ↓fd1, ↓fd2, ↓fd3, ↓fd4, ↓fd5, ↓fd6, ↓m1e, lt_lit, nI_add, pk_mul, n_le, n_lt, n_eq, n_cl, n_in, n_sub, n_div, n_rem, n_ite, Nat.zero_add, r_0_0, r_0_1, r_0_2, r_0_4, r_0_5, r_0_6, r_0_7, r_37_0, r_39_0, r_40_0, k_0, k_1, k_13, k_25, k_37, k_38, k_39, k_40, k_41, k_42, n_38, n_41, n_42, r_51_0, r_51_1, r_51_2, r_51_4, r_51_6, r_51_13, r_51_14, r_51_18, r_51_19, r_51_20, r_51_21, k_51, k_52, k_53, k_54, k_55, k_56, k_57, k_58, k_59, k_60, k_61, k_62, n_52, n_53, n_54, n_55, n_56, n_57, n_58, n_59, n_60, n_61, n_62, ix1, ix2, ix3, ix4, ix5, ix6, ix7, Nat.add_zero, ofn, x88, F_k isF1, F_k isF13, F_k isF25, F_k1 isF1, F_k1 isF13, F_k1 isF25, F_l1 isF1, F_l1 isF13, F_l1 isF25, F_r0 isF1, F_r0 isF13, F_r0 isF25, F_r1 isF1, F_r1 isF13, F_r1 isF25, F_k2 isF1, F_k2 isF13, F_k2 isF25, F_l2 isF1, F_l2 isF13, F_l2 isF25, F_rg isF1, F_rg isF13, F_rg isF25, F_kg isF1, F_kg isF13, F_kg isF25, Nat.reduceEqDiff, Nat.reduceLeDiff, Nat.reduceLT, Nat.reduceAdd, Nat.reduceMul, Nat.reduceSub]
    refine ⟨fun q => absurd q (by omega), fun _ => ?_⟩
    refine c_becomeAs isF1 isF13 (by omega) a2 k1 (fun hi3 a3 b3 => ?_)
    have f3 : ∀ o, (o < 1 ∨ 25 ≤ o) → o ≠ 40 → hi3 o = hi o := fun o h1 h2 => (b3 o (by omega)).trans ((b2 o (by omega) h2).trans (b1 o (by omega)))
    simp (disch := omega) only [b_E_text_0, b_E_text_11, b_E_text_22, b_E_text_27, b_E_text_38, true_and, and_true, true_implies, false_implies, not_true_eq_false, not_false_eq_true, eq_self, or_true, true_or, false_or, or_false, false_and, and_false, Option.toList_some, Option.toList_none, List.cons_append, List.nil_append, n10, n01, e10, e01, e08, e18, e28, e38, e48, e58, e68, e78, exI, exL, ↓fd0, ↓fd1, ↓fd2, ↓fd3, ↓fd4, ↓fd5, ↓fd6, ↓m1e, lt_lit, nI_add, pk_mul, n_le, n_lt, n_eq, n_cl, n_in, n_sub, n_div, n_rem, n_ite, Nat.zero_add, r_0_0, r_0_1, r_0_2, r_0_4, r_0_5, r_0_6, r_0_7, r_37_0, r_39_0, r_40_0, k_0, k_1, k_13, k_25, k_37, k_38, k_39, k_40, k_41, k_42, n_38, n_41, n_42, r_51_0, r_51_1, r_51_2, r_51_4, r_51_6, r_51_13, r_51_14, r_51_18, r_51_19, r_51_20, r_51_21, k_51, k_52, k_53, k_54, k_55, k_56, k_57, k_58, k_59, k_60, k_61, k_62, n_52, n_53, n_54, n_55, n_56, n_57, n_58, n_59, n_60, n_61, n_62, ix1, ix2, ix3, ix4, ix5, ix6, ix7, Nat.add_zero, ofn, x88, F_k isF1, F_k isF13, F_k isF25, F_k1 isF1, F_k1 isF13, F_k1 isF25, F_l1 isF1, F_l1 isF13, F_l1 isF25, F_r0 isF1, F_r0 isF13, F_r0 isF25, F_r1 isF1, F_r1 isF13, F_r1 isF25, F_k2 isF1, F_k2 isF13, F_k2 isF25, F_l2 isF1, F_l2 isF13, F_l2 isF25, F_rg isF1, F_rg isF13, F_rg isF25, F_kg isF1, F_kg isF13, F_kg isF25]
    have f4 : ∀ o, (o < 1 ∨ 25 ≤ o) → o ≠ 40 → o ≠ 37 → up2 hi3 37 1 (nI 0) o = hi o := fun o h1 h2 h3 => by rw [← f3 o h1 h2]; funext j; exact u2_nh h3
    refine c_mtext (N := N) (L := L) (B := B) ⟨hT.1, hT.2.1, by rw [f4 51 (by omega) (by omega) (by omega)]; exact hq.2.2.1, fun k hk => by rw [f4 56 (by omega) (by omega) (by omega)]; exact hq.2.2.2 k hk⟩ (hr.keep (f4 52 (by omega) (by omega) (by omega))) ok (fun _ hi5 y1 y2 y3 y4 => ⟨rfl, ?_⟩) (fun z2 => by rw [z] at z2; exact absurd z2 (by decide))
    refine I.tx hB (k1.mono hB) (by omega) (a3.keep k9 (fun o h1 h2 => ?_)) y1 (fun o ho => ?_) ?_ y4 ?_
    · rw [y2 o (by omega) (by omega) (by omega)]
      funext j; exact u2_nh (by omega)
    · rw [y2 o (by omega) (by omega) (by omega)]
      exact f4 o (by omega) (by omega) (by omega)
    · rw [y3, f4 51 (by omega) (by omega) (by omega)]
    · rw [y2 37 (by omega) (by omega) (by omega), u2_eq]
  · have hL := hT.1
    have w1 := al_le (N := N) (L := L) (L + 1) A 0 (Nat.zero_le _)
    have w2 := tk_ok (N := N) w1
    have w3 := m1_le0 (tkB N L (alT N L (L + 1) A 0).2.2.1) (by omega)
    have w4 : (m1 - nI (tkB N L (alT N L (L + 1) A 0).2.2.1) ≤ nI 0) = True := eq_true w3
    have f3 : ∀ o, (o < 13 ∨ 25 ≤ o) → o ≠ 40 → hi2 o = hi o := fun o h1 h2 => (b2 o (by omega) h2).trans (b1 o (by omega))
    simp (disch := omega) only [b_E_text_0, b_E_text_11, b_E_text_22, b_E_text_27, b_E_text_38, true_and, and_true, true_implies, false_implies, not_true_eq_false, not_false_eq_true, eq_self, or_true, true_or, false_or, or_false, false_and, and_false, Option.toList_some, Option.toList_none, List.cons_append, List.nil_append, n10, n01, e10, e01, e08, e18, e28, e38, e48, e58, e68, e78, exI, exL, ↓fd0, ↓fd1, ↓fd2, ↓fd3, ↓fd4, ↓fd5, ↓fd6, ↓m1e, lt_lit, nI_add, pk_mul, n_le, n_lt, n_eq, n_cl, n_in, n_sub, n_div, n_rem, n_ite, Nat.zero_add, r_0_0, r_0_1, r_0_2, r_0_4, r_0_5, r_0_6, r_0_7, r_37_0, r_39_0, r_40_0, k_0, k_1, k_13, k_25, k_37, k_38, k_39, k_40, k_41, k_42, n_38, n_41, n_42, r_51_0, r_51_1, r_51_2, r_51_4, r_51_6, r_51_13, r_51_14, r_51_18, r_51_19, r_51_20, r_51_21, k_51, k_52, k_53, k_54, k_55, k_56, k_57, k_58, k_59, k_60, k_61, k_62, n_52, n_53, n_54, n_55, n_56, n_57, n_58, n_59, n_60, n_61, n_62, ix1, ix2, ix3, ix4, ix5, ix6, ix7, Nat.add_zero, ofn, x88, F_k isF1, F_k isF13, F_k isF25, F_k1 isF1, F_k1 isF13, F_k1 isF25, F_l1 isF1, F_l1 isF13, F_l1 isF25, F_r0 isF1, F_r0 isF13, F_r0 isF25, F_r1 isF1, F_r1 isF13, F_r1 isF25, F_k2 isF1, F_k2 isF13, F_k2 isF25, F_l2 isF1, F_l2 isF13, F_l2 isF25, F_rg isF1, F_rg isF13, F_rg isF25, F_kg isF1, F_kg isF13, F_kg isF25, w4]
    have f4 : ∀ o, (o < 13 ∨ 25 ≤ o) → o ≠ 40 → o ≠ 37 → up2 hi2 37 1 (nI 0) o = hi o := fun o h1 h2 h3 => by rw [← f3 o h1 h2]; funext j; exact u2_nh h3
    refine c_mtext (N := N) (L := L) (B := B) ⟨hT.1, hT.2.1, by rw [f4 51 (by omega) (by omega) (by omega)]; exact hq.2.2.1, fun k hk => by rw [f4 56 (by omega) (by omega) (by omega)]; exact hq.2.2.2 k hk⟩ (hr.keep (f4 52 (by omega) (by omega) (by omega))) ok (fun z2 => by rw [z] at z2; exact absurd z2 (by decide)) (fun _ hi5 y2 y3 y4 => ⟨rfl, ?_⟩)
    refine I.tx hB (ok.mono hB) h64 (hp.keep o6 (fun o h1 h2 => ?_)) (hr.keep ?_) (fun o ho => ?_) ?_ y4 ?_
    · rw [y2 o (by omega) (by omega)]
      exact f4 o (by omega) (by omega) (by omega)
    · rw [y2 52 (by omega) (by omega)]
      exact f4 52 (by omega) (by omega) (by omega)
    · rw [y2 o (by omega) (by omega)]
      exact f4 o (by omega) (by omega) (by omega)
    · rw [y3, f4 51 (by omega) (by omega) (by omega)]
    · rw [y2 37 (by omega) (by omega), u2_eq]
end P50
