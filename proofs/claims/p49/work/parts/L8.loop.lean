/-! a new object -/
def A0 : Nat → Nat := fun k => if k = 65 then 10 else if k = 66 then 9999 else if k = 67 then 500 else 0
def R0 : Nat → Int32 := fun _ => 0
def X0 : XT := ((false, fun _ => 0), (0, fun _ => 0), (fun _ => 0), (fun _ => 0), fun _ _ => 0)
/-! the start, by one evaluation -/
theorem z_all : (∀ k, k < 69 → hi0 (lh 1 k) (lj k) = nI (A0 k)) ∧ (∀ k, k < 69 → hi0 52 k = nI (A0 k)) ∧ (∀ i, i < 7 → hi0 42 i = 0) ∧ (∀ i, i < 8 → hi0 55 i = 0) ∧ (∀ s, s < 4 → hi0 (43 + 2 * s) 1 = 0 ∧ hi0 (43 + 2 * s) 2 = 0 ∧ hi0 59 s = 0 ∧ hi0 60 s = 0) ∧ (∀ s, s < 4 → ∀ k, k < 40 → hl0 (44 + 2 * s) k = 0) ∧ (∀ s, s < 4 → ∀ k, k < 40 → hl0 61 (40 * s + k) = 0) ∧ (hi0 0 3 = 0 ∧ hi0 37 1 = 0 ∧ hi0 51 3 = 0 ∧ hi0 51 7 = 0) := by decide +kernel
theorem z_F : ∀ k, k < 69 → hi0 (lh 1 k) (lj k) = nI (A0 k) := z_all.1
theorem z_M : ∀ k, k < 69 → hi0 52 k = nI (A0 k) := z_all.2.1
theorem z_R : ∀ i, i < 7 → hi0 42 i = 0 := z_all.2.2.1
theorem z_Q : ∀ i, i < 8 → hi0 55 i = 0 := z_all.2.2.2.1
theorem z_S : ∀ s, s < 4 → hi0 (43 + 2 * s) 1 = 0 ∧ hi0 (43 + 2 * s) 2 = 0 ∧ hi0 59 s = 0 ∧ hi0 60 s = 0 := z_all.2.2.2.2.1
theorem z_L : ∀ s, s < 4 → ∀ k, k < 40 → hl0 (44 + 2 * s) k = 0 := z_all.2.2.2.2.2.1
theorem z_N : ∀ s, s < 4 → ∀ k, k < 40 → hl0 61 (40 * s + k) = 0 := z_all.2.2.2.2.2.2.1
theorem z_B : hi0 0 3 = 0 ∧ hi0 37 1 = 0 ∧ hi0 51 3 = 0 ∧ hi0 51 7 = 0 := z_all.2.2.2.2.2.2.2
theorem A0_68 : A0 68 = 0 := by decide
theorem inv0 : Inv 0 A0 R0 X0 hi0 hl0 := by
  have n0 : ∀ n, n = 0 → (nI n) = 0 := fun n h => by subst h; rfl
  refine ⟨⟨⟨fun k hk => ?_, by decide, by decide, by decide, by decide, by decide, fun g hg => ?_⟩, by decide, ⟨(fun h => by cases h), ⟨Nat.zero_le _, fun k hk => absurd hk (Nat.not_lt_zero k)⟩, fun s _ => ⟨Nat.zero_le _, .inl rfl⟩⟩⟩, ⟨fun k hk => z_F k (by rw [A0_68] at hk; omega), z_R, ?_⟩, fun k hk => z_M k (by rw [A0_68] at hk; omega), ⟨fun i hi => z_Q (i + 1) (by omega), by rw [z_Q 0 (by omega)]; decide⟩, ?_⟩
  · unfold A0; rw [if_neg (by omega), if_neg (by omega), if_neg (by omega)]; omega
  · rw [A0_68] at hg; omega
  · exact ⟨⟨z_B.1, (fun h => by cases h)⟩, ⟨z_B.2.1, fun k hk => absurd hk (Nat.not_lt_zero k)⟩, fun s hs => ⟨(z_S s hs).1, (z_S s hs).2.1, z_L s hs⟩⟩
  · exact ⟨⟨z_B.2.2.1, (fun h => by cases h)⟩, ⟨z_B.2.2.2, fun k hk => absurd hk (Nat.not_lt_zero k)⟩, fun s hs => ⟨(z_S s hs).2.2.1, (z_S s hs).2.2.2, z_N s hs⟩⟩
set_option maxRecDepth 20000 in
theorem law_loop {u : UV} (hN : xN u ≤ 3072) : ∀ n k hi hl, 513 ≤ k + n → k ≤ 512 → InvE (181800 * k) hi hl → Wp u 228 18 [.ref 99, .ref 0, .ref 51, .int (nI (6 * k))] [] hi hl (fun r _ _ => r = some (.int 1)) := by
  intro n
  induction n with
  | zero => intro k hi hl h1 h2; omega
  | succ n ih =>
    intro k hi hl h1 h2 hI
    obtain ⟨A, R, X, I⟩ := hI
    have hc0 : (nI (xN u) - nI 6 < nI (6 * k)) = (xN u < 6 * k + 6) := by
      rw [q_lt, pk_sub_toInt (by omega) (by omega), q_n (by omega)]
      apply propext
      omega
    by_cases q : xN u < 6 * k + 6
    · have hc : (nI (xN u) - nI 6 < nI (6 * k)) = True := by rw [hc0]; exact eq_true q
      refine wv (by decide) ?_
      simp (disch := omega) only [b_Law_law_18, b_Law_law_1600, true_and, and_true, true_implies, false_implies, not_true_eq_false, not_false_eq_true, eq_self, or_true, true_or, false_or, or_false, false_and, and_false, Option.toList_some, Option.toList_none, List.cons_append, List.nil_append, n10, n01, e10, e01, e08, e18, e28, e38, e48, e58, e68, e78, lt_lit, ofn, hc]
      try exact ⟨by decide, rfl⟩
    · have hc : (nI (xN u) - nI 6 < nI (6 * k)) = False := by rw [hc0]; exact eq_false q
      have hB : 181800 * k ≤ 181800 * (k + 1) := by omega
      have hB2 : 181800 * k + 181800 < 100000000 := by omega
      have hB3 : 181800 * k < 99000000 := by omega
      have hB4 : 181800 * k < 100000000 := by omega
      have hB5 : 181800 * k + 181800 ≤ 181800 * (k + 1) := by omega
      have hB6 : 181800 * (k + 1) < 100000000 := by omega
      have h6 : 6 * k + 6 ≤ xN u := by omega
      have go : ∀ hi2 hl2, InvE (181800 * (k + 1)) hi2 hl2 → Wp u 228 18 [.ref 99, .ref 0, .ref 51, .int (nI (6 * k + 6))] [] hi2 hl2 (fun r _ _ => r = some (.int 1)) := fun hi2 hl2 h => by
        have := ih (k + 1) hi2 hl2 (by omega) (by omega) h
        rw [show 6 * (k + 1) = 6 * k + 6 by omega] at this
        exact this
      have same := go hi hl (I.same hB)
      refine wv (by decide) ?_
      simp (disch := omega) only [b_Law_law_18, b_Law_law_27, true_and, and_true, true_implies, false_implies, not_true_eq_false, not_false_eq_true, eq_self, or_true, true_or, false_or, or_false, false_and, and_false, Option.toList_some, Option.toList_none, List.cons_append, List.nil_append, n10, n01, e10, e01, e08, e18, e28, e38, e48, e58, e68, e78, lt_lit, ofn, hc, n_cl, n_in]
      refine ⟨fun _ => law_d (i := 6 * k) h6 hN same, fun _ => law_0 (i := 6 * k) h6 hN (pr_leave I hB) go, fun _ => law_1 (i := 6 * k) h6 hN (pr_ears I hB) go, fun _ => law_2 (i := 6 * k) h6 hN (pr_left I hB) go, fun _ => law_3 (i := 6 * k) h6 hN (pr_rake I hB) go, fun _ => law_4 (i := 6 * k) h6 hN (pr_let I hB) go, fun _ => law_5 (i := 6 * k) h6 hN (pr_gleaner I hB) go, fun _ => law_6 (i := 6 * k) h6 hN (pr_of I hB) go, fun _ => law_7 (i := 6 * k) h6 hN (pr_set I hB) go, fun _ => law_8 (i := 6 * k) h6 hN (pr_turn I hB) go, fun _ => law_9 (i := 6 * k) h6 hN (pr_as I hB) go, fun _ => law_10 (i := 6 * k) h6 hN (pr_takes I hB) go, fun _ => law_11 (i := 6 * k) h6 hN (pr_lay I hB) go, fun _ => law_12 (i := 6 * k) h6 hN (pr_minutes I hB5 hB6) go, fun _ => law_13 (i := 6 * k) h6 hN (pr_rain I hB hB4) go, fun _ => law_14 (i := 6 * k) h6 hN (pr_day I hB) go, fun _ => law_15 (i := 6 * k) h6 hN (pr_now I hB) go, fun _ => law_16 (i := 6 * k) h6 hN (pr_on I hB hB2) go, fun _ => law_17 (i := 6 * k) h6 hN (pr_where I hB hB2) go, fun _ => law_18 (i := 6 * k) h6 hN (pr_done I hB hB3) go, fun _ => law_19 (i := 6 * k) h6 hN (pr_after I hB hB3) go, fun _ => law_20 (i := 6 * k) h6 hN (pr_most I hB hB3) go, fun _ => law_21 (i := 6 * k) h6 hN (pr_meet I hB hB3) go, fun _ => law_22 (i := 6 * k) h6 hN (pr_begin I hB hB3) go, fun _ => law_23 (i := 6 * k) h6 hN (pr_best I hB hB3) go, fun _ => law_24 (i := 6 * k) h6 hN (pr_alone I hB hB3) go, fun _ => law_25 (i := 6 * k) h6 hN (pr_rival I hB hB3) go, fun _ => law_26 (i := 6 * k) h6 hN (pr_may I hB hB3) go, fun _ => law_27 (i := 6 * k) h6 hN (pr_leaveFor I hB hB3 (lf_all I.1.1 I.1.2.1)) go, fun _ => law_28 (i := 6 * k) h6 hN (pr_ring I hB hB3) go, fun _ => law_29 (i := 6 * k) h6 hN (pr_shared I hB hB4) go, fun _ => law_30 (i := 6 * k) h6 hN (pr_over I hB hB4) go, fun _ => law_31 (i := 6 * k) h6 hN (pr_rich I hB hB4) go, fun _ => law_32 (i := 6 * k) h6 hN (pr_straw I hB hB4) go, fun _ => law_33 (i := 6 * k) h6 hN (pr_heap I hB hB3) go, fun _ => law_34 (i := 6 * k) h6 hN (pr_feed I hB) go, fun _ => law_35 (i := 6 * k) h6 hN (pr_wipe I hB) go, fun _ => law_36 (i := 6 * k) h6 hN (pr_text I hB) go, fun _ => law_37 (i := 6 * k) h6 hN (pr_sheet I hB) go, fun _ => law_38 (i := 6 * k) h6 hN (fun w => pr_write I hB) go, fun _ => law_39 (i := 6 * k) h6 hN (pr_copy I hB) go, fun _ => law_40 (i := 6 * k) h6 hN (pr_lays I hB) go, fun _ => law_41 (i := 6 * k) h6 hN (pr_book I hB hB2) go, fun _ => law_42 (i := 6 * k) h6 hN (pr_read I hB hB2) go, fun _ => law_43 (i := 6 * k) h6 hN (pr_image I hB) go, fun _ => law_44 (i := 6 * k) h6 hN (pr_undo I hB) go, fun _ => law_45 (i := 6 * k) h6 hN (pr_tear I hB) go, fun _ => law_46 (i := 6 * k) h6 hN (pr_count I hB hB4) go, fun _ => law_47 (i := 6 * k) h6 hN (pr_status I hB) go⟩
theorem law_all (u : UV) (hN : xN u ≤ 3072) : Wp u 228 18 [.ref 99, .ref 0, .ref 51, .int 0] [] hi0 hl0 (fun r _ _ => r = some (.int 1)) := by
  have e0 : (0 : Int32) = nI 0 := rfl
  rw [e0]
  exact law_loop hN 513 0 hi0 hl0 (by omega) (by omega) ⟨A0, R0, X0, inv0⟩
