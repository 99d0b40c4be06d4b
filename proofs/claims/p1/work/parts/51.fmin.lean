section F1
variable {u : UV} {hi : HI} {hl : HL} {K : Option Value → HI → HL → Prop} {A : Nat → Nat} {B f : Nat}
theorem c_earsAt {r p : Nat} (hf : isF f) (hp : Fp hi f A) (hr8 : r < 8) (hp8 : p < 8) (h : K (some (.int (nI (A (8 * r + p))))) hi hl) : Call u 1 [.ref f, .int (nI r), .int (nI p)] hi hl K := by
  refine i_F_earsAt ?_
  simp (disch := omega) only [b_F_earsAt_0, b_F_earsAt_4, b_F_earsAt_7, b_F_earsAt_11, b_F_earsAt_14, b_F_earsAt_28, b_F_earsAt_29, true_and, and_true, true_implies, false_implies, not_true_eq_false, not_false_eq_true, eq_self, or_true, true_or, false_or, or_false, false_and, and_false, Option.toList_some, Option.toList_none, List.cons_append, List.nil_append, n10, n01, e10, e01, e08, e18, e28, e38, e48, e58, e68, e78, lt_lit, nI_add, pk_mul, n_le, n_lt, n_eq, n_cl, n_in, n_sub, n_div, n_rem, n_ite, Nat.zero_add, F_k hf, F_k1 hf, F_l1 hf, F_r0 hf, F_r1 hf, F_k2 hf, F_l2 hf, F_rg hf, F_kg hf]
  refine c_isRow (fun _ => ?_) (fun q => absurd (q_in (by omega) (by omega)) q)
  simp (disch := omega) only [b_F_earsAt_0, b_F_earsAt_4, b_F_earsAt_7, b_F_earsAt_11, b_F_earsAt_14, b_F_earsAt_28, b_F_earsAt_29, true_and, and_true, true_implies, false_implies, not_true_eq_false, not_false_eq_true, eq_self, or_true, true_or, false_or, or_false, false_and, and_false, Option.toList_some, Option.toList_none, List.cons_append, List.nil_append, n10, n01, e10, e01, e08, e18, e28, e38, e48, e58, e68, e78, lt_lit, nI_add, pk_mul, n_le, n_lt, n_eq, n_cl, n_in, n_sub, n_div, n_rem, n_ite, Nat.zero_add, F_k hf, F_k1 hf, F_l1 hf, F_r0 hf, F_r1 hf, F_k2 hf, F_l2 hf, F_rg hf, F_kg hf]
  refine c_isPlace (fun _ => ?_) (fun q => absurd (q_in (by omega) (by omega)) q)
  simp (disch := omega) only [b_F_earsAt_0, b_F_earsAt_4, b_F_earsAt_7, b_F_earsAt_11, b_F_earsAt_14, b_F_earsAt_28, b_F_earsAt_29, true_and, and_true, true_implies, false_implies, not_true_eq_false, not_false_eq_true, eq_self, or_true, true_or, false_or, or_false, false_and, and_false, Option.toList_some, Option.toList_none, List.cons_append, List.nil_append, n10, n01, e10, e01, e08, e18, e28, e38, e48, e58, e68, e78, lt_lit, nI_add, pk_mul, n_le, n_lt, n_eq, n_cl, n_in, n_sub, n_div, n_rem, n_ite, Nat.zero_add, F_k hf, F_k1 hf, F_l1 hf, F_r0 hf, F_r1 hf, F_k2 hf, F_l2 hf, F_rg hf, F_kg hf]
  rw [hp.p (by omega), show r * 8 + p = 8 * r + p by omega]
  exact h
theorem c_putEars {r p v : Nat} (hf : isF f) (hp : Fp hi f A) (hr8 : r < 8) (hp8 : p < 8) (h : ∀ hi', Fp hi' f (up A (8 * r + p) v) → fF f hi hi' → K none hi' hl) : Call u 2 [.ref f, .int (nI r), .int (nI p), .int (nI v)] hi hl K := by
  refine i_F_putEars ?_
  simp (disch := omega) only [b_F_putEars_0, b_F_putEars_4, b_F_putEars_7, b_F_putEars_11, b_F_putEars_14, b_F_putEars_26, true_and, and_true, true_implies, false_implies, not_true_eq_false, not_false_eq_true, eq_self, or_true, true_or, false_or, or_false, false_and, and_false, Option.toList_some, Option.toList_none, List.cons_append, List.nil_append, n10, n01, e10, e01, e08, e18, e28, e38, e48, e58, e68, e78, lt_lit, nI_add, pk_mul, n_le, n_lt, n_eq, n_cl, n_in, n_sub, n_div, n_rem, n_ite, Nat.zero_add, F_k hf, F_k1 hf, F_l1 hf, F_r0 hf, F_r1 hf, F_k2 hf, F_l2 hf, F_rg hf, F_kg hf]
  refine c_isRow (fun _ => ?_) (fun q => absurd (q_in (by omega) (by omega)) q)
  simp (disch := omega) only [b_F_putEars_0, b_F_putEars_4, b_F_putEars_7, b_F_putEars_11, b_F_putEars_14, b_F_putEars_26, true_and, and_true, true_implies, false_implies, not_true_eq_false, not_false_eq_true, eq_self, or_true, true_or, false_or, or_false, false_and, and_false, Option.toList_some, Option.toList_none, List.cons_append, List.nil_append, n10, n01, e10, e01, e08, e18, e28, e38, e48, e58, e68, e78, lt_lit, nI_add, pk_mul, n_le, n_lt, n_eq, n_cl, n_in, n_sub, n_div, n_rem, n_ite, Nat.zero_add, F_k hf, F_k1 hf, F_l1 hf, F_r0 hf, F_r1 hf, F_k2 hf, F_l2 hf, F_rg hf, F_kg hf]
  refine c_isPlace (fun _ => ?_) (fun q => absurd (q_in (by omega) (by omega)) q)
  simp (disch := omega) only [b_F_putEars_0, b_F_putEars_4, b_F_putEars_7, b_F_putEars_11, b_F_putEars_14, b_F_putEars_26, true_and, and_true, true_implies, false_implies, not_true_eq_false, not_false_eq_true, eq_self, or_true, true_or, false_or, or_false, false_and, and_false, Option.toList_some, Option.toList_none, List.cons_append, List.nil_append, n10, n01, e10, e01, e08, e18, e28, e38, e48, e58, e68, e78, lt_lit, nI_add, pk_mul, n_le, n_lt, n_eq, n_cl, n_in, n_sub, n_div, n_rem, n_ite, Nat.zero_add, F_k hf, F_k1 hf, F_l1 hf, F_r0 hf, F_r1 hf, F_k2 hf, F_l2 hf, F_rg hf, F_kg hf]
  rw [show r * 8 + p = 8 * r + p by omega]
  exact ⟨rfl, h _ (hp.upp (by omega)) ((fF.refl f hi).up (by omega))⟩
theorem c_gstep {g : Nat} (hf : isF f) (hp : Fp hi f A) (ok : rowOk B A) (hg : g < A 68) (h : ∀ hi', Fp hi' f (stepN A g) → fF f hi hi' → K none hi' hl) : Call u 27 [.ref (f + 3 + g)] hi hl K := by
  obtain ⟨o1, o2, o3, o4, o5, o6, o7⟩ := ok
  obtain ⟨g1, g2, g3, g4, g5, g6, g7, g8⟩ := o7 g hg
  have p1 := hp.g (j := 1) hg (by omega)
  have p2 := hp.g (j := 2) hg (by omega)
  have p6 := hp.g (j := 6) hg (by omega)
  rw [show 69 + 8 * g + 1 = 70 + 8 * g by omega] at p1
  rw [show 69 + 8 * g + 2 = 71 + 8 * g by omega] at p2
  rw [show 69 + 8 * g + 6 = 75 + 8 * g by omega] at p6
  have w1 : ∀ {hi A v}, Fp hi f A → Fp (up2 hi (f + 3 + g) 1 (nI v)) f (up A (70 + 8 * g) v) := fun {hi A v} hp => by
    have := hp.upg (g := g) (j := 1) (v := v) (by omega); rwa [show 69 + 8 * g + 1 = 70 + 8 * g by omega] at this
  have w2 : ∀ {hi A v}, Fp hi f A → Fp (up2 hi (f + 3 + g) 2 (nI v)) f (up A (71 + 8 * g) v) := fun {hi A v} hp => by
    have := hp.upg (g := g) (j := 2) (v := v) (by omega); rwa [show 69 + 8 * g + 2 = 71 + 8 * g by omega] at this
  have w6 : ∀ {hi A v}, Fp hi f A → Fp (up2 hi (f + 3 + g) 6 (nI v)) f (up A (75 + 8 * g) v) := fun {hi A v} hp => by
    have := hp.upg (g := g) (j := 6) (v := v) (by omega); rwa [show 69 + 8 * g + 6 = 75 + 8 * g by omega] at this
  have w7 : ∀ {hi A v}, Fp hi f A → Fp (up2 hi (f + 3 + g) 7 (nI v)) f (up A (76 + 8 * g) v) := fun {hi A v} hp => by
    have := hp.upg (g := g) (j := 7) (v := v) (by omega); rwa [show 69 + 8 * g + 7 = 76 + 8 * g by omega] at this
  have fin : ∀ {hi' A'}, Fp hi' f A' → fF f hi hi' → A' = stepN A g → (mR 27 = none ∧ K none hi' hl) := fun a b c => ⟨rfl, h _ (c ▸ a) b⟩
  have fr := fF.refl f hi
  refine i_G_step ?_
  simp (disch := omega) only [b_G_step_0, b_G_step_7, b_G_step_14, b_G_step_27, b_G_step_34, b_G_step_43, b_G_step_56, b_G_step_65, b_G_step_83, b_G_step_87, b_G_step_88, b_G_step_94, b_G_step_99, true_and, and_true, true_implies, false_implies, not_true_eq_false, not_false_eq_true, eq_self, or_true, true_or, false_or, or_false, false_and, and_false, Option.toList_some, Option.toList_none, List.cons_append, List.nil_append, n10, n01, e10, e01, e08, e18, e28, e38, e48, e58, e68, e78, lt_lit, nI_add, pk_mul, n_le, n_lt, n_eq, n_cl, n_in, n_sub, n_div, n_rem, n_ite, Nat.zero_add, F_k hf, F_k1 hf, F_l1 hf, F_r0 hf, F_r1 hf, F_k2 hf, F_l2 hf, F_rg hf, F_kg hf, p1, p2, p6, u2_nk]
  trace_state
  sorry
end F1
