theorem ix1 (g : Nat) : 69 + 8 * g + 1 = 70 + 8 * g := by omega
theorem ix2 (g : Nat) : 69 + 8 * g + 2 = 71 + 8 * g := by omega
theorem ix3 (g : Nat) : 69 + 8 * g + 3 = 72 + 8 * g := by omega
theorem ix4 (g : Nat) : 69 + 8 * g + 4 = 73 + 8 * g := by omega
theorem ix5 (g : Nat) : 69 + 8 * g + 5 = 74 + 8 * g := by omega
theorem ix6 (g : Nat) : 69 + 8 * g + 6 = 75 + 8 * g := by omega
theorem ix7 (g : Nat) : 69 + 8 * g + 7 = 76 + 8 * g := by omega
theorem x88 : (8 ≤ 8 ∧ 8 ≤ 13) = True := by decide
theorem ofn (n : Nat) : Int32.ofNat n = nI n := id rfl
section R1
variable {hi : HI} {f g v : Nat} {A : Nat → Nat}
theorem Fp.r0 (h : Fp hi f A) (hg : g < A 68) : hi (f + 3 + g) 0 = nI (A (69 + 8 * g)) := h.g (j := 0) hg (by omega)
theorem Fp.r1 (h : Fp hi f A) (hg : g < A 68) : hi (f + 3 + g) 1 = nI (A (70 + 8 * g)) := by rw [h.g (j := 1) hg (by omega), ix1]
theorem Fp.r2 (h : Fp hi f A) (hg : g < A 68) : hi (f + 3 + g) 2 = nI (A (71 + 8 * g)) := by rw [h.g (j := 2) hg (by omega), ix2]
theorem Fp.r3 (h : Fp hi f A) (hg : g < A 68) : hi (f + 3 + g) 3 = nI (A (72 + 8 * g)) := by rw [h.g (j := 3) hg (by omega), ix3]
theorem Fp.r4 (h : Fp hi f A) (hg : g < A 68) : hi (f + 3 + g) 4 = nI (A (73 + 8 * g)) := by rw [h.g (j := 4) hg (by omega), ix4]
theorem Fp.r5 (h : Fp hi f A) (hg : g < A 68) : hi (f + 3 + g) 5 = nI (A (74 + 8 * g)) := by rw [h.g (j := 5) hg (by omega), ix5]
theorem Fp.r6 (h : Fp hi f A) (hg : g < A 68) : hi (f + 3 + g) 6 = nI (A (75 + 8 * g)) := by rw [h.g (j := 6) hg (by omega), ix6]
theorem Fp.r7 (h : Fp hi f A) (hg : g < A 68) : hi (f + 3 + g) 7 = nI (A (76 + 8 * g)) := by rw [h.g (j := 7) hg (by omega), ix7]
theorem Fp.ug0 (h : Fp hi f A) : Fp (up2 hi (f + 3 + g) 0 (nI v)) f (up A (69 + 8 * g) v) := h.upg (j := 0) (by omega)
theorem Fp.ug1 (h : Fp hi f A) : Fp (up2 hi (f + 3 + g) 1 (nI v)) f (up A (70 + 8 * g) v) := by have := h.upg (g := g) (j := 1) (v := v) (by omega); rwa [ix1] at this
theorem Fp.ug2 (h : Fp hi f A) : Fp (up2 hi (f + 3 + g) 2 (nI v)) f (up A (71 + 8 * g) v) := by have := h.upg (g := g) (j := 2) (v := v) (by omega); rwa [ix2] at this
theorem Fp.ug3 (h : Fp hi f A) : Fp (up2 hi (f + 3 + g) 3 (nI v)) f (up A (72 + 8 * g) v) := by have := h.upg (g := g) (j := 3) (v := v) (by omega); rwa [ix3] at this
theorem Fp.ug4 (h : Fp hi f A) : Fp (up2 hi (f + 3 + g) 4 (nI v)) f (up A (73 + 8 * g) v) := by have := h.upg (g := g) (j := 4) (v := v) (by omega); rwa [ix4] at this
theorem Fp.ug5 (h : Fp hi f A) : Fp (up2 hi (f + 3 + g) 5 (nI v)) f (up A (74 + 8 * g) v) := by have := h.upg (g := g) (j := 5) (v := v) (by omega); rwa [ix5] at this
theorem Fp.ug6 (h : Fp hi f A) : Fp (up2 hi (f + 3 + g) 6 (nI v)) f (up A (75 + 8 * g) v) := by have := h.upg (g := g) (j := 6) (v := v) (by omega); rwa [ix6] at this
theorem Fp.ug7 (h : Fp hi f A) : Fp (up2 hi (f + 3 + g) 7 (nI v)) f (up A (76 + 8 * g) v) := by have := h.upg (g := g) (j := 7) (v := v) (by omega); rwa [ix7] at this
end R1
section F1
variable {u : UV} {hi : HI} {hl : HL} {K : Option Value → HI → HL → Prop} {A : Nat → Nat} {B f : Nat}
theorem c_earsAt {r p : Nat} (hf : isF f) (hp : Fp hi f A) (hr8 : r < 8) (hp8 : p < 8) (h : K (some (.int (nI (A (8 * r + p))))) hi hl) : Call u 1 [.ref f, .int (nI r), .int (nI p)] hi hl K := by
  refine i_F_earsAt ?_
  simp (disch := omega) only [b_F_earsAt_0, b_F_earsAt_4, b_F_earsAt_7, b_F_earsAt_11, b_F_earsAt_14, b_F_earsAt_28, b_F_earsAt_29, true_and, and_true, true_implies, false_implies, not_true_eq_false, not_false_eq_true, eq_self, or_true, true_or, false_or, or_false, false_and, and_false, Option.toList_some, Option.toList_none, List.cons_append, List.nil_append, n10, n01, e10, e01, e08, e18, e28, e38, e48, e58, e68, e78, lt_lit, nI_add, pk_mul, n_le, n_lt, n_eq, n_cl, n_in, n_sub, n_div, n_rem, n_ite, Nat.zero_add, F_k hf, F_k1 hf, F_l1 hf, F_r0 hf, F_r1 hf, F_k2 hf, F_l2 hf, F_rg hf, F_kg hf]
  refine c_isRow (fun _ => ?_) (fun q => absurd (q_in (by omega) (by omega)) q)
  simp (disch := omega) only [b_F_earsAt_0, b_F_earsAt_4, b_F_earsAt_7, b_F_earsAt_11, b_F_earsAt_14, b_F_earsAt_28, b_F_earsAt_29, true_and, and_true, true_implies, false_implies, not_true_eq_false, not_false_eq_true, eq_self, or_true, true_or, false_or, or_false, false_and, and_false, Option.toList_some, Option.toList_none, List.cons_append, List.nil_append, n10, n01, e10, e01, e08, e18, e28, e38, e48, e58, e68, e78, lt_lit, nI_add, pk_mul, n_le, n_lt, n_eq, n_cl, n_in, n_sub, n_div, n_rem, n_ite, Nat.zero_add, F_k hf, F_k1 hf, F_l1 hf, F_r0 hf, F_r1 hf, F_k2 hf, F_l2 hf, F_rg hf, F_kg hf]
  refine c_isPlace (fun _ => ?_) (fun q => absurd (q_in (by omega) (by omega)) q)
  simp (disch := omega) only [b_F_earsAt_0, b_F_earsAt_4, b_F_earsAt_7, b_F_earsAt_11, b_F_earsAt_14, b_F_earsAt_28, b_F_earsAt_29, true_and, and_true, true_implies, false_implies, not_true_eq_false, not_false_eq_true, eq_self, or_true, true_or, false_or, or_false, false_and, and_false, Option.toList_some, Option.toList_none, List.cons_append, List.nil_append, n10, n01, e10, e01, e08, e18, e28, e38, e48, e58, e68, e78, lt_lit, nI_add, pk_mul, n_le, n_lt, n_eq, n_cl, n_in, n_sub, n_div, n_rem, n_ite, Nat.zero_add, F_k hf, F_k1 hf, F_l1 hf, F_r0 hf, F_r1 hf, F_k2 hf, F_l2 hf, F_rg hf, F_kg hf]
  rw [hp.p (by omega), show r * 8 + p = 8 * r + p by omega]
  exact h
theorem c_putEars {r p v : Nat} (hf : isF f) (hp : Fp hi f A) (hr8 : r < 8) (hp8 : p < 8) (h : ∀ hi', Fp hi' f (up A (8 * r + p) v) → fF f hi hi' → K none hi' hl) : Call u 2 [.ref f, .int (nI r), .int (nI p), .int (nI v)] hi hl K := by
  refine i_F_putEars ?_
  simp (disch := omega) only [b_F_putEars_0, b_F_putEars_4, b_F_putEars_7, b_F_putEars_11, b_F_putEars_14, b_F_putEars_26, true_and, and_true, true_implies, false_implies, not_true_eq_false, not_false_eq_true, eq_self, or_true, true_or, false_or, or_false, false_and, and_false, Option.toList_some, Option.toList_none, List.cons_append, List.nil_append, n10, n01, e10, e01, e08, e18, e28, e38, e48, e58, e68, e78, lt_lit, nI_add, pk_mul, n_le, n_lt, n_eq, n_cl, n_in, n_sub, n_div, n_rem, n_ite, Nat.zero_add, F_k hf, F_k1 hf, F_l1 hf, F_r0 hf, F_r1 hf, F_k2 hf, F_l2 hf, F_rg hf, F_kg hf]
  refine c_isRow (fun _ => ?_) (fun q => absurd (q_in (by omega) (by omega)) q)
  simp (disch := omega) only [b_F_putEars_0, b_F_putEars_4, b_F_putEars_7, b_F_putEars_11, b_F_putEars_14, b_F_putEars_26, true_and, and_true, true_implies, false_implies, not_true_eq_false, not_false_eq_true, eq_self, or_true, true_or, false_or, or_false, false_and, and_false, Option.toList_some, Option.toList_none, List.cons_append, List.nil_append, n10, n01, e10, e01, e08, e18, e28, e38, e48, e58, e68, e78, lt_lit, nI_add, pk_mul, n_le, n_lt, n_eq, n_cl, n_in, n_sub, n_div, n_rem, n_ite, Nat.zero_add, F_k hf, F_k1 hf, F_l1 hf, F_r0 hf, F_r1 hf, F_k2 hf, F_l2 hf, F_rg hf, F_kg hf]
  refine c_isPlace (fun _ => ?_) (fun q => absurd (q_in (by omega) (by omega)) q)
  simp (disch := omega) only [b_F_putEars_0, b_F_putEars_4, b_F_putEars_7, b_F_putEars_11, b_F_putEars_14, b_F_putEars_26, true_and, and_true, true_implies, false_implies, not_true_eq_false, not_false_eq_true, eq_self, or_true, true_or, false_or, or_false, false_and, and_false, Option.toList_some, Option.toList_none, List.cons_append, List.nil_append, n10, n01, e10, e01, e08, e18, e28, e38, e48, e58, e68, e78, lt_lit, nI_add, pk_mul, n_le, n_lt, n_eq, n_cl, n_in, n_sub, n_div, n_rem, n_ite, Nat.zero_add, F_k hf, F_k1 hf, F_l1 hf, F_r0 hf, F_r1 hf, F_k2 hf, F_l2 hf, F_rg hf, F_kg hf]
  rw [show r * 8 + p = 8 * r + p by omega]
  exact ⟨rfl, h _ (hp.upp (by omega)) ((fF.refl f hi).up (by omega))⟩
theorem c_gstep {g : Nat} (hf : isF f) (hp : Fp hi f A) (ok : rowOk B A) (hg : g < A 68) (h : ∀ hi', Fp hi' f (stepN A g) → fF f hi hi' → K none hi' hl) : Call u 27 [.ref (f + 3 + g)] hi hl K := by
  obtain ⟨o1, o2, o3, o4, o5, o6, o7⟩ := ok
  obtain ⟨g1, g2, g3, g4, g5, g6, g7, g8⟩ := o7 g hg
  have fin : ∀ {hi' A'}, Fp hi' f A' → fF f hi hi' → A' = stepN A g → K none hi' hl := fun a b c => h _ (c ▸ a) b
  have fr := fF.refl f hi
  refine i_G_step ?_
  simp (disch := omega) only [b_G_step_0, b_G_step_7, b_G_step_14, b_G_step_27, b_G_step_34, b_G_step_43, b_G_step_56, b_G_step_65, b_G_step_83, b_G_step_87, b_G_step_88, b_G_step_94, b_G_step_99, true_and, and_true, true_implies, false_implies, not_true_eq_false, not_false_eq_true, eq_self, or_true, true_or, false_or, or_false, false_and, and_false, Option.toList_some, Option.toList_none, List.cons_append, List.nil_append, n10, n01, e10, e01, e08, e18, e28, e38, e48, e58, e68, e78, lt_lit, nI_add, pk_mul, n_le, n_lt, n_eq, n_cl, n_in, n_sub, n_div, n_rem, n_ite, Nat.zero_add, F_k hf, F_k1 hf, F_l1 hf, F_r0 hf, F_r1 hf, F_k2 hf, F_l2 hf, F_rg hf, F_kg hf, Fp.s2 hp, Fp.s3 hp, Fp.s4 hp, Fp.s5 hp, Fp.s6 hp, Fp.p hp, Fp.r0 hp, Fp.r1 hp, Fp.r2 hp, Fp.r3 hp, Fp.r4 hp, Fp.r5 hp, Fp.r6 hp, Fp.r7 hp, u2_eq, u2_nk, u2_nh]
  repeat' (first | apply And.intro | intro _)
  all_goals first
    | omega
    | rfl
    | (rw [n_sub (by omega)]; refine fin (hp.ug2) (fr.up (by omega)) ?_; unfold stepN; (repeat' split) <;> first | rfl | (exfalso; omega))
    | (refine fin (hp.ug2) (fr.up (by omega)) ?_; unfold stepN; (repeat' split) <;> first | rfl | (exfalso; omega))
    | (refine fin (hp.ug7) (fr.up (by omega)) ?_; unfold stepN; (repeat' split) <;> first | rfl | (exfalso; omega))
    | (refine fin (hp.ug1.ug6) ((fr.up (by omega)).up (by omega)) ?_; unfold stepN; (repeat' split) <;> first | rfl | (exfalso; omega))
theorem c_clearRow {r : Nat} (hf : isF f) (hp : Fp hi f A) (hr8 : r < 8) (h : ∀ hi', Fp hi' f (wipeN A (8 * r) 8) → fF f hi hi' → K none hi' hl) : Call u 5 [.ref f, .int (nI r)] hi hl K := by
  have loop : ∀ n k hi' A', k + n = 8 → Fp hi' f A' → fF f hi hi' → (∀ hi2, Fp hi2 f (wipeN A' (8 * r + k) n) → fF f hi hi2 → K none hi2 hl) → Wp u 5 9 [.ref f, .int (nI r), .int (nI k)] [] hi' hl K := by
    intro n
    induction n with
    | zero =>
      intro k hi' A' e hp fr h
      refine wv (by decide) ?_
      simp (disch := omega) only [b_F_clearRow_0, b_F_clearRow_4, b_F_clearRow_7, b_F_clearRow_9, b_F_clearRow_15, b_F_clearRow_33, true_and, and_true, true_implies, false_implies, not_true_eq_false, not_false_eq_true, eq_self, or_true, true_or, false_or, or_false, false_and, and_false, Option.toList_some, Option.toList_none, List.cons_append, List.nil_append, n10, n01, e10, e01, e08, e18, e28, e38, e48, e58, e68, e78, lt_lit, nI_add, pk_mul, n_le, n_lt, n_eq, n_cl, n_in, n_sub, n_div, n_rem, n_ite, Nat.zero_add, F_k hf, F_k1 hf, F_l1 hf, F_r0 hf, F_r1 hf, F_k2 hf, F_l2 hf, F_rg hf, F_kg hf]
      exact ⟨fun _ => ⟨rfl, h _ hp fr⟩, fun q => absurd (by omega) q⟩
    | succ n ih =>
      intro k hi' A' e hp fr h
      refine wv (by decide) ?_
      simp (disch := omega) only [b_F_clearRow_0, b_F_clearRow_4, b_F_clearRow_7, b_F_clearRow_9, b_F_clearRow_15, b_F_clearRow_33, true_and, and_true, true_implies, false_implies, not_true_eq_false, not_false_eq_true, eq_self, or_true, true_or, false_or, or_false, false_and, and_false, Option.toList_some, Option.toList_none, List.cons_append, List.nil_append, n10, n01, e10, e01, e08, e18, e28, e38, e48, e58, e68, e78, lt_lit, nI_add, pk_mul, n_le, n_lt, n_eq, n_cl, n_in, n_sub, n_div, n_rem, n_ite, Nat.zero_add, F_k hf, F_k1 hf, F_l1 hf, F_r0 hf, F_r1 hf, F_k2 hf, F_l2 hf, F_rg hf, F_kg hf]
      refine ⟨fun q => absurd q (by omega), fun _ => ?_⟩
      rw [show r * 8 + k = 8 * r + k by omega]
      exact ih (k + 1) _ _ (by omega) (hp.upp (by omega)) (fr.up (by omega)) (fun hi2 a b => h hi2 a b)
  refine i_F_clearRow ?_
  simp (disch := omega) only [b_F_clearRow_0, b_F_clearRow_4, b_F_clearRow_7, b_F_clearRow_9, b_F_clearRow_15, b_F_clearRow_33, true_and, and_true, true_implies, false_implies, not_true_eq_false, not_false_eq_true, eq_self, or_true, true_or, false_or, or_false, false_and, and_false, Option.toList_some, Option.toList_none, List.cons_append, List.nil_append, n10, n01, e10, e01, e08, e18, e28, e38, e48, e58, e68, e78, lt_lit, nI_add, pk_mul, n_le, n_lt, n_eq, n_cl, n_in, n_sub, n_div, n_rem, n_ite, Nat.zero_add, F_k hf, F_k1 hf, F_l1 hf, F_r0 hf, F_r1 hf, F_k2 hf, F_l2 hf, F_rg hf, F_kg hf]
  refine c_isRow (fun _ => ?_) (fun q => absurd (q_in (by omega) (by omega)) q)
  simp (disch := omega) only [b_F_clearRow_0, b_F_clearRow_4, b_F_clearRow_7, b_F_clearRow_9, b_F_clearRow_15, b_F_clearRow_33, true_and, and_true, true_implies, false_implies, not_true_eq_false, not_false_eq_true, eq_self, or_true, true_or, false_or, or_false, false_and, and_false, Option.toList_some, Option.toList_none, List.cons_append, List.nil_append, n10, n01, e10, e01, e08, e18, e28, e38, e48, e58, e68, e78, lt_lit, nI_add, pk_mul, n_le, n_lt, n_eq, n_cl, n_in, n_sub, n_div, n_rem, n_ite, Nat.zero_add, F_k hf, F_k1 hf, F_l1 hf, F_r0 hf, F_r1 hf, F_k2 hf, F_l2 hf, F_rg hf, F_kg hf]
  exact loop 8 0 hi A (by omega) hp (fF.refl f hi) h
theorem c_ftakeAll (hf : isF f) (hp : Fp hi f A) (ok : rowOk B A) (hB : B + 909 < 100000000) (h : ∀ hi', Fp hi' f (takeAll all1 0 (A 68) A) → fF f hi hi' → K (some (.int (nI (tookAll all1 0 (A 68) A)))) hi' hl) : Call u 13 [.ref f] hi hl K := by
  have loop : ∀ n g t B' A' hi' l3 l4 l5 l6, g + n = A' 68 → B' + 101 * n < 100000000 → t ≤ 101 * g → Fp hi' f A' → rowOk B' A' → fF f hi hi' → (∀ hi2, Fp hi2 f (takeAll all1 g n A') → fF f hi hi2 → K (some (.int (nI (t + tookAll all1 g n A')))) hi2 hl) → Wp u 13 4 [.ref f, .int (nI t), .int (nI g), l3, l4, l5, l6] [] hi' hl K := by
    intro n
    induction n with
    | zero =>
      intro g t B' A' hi' l3 l4 l5 l6 e hB ht hp ok fr h
      have o6 := ok.2.2.2.2.2.1
      refine wv (by decide) ?_
      simp (disch := omega) only [b_F_takeAll_0, b_F_takeAll_4, b_F_takeAll_12, b_F_takeAll_40, b_F_takeAll_45, b_F_takeAll_55, b_F_takeAll_69, b_F_takeAll_82, b_F_takeAll_147, b_F_takeAll_153, true_and, and_true, true_implies, false_implies, not_true_eq_false, not_false_eq_true, eq_self, or_true, true_or, false_or, or_false, false_and, and_false, Option.toList_some, Option.toList_none, List.cons_append, List.nil_append, n10, n01, e10, e01, e08, e18, e28, e38, e48, e58, e68, e78, lt_lit, nI_add, pk_mul, n_le, n_lt, n_eq, n_cl, n_in, n_sub, n_div, n_rem, n_ite, Nat.zero_add, F_k hf, F_k1 hf, F_l1 hf, F_r0 hf, F_r1 hf, F_k2 hf, F_l2 hf, F_rg hf, F_kg hf, Fp.s2 hp]
      exact ⟨fun _ => h _ hp fr, fun q => absurd (by omega) q⟩
    | succ n ih =>
      intro g t B' A' hi' l3 l4 l5 l6 e hB ht hp ok fr h
      have hg : g < A' 68 := by omega
      have hat := ok.at hg
      have ht1 := tk1_le ok hg
      have hd1 := dr1_le A' g
      have s := same4_take (g := g) hat
      have okt := ok.take hg
      obtain ⟨o1, o2, o3, o4, o5, o6, o7⟩ := ok
      obtain ⟨g1, g2, g3, g4, g5, g6, g7, g8⟩ := o7 g hg
      have ha99 := o1 _ hat
      have hsh : tk1 A' g ≤ A' (atN A' g) := share_le _ _
      have hdr : dr1 A' g ≤ A' 67 := by unfold dr1; omega
      have hpl := pull_le (A' (69 + 8 * g)) (A' 64)
      have eat : A' (70 + 8 * g) * 8 + A' (71 + 8 * g) = atN A' g := by unfold atN; omega
      have etk : shareN (A' (69 + 8 * g)) (A' (atN A' g)) = tk1 A' g := id rfl
      have edr : (if A' 67 < pullN (A' (69 + 8 * g)) (A' 64) then A' 67 else pullN (A' (69 + 8 * g)) (A' 64)) = dr1 A' g := by unfold dr1; split <;> omega
      refine wv (by decide) ?_
      simp (disch := omega) only [b_F_takeAll_0, b_F_takeAll_4, b_F_takeAll_12, b_F_takeAll_40, b_F_takeAll_45, b_F_takeAll_55, b_F_takeAll_69, b_F_takeAll_82, b_F_takeAll_147, b_F_takeAll_153, true_and, and_true, true_implies, false_implies, not_true_eq_false, not_false_eq_true, eq_self, or_true, true_or, false_or, or_false, false_and, and_false, Option.toList_some, Option.toList_none, List.cons_append, List.nil_append, n10, n01, e10, e01, e08, e18, e28, e38, e48, e58, e68, e78, lt_lit, nI_add, pk_mul, n_le, n_lt, n_eq, n_cl, n_in, n_sub, n_div, n_rem, n_ite, Nat.zero_add, F_k hf, F_k1 hf, F_l1 hf, F_r0 hf, F_r1 hf, F_k2 hf, F_l2 hf, F_rg hf, F_kg hf, Fp.s2 hp, Fp.s3 hp, Fp.s4 hp, Fp.s5 hp, Fp.s6 hp, Fp.p hp, Fp.r0 hp, Fp.r1 hp, Fp.r2 hp, Fp.r3 hp, Fp.r4 hp, Fp.r5 hp, Fp.r6 hp, Fp.r7 hp, u2_eq, u2_nk, u2_nh, ix1, ix2, ix3, ix4, ix5, ix6, ix7, Nat.add_zero, ofn, x88, eat]
      refine ⟨fun q => absurd q (by omega), fun _ => ⟨fun q => ?_, fun q => ⟨fun q2 => absurd q2 (by omega), fun _ => ⟨fun q3 => absurd q3 (by omega), fun _ => ?_⟩⟩⟩⟩
      · refine ih (g + 1) t B' A' hi' _ _ _ _ (by omega) (by omega) (by omega) hp ⟨o1, o2, o3, o4, o5, o6, o7⟩ fr (fun hi2 a b => ?_)
        rw [takeAll, if_neg (fun z => q z.2), tookAll, if_neg (fun z => q z.2)] at h
        exact h hi2 a b
      · refine c_share (by omega) (by omega) ?_
        simp (disch := omega) only [b_F_takeAll_0, b_F_takeAll_4, b_F_takeAll_12, b_F_takeAll_40, b_F_takeAll_45, b_F_takeAll_55, b_F_takeAll_69, b_F_takeAll_82, b_F_takeAll_147, b_F_takeAll_153, true_and, and_true, true_implies, false_implies, not_true_eq_false, not_false_eq_true, eq_self, or_true, true_or, false_or, or_false, false_and, and_false, Option.toList_some, Option.toList_none, List.cons_append, List.nil_append, n10, n01, e10, e01, e08, e18, e28, e38, e48, e58, e68, e78, lt_lit, nI_add, pk_mul, n_le, n_lt, n_eq, n_cl, n_in, n_sub, n_div, n_rem, n_ite, Nat.zero_add, F_k hf, F_k1 hf, F_l1 hf, F_r0 hf, F_r1 hf, F_k2 hf, F_l2 hf, F_rg hf, F_kg hf, Fp.s2 hp, Fp.s3 hp, Fp.s4 hp, Fp.s5 hp, Fp.s6 hp, Fp.p hp, Fp.r0 hp, Fp.r1 hp, Fp.r2 hp, Fp.r3 hp, Fp.r4 hp, Fp.r5 hp, Fp.r6 hp, Fp.r7 hp, u2_eq, u2_nk, u2_nh, ix1, ix2, ix3, ix4, ix5, ix6, ix7, Nat.add_zero, ofn, x88, eat, etk]
        refine c_pull (by omega) (by omega) ?_
        simp (disch := omega) only [b_F_takeAll_0, b_F_takeAll_4, b_F_takeAll_12, b_F_takeAll_40, b_F_takeAll_45, b_F_takeAll_55, b_F_takeAll_69, b_F_takeAll_82, b_F_takeAll_147, b_F_takeAll_153, true_and, and_true, true_implies, false_implies, not_true_eq_false, not_false_eq_true, eq_self, or_true, true_or, false_or, or_false, false_and, and_false, Option.toList_some, Option.toList_none, List.cons_append, List.nil_append, n10, n01, e10, e01, e08, e18, e28, e38, e48, e58, e68, e78, lt_lit, nI_add, pk_mul, n_le, n_lt, n_eq, n_cl, n_in, n_sub, n_div, n_rem, n_ite, Nat.zero_add, F_k hf, F_k1 hf, F_l1 hf, F_r0 hf, F_r1 hf, F_k2 hf, F_l2 hf, F_rg hf, F_kg hf, Fp.s2 hp, Fp.s3 hp, Fp.s4 hp, Fp.s5 hp, Fp.s6 hp, Fp.p hp, Fp.r0 hp, Fp.r1 hp, Fp.r2 hp, Fp.r3 hp, Fp.r4 hp, Fp.r5 hp, Fp.r6 hp, Fp.r7 hp, u2_eq, u2_nk, u2_nh, ix1, ix2, ix3, ix4, ix5, ix6, ix7, Nat.add_zero, ofn, x88, eat, etk, edr]
        refine ih (g + 1) _ (B' + 101) (take A' g) _ _ _ _ _ (by rw [s.2.2.2]; omega) (by omega) (by omega) (hp.upp hat).up3.ug4.ug5 okt ((((fr.up (by omega)).up (by omega)).up (by omega)).up (by omega)) (fun hi2 a b => ?_)
        rw [takeAll, if_pos ⟨rfl, q⟩, tookAll, if_pos ⟨rfl, q⟩, ← Nat.add_assoc] at h
        exact h hi2 a b
  refine i_F_takeAll ?_
  simp (disch := omega) only [b_F_takeAll_0, b_F_takeAll_4, b_F_takeAll_12, b_F_takeAll_40, b_F_takeAll_45, b_F_takeAll_55, b_F_takeAll_69, b_F_takeAll_82, b_F_takeAll_147, b_F_takeAll_153, true_and, and_true, true_implies, false_implies, not_true_eq_false, not_false_eq_true, eq_self, or_true, true_or, false_or, or_false, false_and, and_false, Option.toList_some, Option.toList_none, List.cons_append, List.nil_append, n10, n01, e10, e01, e08, e18, e28, e38, e48, e58, e68, e78, lt_lit, nI_add, pk_mul, n_le, n_lt, n_eq, n_cl, n_in, n_sub, n_div, n_rem, n_ite, Nat.zero_add, F_k hf, F_k1 hf, F_l1 hf, F_r0 hf, F_r1 hf, F_k2 hf, F_l2 hf, F_rg hf, F_kg hf]
  have h9 := ok.2.2.2.2.2.1
  refine loop (A 68) 0 0 B A hi _ _ _ _ (by omega) (by omega) (by omega) hp ok (fF.refl f hi) (fun hi2 a b => ?_)
  rw [Nat.zero_add]; exact h hi2 a b
theorem c_fgoAll (hf : isF f) (hp : Fp hi f A) (ok : rowOk B A) (h : ∀ hi', Fp hi' f (goAll all1 0 (A 68) A) → fF f hi hi' → K none hi' hl) : Call u 14 [.ref f] hi hl K := by
  have loop : ∀ n g A' hi' l2 l3 l4, g + n = A' 68 → Fp hi' f A' → rowOk B A' → fF f hi hi' → (∀ hi2, Fp hi2 f (goAll all1 g n A') → fF f hi hi2 → K none hi2 hl) → Wp u 14 2 [.ref f, .int (nI g), l2, l3, l4] [] hi' hl K := by
    intro n
    induction n with
    | zero =>
      intro g A' hi' l2 l3 l4 e hp ok fr h
      have o6 := ok.2.2.2.2.2.1
      refine wv (by decide) ?_
      simp (disch := omega) only [b_F_goAll_0, b_F_goAll_2, b_F_goAll_10, b_F_goAll_28, b_F_goAll_32, b_F_goAll_38, b_F_goAll_45, b_F_goAll_49, b_F_goAll_55, b_F_goAll_61, true_and, and_true, true_implies, false_implies, not_true_eq_false, not_false_eq_true, eq_self, or_true, true_or, false_or, or_false, false_and, and_false, Option.toList_some, Option.toList_none, List.cons_append, List.nil_append, n10, n01, e10, e01, e08, e18, e28, e38, e48, e58, e68, e78, lt_lit, nI_add, pk_mul, n_le, n_lt, n_eq, n_cl, n_in, n_sub, n_div, n_rem, n_ite, Nat.zero_add, F_k hf, F_k1 hf, F_l1 hf, F_r0 hf, F_r1 hf, F_k2 hf, F_l2 hf, F_rg hf, F_kg hf, Fp.s2 hp]
      exact ⟨fun _ => ⟨rfl, h _ hp fr⟩, fun q => absurd (by omega) q⟩
    | succ n ih =>
      intro g A' hi' l2 l3 l4 e hp ok fr h
      have hg : g < A' 68 := by omega
      have o2 := ok.2.1
      have o6 := ok.2.2.2.2.2.1
      have g1 := (ok.2.2.2.2.2.2 g hg).1
      have inner : ∀ (m k p : Nat) (A2 : Nat → Nat) (hi2 : HI), k + m = p → p ≤ 2 → same4 A' A2 → Fp hi2 f A2 → rowOk B A2 → fF f hi hi2 → (∀ hi3 l3 l4, Fp hi3 f (steps all1 g m A2) → fF f hi hi3 → Wp u 14 2 [.ref f, .int (nI (g + 1)), .ref (f + 3 + g), l3, l4] [] hi3 hl K) → Wp u 14 32 [.ref f, .int (nI g), .ref (f + 3 + g), .int (nI p), .int (nI k)] [] hi2 hl K := by
        intro m
        induction m with
        | zero =>
          intro k p A2 hi2 e2 hp2 s hp ok fr h
          refine wv (by decide) ?_
          simp (disch := omega) only [b_F_goAll_0, b_F_goAll_2, b_F_goAll_10, b_F_goAll_28, b_F_goAll_32, b_F_goAll_38, b_F_goAll_45, b_F_goAll_49, b_F_goAll_55, b_F_goAll_61, true_and, and_true, true_implies, false_implies, not_true_eq_false, not_false_eq_true, eq_self, or_true, true_or, false_or, or_false, false_and, and_false, Option.toList_some, Option.toList_none, List.cons_append, List.nil_append, n10, n01, e10, e01, e08, e18, e28, e38, e48, e58, e68, e78, lt_lit, nI_add, pk_mul, n_le, n_lt, n_eq, n_cl, n_in, n_sub, n_div, n_rem, n_ite, Nat.zero_add, F_k hf, F_k1 hf, F_l1 hf, F_r0 hf, F_r1 hf, F_k2 hf, F_l2 hf, F_rg hf, F_kg hf]
          exact ⟨fun _ => h _ _ _ hp fr, fun q => absurd (by omega) q⟩
        | succ m ihm =>
          intro k p A2 hi2 e2 hp2 s hp ok fr h
          have hg2 : g < A2 68 := by rw [s.2.2.2]; exact hg
          have g8 := (ok.2.2.2.2.2.2 g hg2).2.2.2.2.2.2.2
          refine wv (by decide) ?_
          simp (disch := omega) only [b_F_goAll_0, b_F_goAll_2, b_F_goAll_10, b_F_goAll_28, b_F_goAll_32, b_F_goAll_38, b_F_goAll_45, b_F_goAll_49, b_F_goAll_55, b_F_goAll_61, true_and, and_true, true_implies, false_implies, not_true_eq_false, not_false_eq_true, eq_self, or_true, true_or, false_or, or_false, false_and, and_false, Option.toList_some, Option.toList_none, List.cons_append, List.nil_append, n10, n01, e10, e01, e08, e18, e28, e38, e48, e58, e68, e78, lt_lit, nI_add, pk_mul, n_le, n_lt, n_eq, n_cl, n_in, n_sub, n_div, n_rem, n_ite, Nat.zero_add, F_k hf, F_k1 hf, F_l1 hf, F_r0 hf, F_r1 hf, F_k2 hf, F_l2 hf, F_rg hf, F_kg hf, Fp.s2 hp, Fp.s3 hp, Fp.s4 hp, Fp.s5 hp, Fp.s6 hp, Fp.p hp, Fp.r0 hp, Fp.r1 hp, Fp.r2 hp, Fp.r3 hp, Fp.r4 hp, Fp.r5 hp, Fp.r6 hp, Fp.r7 hp]
          refine ⟨fun q => absurd q (by omega), fun _ => ⟨fun q => ?_, fun q => ?_⟩⟩
          · rw [steps, if_neg (fun z => q z.2)] at h
            exact h _ _ _ hp fr
          · refine c_gstep hf hp ok hg2 (fun hi3 a b => ?_)
            simp (disch := omega) only [b_F_goAll_0, b_F_goAll_2, b_F_goAll_10, b_F_goAll_28, b_F_goAll_32, b_F_goAll_38, b_F_goAll_45, b_F_goAll_49, b_F_goAll_55, b_F_goAll_61, true_and, and_true, true_implies, false_implies, not_true_eq_false, not_false_eq_true, eq_self, or_true, true_or, false_or, or_false, false_and, and_false, Option.toList_some, Option.toList_none, List.cons_append, List.nil_append, n10, n01, e10, e01, e08, e18, e28, e38, e48, e58, e68, e78, lt_lit, nI_add, pk_mul, n_le, n_lt, n_eq, n_cl, n_in, n_sub, n_div, n_rem, n_ite, Nat.zero_add, F_k hf, F_k1 hf, F_l1 hf, F_r0 hf, F_r1 hf, F_k2 hf, F_l2 hf, F_rg hf, F_kg hf]
            refine ihm (k + 1) p (stepN A2 g) hi3 (by omega) hp2 (s.trans same4_step) a (ok.step hg2) (fr.trans b) ?_
            rw [steps, if_pos ⟨rfl, q⟩] at h
            exact h
      have pc : paceN (A' (69 + 8 * g)) (A' 64) ≤ 2 := by unfold paceN; (repeat' split) <;> omega
      obtain ⟨ok2, s2⟩ := steps_ok all1 g (paceN (A' (69 + 8 * g)) (A' 64)) (A := A') hg ok
      refine wv (by decide) ?_
      simp (disch := omega) only [b_F_goAll_0, b_F_goAll_2, b_F_goAll_10, b_F_goAll_28, b_F_goAll_32, b_F_goAll_38, b_F_goAll_45, b_F_goAll_49, b_F_goAll_55, b_F_goAll_61, true_and, and_true, true_implies, false_implies, not_true_eq_false, not_false_eq_true, eq_self, or_true, true_or, false_or, or_false, false_and, and_false, Option.toList_some, Option.toList_none, List.cons_append, List.nil_append, n10, n01, e10, e01, e08, e18, e28, e38, e48, e58, e68, e78, lt_lit, nI_add, pk_mul, n_le, n_lt, n_eq, n_cl, n_in, n_sub, n_div, n_rem, n_ite, Nat.zero_add, F_k hf, F_k1 hf, F_l1 hf, F_r0 hf, F_r1 hf, F_k2 hf, F_l2 hf, F_rg hf, F_kg hf, Fp.s2 hp, Fp.s3 hp, Fp.s4 hp, Fp.s5 hp, Fp.s6 hp, Fp.p hp, Fp.r0 hp, Fp.r1 hp, Fp.r2 hp, Fp.r3 hp, Fp.r4 hp, Fp.r5 hp, Fp.r6 hp, Fp.r7 hp]
      refine ⟨fun q => absurd q (by omega), fun _ => ?_⟩
      refine c_pace (by omega) (by omega) ?_
      simp (disch := omega) only [b_F_goAll_0, b_F_goAll_2, b_F_goAll_10, b_F_goAll_28, b_F_goAll_32, b_F_goAll_38, b_F_goAll_45, b_F_goAll_49, b_F_goAll_55, b_F_goAll_61, true_and, and_true, true_implies, false_implies, not_true_eq_false, not_false_eq_true, eq_self, or_true, true_or, false_or, or_false, false_and, and_false, Option.toList_some, Option.toList_none, List.cons_append, List.nil_append, n10, n01, e10, e01, e08, e18, e28, e38, e48, e58, e68, e78, lt_lit, nI_add, pk_mul, n_le, n_lt, n_eq, n_cl, n_in, n_sub, n_div, n_rem, n_ite, Nat.zero_add, F_k hf, F_k1 hf, F_l1 hf, F_r0 hf, F_r1 hf, F_k2 hf, F_l2 hf, F_rg hf, F_kg hf, Fp.s2 hp, Fp.s3 hp, Fp.s4 hp, Fp.s5 hp, Fp.s6 hp, Fp.p hp, Fp.r0 hp, Fp.r1 hp, Fp.r2 hp, Fp.r3 hp, Fp.r4 hp, Fp.r5 hp, Fp.r6 hp, Fp.r7 hp]
      refine inner (paceN (A' (69 + 8 * g)) (A' 64)) 0 (paceN (A' (69 + 8 * g)) (A' 64)) A' hi' (by omega) pc (same4.refl A') hp ok fr (fun hi3 l3 l4 a b => ?_)
      refine ih (g + 1) _ hi3 _ l3 l4 (by rw [s2.2.2.2]; omega) a ok2 b (fun hi4 c d => ?_)
      rw [goAll] at h
      exact h hi4 c d
  refine i_F_goAll ?_
  simp (disch := omega) only [b_F_goAll_0, b_F_goAll_2, b_F_goAll_10, b_F_goAll_28, b_F_goAll_32, b_F_goAll_38, b_F_goAll_45, b_F_goAll_49, b_F_goAll_55, b_F_goAll_61, true_and, and_true, true_implies, false_implies, not_true_eq_false, not_false_eq_true, eq_self, or_true, true_or, false_or, or_false, false_and, and_false, Option.toList_some, Option.toList_none, List.cons_append, List.nil_append, n10, n01, e10, e01, e08, e18, e28, e38, e48, e58, e68, e78, lt_lit, nI_add, pk_mul, n_le, n_lt, n_eq, n_cl, n_in, n_sub, n_div, n_rem, n_ite, Nat.zero_add, F_k hf, F_k1 hf, F_l1 hf, F_r0 hf, F_r1 hf, F_k2 hf, F_l2 hf, F_rg hf, F_kg hf]
  exact loop (A 68) 0 A hi _ _ _ (by omega) hp ok (fF.refl f hi) h
end F1
