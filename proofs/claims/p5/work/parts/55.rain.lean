/-! rain and a new day, the same way on both sides -/
def rainP : Nat → Nat → (Nat → Nat) → (Nat → Nat)
  | _, 0, A => A
  | k, n + 1, A => rainP (k + 1) n (up A k (A k - A k / 5))
def goneP : Nat → Nat → (Nat → Nat) → Nat
  | _, 0, _ => 0
  | k, n + 1, A => A k / 5 + goneP (k + 1) n (up A k (A k - A k / 5))
def rainG1 (A : Nat → Nat) (g : Nat) : Nat → Nat := up (up A (73 + 8 * g) (A (73 + 8 * g) - A (73 + 8 * g) / 10)) (74 + 8 * g) (A (74 + 8 * g) - A (74 + 8 * g) / 10)
def rainG : Nat → Nat → (Nat → Nat) → (Nat → Nat)
  | _, 0, A => A
  | g, n + 1, A => rainG (g + 1) n (rainG1 A g)
def goneG : Nat → Nat → (Nat → Nat) → Nat
  | _, 0, _ => 0
  | g, n + 1, A => A (73 + 8 * g) / 10 + goneG (g + 1) n (rainG1 A g)
def rainN (A : Nat → Nat) : Nat → Nat := rainG 0 (A 68) (rainP 0 64 A)
def goneN (A : Nat → Nat) : Nat := goneP 0 64 A + goneG 0 (A 68) (rainP 0 64 A)
def dayG1 (A : Nat → Nat) (g : Nat) : Nat → Nat := up (up (up A (71 + 8 * g) 0) (75 + 8 * g) 0) (76 + 8 * g) 0
def dayG : Nat → Nat → (Nat → Nat) → (Nat → Nat)
  | _, 0, A => A
  | g, n + 1, A => dayG (g + 1) n (dayG1 A g)
def dayN (A : Nat → Nat) : Nat → Nat := dayG 0 (A 68) (up A 64 0)
theorem rowOk.up_lo {A : Nat → Nat} {B k v : Nat} (ok : rowOk B A) (hk : k < 64) (hv : v ≤ 99) : rowOk B (up A k v) := by
  obtain ⟨o1, o2, o3, o4, o5, o6, o7⟩ := ok
  refine ⟨fun j hj => ?_, ?_, ?_, ?_, ?_, ?_, fun g hg => ?_⟩
  · unfold up; split
    · exact hv
    · exact o1 j hj
  · rw [up_ne _ (by omega)]; exact o2
  · rw [up_ne _ (by omega)]; exact o3
  · rw [up_ne _ (by omega)]; exact o4
  · rw [up_ne _ (by omega)]; exact o5
  · rw [up_ne _ (by omega)]; exact o6
  · rw [up_ne _ (by omega)] at hg
    unfold glOk
    simp (disch := omega) only [up_ne]
    exact o7 g hg
/-- a row with other numbers of one gleaner -/
theorem rowOk.glean {A A' : Nat → Nat} {B g : Nat} (ok : rowOk B A) (hne : ∀ j, (j < 69 + 8 * g ∨ 77 + 8 * g ≤ j) → A' j = A j) (hg : glOk B A' g) : rowOk B A' := by
  obtain ⟨o1, o2, o3, o4, o5, o6, o7⟩ := ok
  refine ⟨fun j hj => ?_, ?_, ?_, ?_, ?_, ?_, fun i hi => ?_⟩
  · rw [hne _ (by omega)]; exact o1 j hj
  · rw [hne _ (by omega)]; exact o2
  · rw [hne _ (by omega)]; exact o3
  · rw [hne _ (by omega)]; exact o4
  · rw [hne _ (by omega)]; exact o5
  · rw [hne _ (by omega)]; exact o6
  · rw [hne _ (by omega)] at hi
    by_cases q : i = g
    · subst q; exact hg
    · unfold glOk
      simp (disch := omega) only [hne]
      exact o7 i hi
theorem rainP_ok (n : Nat) : ∀ {A : Nat → Nat} {B k : Nat}, k + n ≤ 64 → rowOk B A → rowOk B (rainP k n A) ∧ (∀ j, 64 ≤ j → rainP k n A j = A j) ∧ goneP k n A ≤ 20 * n := by
  induction n with
  | zero => intro A B k _ ok; exact ⟨ok, fun _ _ => rfl, Nat.le_refl _⟩
  | succ n ih =>
    intro A B k h ok
    have h9 := ok.1 k (by omega)
    obtain ⟨a, b, c⟩ := ih (A := up A k (A k - A k / 5)) (k := k + 1) (by omega) (ok.up_lo (by omega) (by omega))
    refine ⟨a, fun j hj => ?_, ?_⟩
    · rw [rainP, b j hj, up_ne _ (by omega)]
    · rw [goneP]; omega
theorem rainG1_ne {A : Nat → Nat} {g j : Nat} (h : j < 69 + 8 * g ∨ 77 + 8 * g ≤ j) : rainG1 A g j = A j := by
  unfold rainG1; rw [up_ne _ (by omega), up_ne _ (by omega)]
theorem rainG1_ok {A : Nat → Nat} {B g : Nat} (ok : rowOk B A) (hg : g < A 68) : rowOk B (rainG1 A g) := by
  obtain ⟨g1, g2, g3, g4, g5, g6, g7, g8⟩ := ok.2.2.2.2.2.2 g hg
  refine ok.glean (g := g) (fun j hj => rainG1_ne hj) ?_
  unfold glOk rainG1
  simp (disch := omega) only [up_ne, up_eq]
  refine ⟨g1, g2, g3, g4, by omega, by omega, g7, g8⟩
theorem rainG_ok (n : Nat) : ∀ {A : Nat → Nat} {B g : Nat}, B < 100000000 → g + n ≤ A 68 → rowOk B A → rowOk B (rainG g n A) ∧ (∀ j, j < 69 → rainG g n A j = A j) ∧ goneG g n A ≤ 10000000 * n := by
  induction n with
  | zero => intro A B g _ _ ok; exact ⟨ok, fun _ _ => rfl, Nat.le_refl _⟩
  | succ n ih =>
    intro A B g hB h ok
    have h5 := (ok.2.2.2.2.2.2 g (by omega)).2.2.2.2.1
    obtain ⟨a, b, c⟩ := ih (A := rainG1 A g) (g := g + 1) hB (by rw [rainG1_ne (by omega)]; omega) (rainG1_ok ok (by omega))
    refine ⟨a, fun j hj => ?_, ?_⟩
    · rw [rainG, b j hj, rainG1_ne (by omega)]
    · rw [goneG]; omega
theorem rainN_ok {A : Nat → Nat} {B : Nat} (ok : rowOk B A) (hB : B < 100000000) : rowOk B (rainN A) := by
  obtain ⟨a, b, c⟩ := rainP_ok 64 (A := A) (k := 0) (by omega) ok
  exact (rainG_ok (A 68) (A := rainP 0 64 A) (g := 0) hB (by rw [b 68 (by omega)]; omega) a).1
theorem dayG1_ne {A : Nat → Nat} {g j : Nat} (h : j < 69 + 8 * g ∨ 77 + 8 * g ≤ j) : dayG1 A g j = A j := by
  unfold dayG1; rw [up_ne _ (by omega), up_ne _ (by omega), up_ne _ (by omega)]
theorem dayG1_ok {A : Nat → Nat} {B g : Nat} (ok : rowOk B A) (hg : g < A 68) : rowOk B (dayG1 A g) := by
  obtain ⟨g1, g2, g3, g4, g5, g6, g7, g8⟩ := ok.2.2.2.2.2.2 g hg
  refine ok.glean (g := g) (fun j hj => dayG1_ne hj) ?_
  unfold glOk dayG1
  simp (disch := omega) only [up_ne, up_eq]
  refine ⟨g1, g2, by omega, g4, g5, g6, by omega, by omega⟩
theorem dayG_ok (n : Nat) : ∀ {A : Nat → Nat} {B g : Nat}, g + n ≤ A 68 → rowOk B A → rowOk B (dayG g n A) := by
  induction n with
  | zero => intro A B g _ ok; exact ok
  | succ n ih =>
    intro A B g h ok
    exact ih (A := dayG1 A g) (g := g + 1) (by rw [dayG1_ne (by omega)]; omega) (dayG1_ok ok (by omega))
theorem rowOk.up64 {A : Nat → Nat} {B v : Nat} (ok : rowOk B A) (hv : v ≤ 10200) : rowOk B (up A 64 v) := by
  obtain ⟨o1, o2, o3, o4, o5, o6, o7⟩ := ok
  refine ⟨fun j hj => ?_, ?_, ?_, ?_, ?_, ?_, fun g hg => ?_⟩
  · rw [up_ne _ (by omega)]; exact o1 j hj
  · rw [up_eq]; exact hv
  · rw [up_ne _ (by omega)]; exact o3
  · rw [up_ne _ (by omega)]; exact o4
  · rw [up_ne _ (by omega)]; exact o5
  · rw [up_ne _ (by omega)]; exact o6
  · rw [up_ne _ (by omega)] at hg
    unfold glOk
    simp (disch := omega) only [up_ne]
    exact o7 g hg
theorem dayN_ok {A : Nat → Nat} {B : Nat} (ok : rowOk B A) : rowOk B (dayN A) := by
  refine dayG_ok (A 68) ?_ (ok.up64 (by omega))
  rw [up_ne _ (by omega)]; omega
section F5
variable {u : UV} {hi : HI} {hl : HL} {K : Option Value → HI → HL → Prop} {A : Nat → Nat} {B f : Nat}
theorem c_rainOnAll (hf : isF f) (hp : Fp hi f A) (ok : rowOk B A) (hB : B < 100000000) (h : ∀ hi', Fp hi' f (rainN A) → fF f hi hi' → K (some (.int (nI (goneN A)))) hi' hl) : Call u 15 [.ref f] hi hl K := by
  have o6 := ok.2.2.2.2.2.1
  have loop2 : ∀ n g t A' hi' l3 l4, g + n = A 68 → A' 68 = A 68 → t ≤ 1280 + 10000000 * g → Fp hi' f A' → rowOk B A' → fF f hi hi' → (∀ hi2, Fp hi2 f (rainG g n A') → fF f hi hi2 → K (some (.int (nI (t + goneG g n A')))) hi2 hl) → Wp u 15 41 [.ref f, .int (nI t), .int (nI g), l3, l4] [] hi' hl K := by
    intro n
    induction n with
    | zero =>
      intro g t A' hi' l3 l4 e e68 ht hp ok fr h
      refine wv (by decide) ?_
      simp (disch := omega) only [b_F_rainOnAll_0, b_F_rainOnAll_4, b_F_rainOnAll_10, b_F_rainOnAll_39, b_F_rainOnAll_41, b_F_rainOnAll_49, b_F_rainOnAll_103, true_and, and_true, true_implies, false_implies, not_true_eq_false, not_false_eq_true, eq_self, or_true, true_or, false_or, or_false, false_and, and_false, Option.toList_some, Option.toList_none, List.cons_append, List.nil_append, n10, n01, e10, e01, e08, e18, e28, e38, e48, e58, e68, e78, lt_lit, nI_add, pk_mul, n_le, n_lt, n_eq, n_cl, n_in, n_sub, n_div, n_rem, n_ite, Nat.zero_add, F_k hf, F_k1 hf, F_l1 hf, F_r0 hf, F_r1 hf, F_k2 hf, F_l2 hf, F_rg hf, F_kg hf, Fp.s2 hp, Fp.s3 hp, Fp.s4 hp, Fp.s5 hp, Fp.s6 hp, Fp.p hp, Fp.r0 hp, Fp.r1 hp, Fp.r2 hp, Fp.r3 hp, Fp.r4 hp, Fp.r5 hp, Fp.r6 hp, Fp.r7 hp]
      exact ⟨fun _ => h _ hp fr, fun q => absurd (by omega) q⟩
    | succ n ih =>
      intro g t A' hi' l3 l4 e e68 ht hp ok fr h
      obtain ⟨g1, g2, g3, g4, g5, g6, g7, g8⟩ := ok.2.2.2.2.2.2 g (by omega)
      refine wv (by decide) ?_
      simp (disch := omega) only [b_F_rainOnAll_0, b_F_rainOnAll_4, b_F_rainOnAll_10, b_F_rainOnAll_39, b_F_rainOnAll_41, b_F_rainOnAll_49, b_F_rainOnAll_103, true_and, and_true, true_implies, false_implies, not_true_eq_false, not_false_eq_true, eq_self, or_true, true_or, false_or, or_false, false_and, and_false, Option.toList_some, Option.toList_none, List.cons_append, List.nil_append, n10, n01, e10, e01, e08, e18, e28, e38, e48, e58, e68, e78, lt_lit, nI_add, pk_mul, n_le, n_lt, n_eq, n_cl, n_in, n_sub, n_div, n_rem, n_ite, Nat.zero_add, F_k hf, F_k1 hf, F_l1 hf, F_r0 hf, F_r1 hf, F_k2 hf, F_l2 hf, F_rg hf, F_kg hf, Fp.s2 hp, Fp.s3 hp, Fp.s4 hp, Fp.s5 hp, Fp.s6 hp, Fp.p hp, Fp.r0 hp, Fp.r1 hp, Fp.r2 hp, Fp.r3 hp, Fp.r4 hp, Fp.r5 hp, Fp.r6 hp, Fp.r7 hp, u2_eq, u2_nk, u2_nh]
      refine ⟨fun q => absurd q (by omega), fun _ => ⟨by omega, by omega, ?_⟩⟩
      refine ih (g + 1) (t + A' (73 + 8 * g) / 10) (rainG1 A' g) _ _ _ (by omega) (by rw [rainG1_ne (by omega)]; exact e68) (by omega) hp.ug4.ug5 (rainG1_ok ok (by omega)) ((fr.up (by omega)).up (by omega)) (fun hi2 a b => ?_)
      rw [rainG, goneG, ← Nat.add_assoc] at h
      exact h hi2 a b
  have loop1 : ∀ n k t A' hi' l3 l4, k + n = 64 → A' 68 = A 68 → t ≤ 20 * k → Fp hi' f A' → rowOk B A' → fF f hi hi' → (∀ hi2, Fp hi2 f (rainG 0 (A 68) (rainP k n A')) → fF f hi hi2 → K (some (.int (nI (t + goneP k n A' + goneG 0 (A 68) (rainP k n A'))))) hi2 hl) → Wp u 15 4 [.ref f, .int (nI t), .int (nI k), l3, l4] [] hi' hl K := by
    intro n
    induction n with
    | zero =>
      intro k t A' hi' l3 l4 e e68 ht hp ok fr h
      refine wv (by decide) ?_
      simp (disch := omega) only [b_F_rainOnAll_0, b_F_rainOnAll_4, b_F_rainOnAll_10, b_F_rainOnAll_39, b_F_rainOnAll_41, b_F_rainOnAll_49, b_F_rainOnAll_103, true_and, and_true, true_implies, false_implies, not_true_eq_false, not_false_eq_true, eq_self, or_true, true_or, false_or, or_false, false_and, and_false, Option.toList_some, Option.toList_none, List.cons_append, List.nil_append, n10, n01, e10, e01, e08, e18, e28, e38, e48, e58, e68, e78, lt_lit, nI_add, pk_mul, n_le, n_lt, n_eq, n_cl, n_in, n_sub, n_div, n_rem, n_ite, Nat.zero_add, F_k hf, F_k1 hf, F_l1 hf, F_r0 hf, F_r1 hf, F_k2 hf, F_l2 hf, F_rg hf, F_kg hf, Fp.s2 hp, Fp.s3 hp, Fp.s4 hp, Fp.s5 hp, Fp.s6 hp, Fp.p hp, Fp.r0 hp, Fp.r1 hp, Fp.r2 hp, Fp.r3 hp, Fp.r4 hp, Fp.r5 hp, Fp.r6 hp, Fp.r7 hp]
      exact ⟨fun _ => loop2 (A 68) 0 t A' hi' _ _ (by omega) e68 (by omega) hp ok fr h, fun q => absurd (by omega) q⟩
    | succ n ih =>
      intro k t A' hi' l3 l4 e e68 ht hp ok fr h
      have h9 := ok.1 k (by omega)
      refine wv (by decide) ?_
      simp (disch := omega) only [b_F_rainOnAll_0, b_F_rainOnAll_4, b_F_rainOnAll_10, b_F_rainOnAll_39, b_F_rainOnAll_41, b_F_rainOnAll_49, b_F_rainOnAll_103, true_and, and_true, true_implies, false_implies, not_true_eq_false, not_false_eq_true, eq_self, or_true, true_or, false_or, or_false, false_and, and_false, Option.toList_some, Option.toList_none, List.cons_append, List.nil_append, n10, n01, e10, e01, e08, e18, e28, e38, e48, e58, e68, e78, lt_lit, nI_add, pk_mul, n_le, n_lt, n_eq, n_cl, n_in, n_sub, n_div, n_rem, n_ite, Nat.zero_add, F_k hf, F_k1 hf, F_l1 hf, F_r0 hf, F_r1 hf, F_k2 hf, F_l2 hf, F_rg hf, F_kg hf, Fp.s2 hp, Fp.s3 hp, Fp.s4 hp, Fp.s5 hp, Fp.s6 hp, Fp.p hp, Fp.r0 hp, Fp.r1 hp, Fp.r2 hp, Fp.r3 hp, Fp.r4 hp, Fp.r5 hp, Fp.r6 hp, Fp.r7 hp, u2_eq, u2_nk, u2_nh]
      refine ⟨fun q => absurd q (by omega), fun _ => ⟨by omega, ?_⟩⟩
      refine ih (k + 1) _ (up A' k (A' k - A' k / 5)) _ _ _ (by omega) (by rw [up_ne _ (by omega)]; exact e68) (by omega) (hp.upp (by omega)) (ok.up_lo (by omega) (by omega)) (fr.up (by omega)) (fun hi2 a b => ?_)
      rw [rainP, goneP, ← Nat.add_assoc] at h
      exact h hi2 a b
  refine i_F_rainOnAll ?_
  simp (disch := omega) only [b_F_rainOnAll_0, b_F_rainOnAll_4, b_F_rainOnAll_10, b_F_rainOnAll_39, b_F_rainOnAll_41, b_F_rainOnAll_49, b_F_rainOnAll_103, true_and, and_true, true_implies, false_implies, not_true_eq_false, not_false_eq_true, eq_self, or_true, true_or, false_or, or_false, false_and, and_false, Option.toList_some, Option.toList_none, List.cons_append, List.nil_append, n10, n01, e10, e01, e08, e18, e28, e38, e48, e58, e68, e78, lt_lit, nI_add, pk_mul, n_le, n_lt, n_eq, n_cl, n_in, n_sub, n_div, n_rem, n_ite, Nat.zero_add, F_k hf, F_k1 hf, F_l1 hf, F_r0 hf, F_r1 hf, F_k2 hf, F_l2 hf, F_rg hf, F_kg hf]
  refine loop1 64 0 0 A hi _ _ (by omega) rfl (by omega) hp ok (fF.refl f hi) (fun hi2 a b => ?_)
  rw [Nat.zero_add]; exact h hi2 a b
theorem c_startDay (hf : isF f) (hp : Fp hi f A) (ok : rowOk B A) (h : ∀ hi', Fp hi' f (dayN A) → fF f hi hi' → K none hi' hl) : Call u 16 [.ref f] hi hl K := by
  have o6 := ok.2.2.2.2.2.1
  have loop : ∀ n g A' hi', g + n = A 68 → A' 68 = A 68 → Fp hi' f A' → fF f hi hi' → (∀ hi2, Fp hi2 f (dayG g n A') → fF f hi hi2 → K none hi2 hl) → Wp u 16 7 [.ref f, .int (nI g)] [] hi' hl K := by
    intro n
    induction n with
    | zero =>
      intro g A' hi' e e68 hp fr h
      refine wv (by decide) ?_
      simp (disch := omega) only [b_F_startDay_0, b_F_startDay_7, b_F_startDay_15, b_F_startDay_24, b_F_startDay_30, true_and, and_true, true_implies, false_implies, not_true_eq_false, not_false_eq_true, eq_self, or_true, true_or, false_or, or_false, false_and, and_false, Option.toList_some, Option.toList_none, List.cons_append, List.nil_append, n10, n01, e10, e01, e08, e18, e28, e38, e48, e58, e68, e78, lt_lit, nI_add, pk_mul, n_le, n_lt, n_eq, n_cl, n_in, n_sub, n_div, n_rem, n_ite, Nat.zero_add, F_k hf, F_k1 hf, F_l1 hf, F_r0 hf, F_r1 hf, F_k2 hf, F_l2 hf, F_rg hf, F_kg hf, Fp.s2 hp, Fp.s3 hp, Fp.s4 hp, Fp.s5 hp, Fp.s6 hp, Fp.p hp, Fp.r0 hp, Fp.r1 hp, Fp.r2 hp, Fp.r3 hp, Fp.r4 hp, Fp.r5 hp, Fp.r6 hp, Fp.r7 hp]
      exact ⟨fun _ => ⟨rfl, h _ hp fr⟩, fun q => absurd (by omega) q⟩
    | succ n ih =>
      intro g A' hi' e e68 hp fr h
      refine wv (by decide) ?_
      simp (disch := omega) only [b_F_startDay_0, b_F_startDay_7, b_F_startDay_15, b_F_startDay_24, b_F_startDay_30, true_and, and_true, true_implies, false_implies, not_true_eq_false, not_false_eq_true, eq_self, or_true, true_or, false_or, or_false, false_and, and_false, Option.toList_some, Option.toList_none, List.cons_append, List.nil_append, n10, n01, e10, e01, e08, e18, e28, e38, e48, e58, e68, e78, lt_lit, nI_add, pk_mul, n_le, n_lt, n_eq, n_cl, n_in, n_sub, n_div, n_rem, n_ite, Nat.zero_add, F_k hf, F_k1 hf, F_l1 hf, F_r0 hf, F_r1 hf, F_k2 hf, F_l2 hf, F_rg hf, F_kg hf, Fp.s2 hp, Fp.s3 hp, Fp.s4 hp, Fp.s5 hp, Fp.s6 hp, Fp.p hp, Fp.r0 hp, Fp.r1 hp, Fp.r2 hp, Fp.r3 hp, Fp.r4 hp, Fp.r5 hp, Fp.r6 hp, Fp.r7 hp, u2_eq, u2_nk, u2_nh]
      refine ⟨fun q => absurd q (by omega), fun _ => ?_⟩
      refine c_goToStart (F_kg hf (by omega)) ?_
      simp (disch := omega) only [b_F_startDay_0, b_F_startDay_7, b_F_startDay_15, b_F_startDay_24, b_F_startDay_30, true_and, and_true, true_implies, false_implies, not_true_eq_false, not_false_eq_true, eq_self, or_true, true_or, false_or, or_false, false_and, and_false, Option.toList_some, Option.toList_none, List.cons_append, List.nil_append, n10, n01, e10, e01, e08, e18, e28, e38, e48, e58, e68, e78, lt_lit, nI_add, pk_mul, n_le, n_lt, n_eq, n_cl, n_in, n_sub, n_div, n_rem, n_ite, Nat.zero_add, F_k hf, F_k1 hf, F_l1 hf, F_r0 hf, F_r1 hf, F_k2 hf, F_l2 hf, F_rg hf, F_kg hf]
      exact ih (g + 1) (dayG1 A' g) _ (by omega) (by rw [dayG1_ne (by omega)]; exact e68) hp.ug2.ug6.ug7 (((fr.up (by omega)).up (by omega)).up (by omega)) (fun hi2 a b => h hi2 a b)
  refine i_F_startDay ?_
  simp (disch := omega) only [b_F_startDay_0, b_F_startDay_7, b_F_startDay_15, b_F_startDay_24, b_F_startDay_30, true_and, and_true, true_implies, false_implies, not_true_eq_false, not_false_eq_true, eq_self, or_true, true_or, false_or, or_false, false_and, and_false, Option.toList_some, Option.toList_none, List.cons_append, List.nil_append, n10, n01, e10, e01, e08, e18, e28, e38, e48, e58, e68, e78, lt_lit, nI_add, pk_mul, n_le, n_lt, n_eq, n_cl, n_in, n_sub, n_div, n_rem, n_ite, Nat.zero_add, F_k hf, F_k1 hf, F_l1 hf, F_r0 hf, F_r1 hf, F_k2 hf, F_l2 hf, F_rg hf, F_kg hf]
  exact loop (A 68) 0 (up A 64 0) _ (by omega) (by rw [up_ne _ (by omega)]) hp.up4 ((fF.refl f hi).up (by omega)) h
end F5
section M9
variable {u : UV} {hi : HI} {hl : HL} {K : Option Value → HI → HL → Prop} {A : Nat → Nat} {B : Nat}
theorem c_mrain (hr : Mr hi A) (ok : rowOk B A) (hB : B < 100000000) (h : ∀ hi', Mr hi' (rainN A) → fM hi hi' → K (some (.int (nI (goneN A)))) hi' hl) : Call u 155 [.ref 51] hi hl K := by
  have o6 := ok.2.2.2.2.2.1
  have loop2 : ∀ n g t A' hi' l3, g + n = A 68 → A' 68 = A 68 → t ≤ 1280 + 10000000 * g → Mr hi' A' → rowOk B A' → fM hi hi' → (∀ hi2, Mr hi2 (rainG g n A') → fM hi hi2 → K (some (.int (nI (t + goneG g n A')))) hi2 hl) → Wp u 155 45 [.ref 51, .int (nI t), .int (nI g), l3] [] hi' hl K := by
    intro n
    induction n with
    | zero =>
      intro g t A' hi' l3 e e68 ht hp ok fr h
      have hr' : ∀ k, k < 69 + 8 * A' 68 → hi' 52 k = nI (A' k) := hp
      refine wv (by decide) ?_
      simp (disch := omega) only [b_M_rain_0, b_M_rain_4, b_M_rain_10, b_M_rain_43, b_M_rain_45, b_M_rain_56, b_M_rain_62, b_M_rain_75, b_M_rain_89, b_M_rain_97, b_M_rain_112, true_and, and_true, true_implies, false_implies, not_true_eq_false, not_false_eq_true, eq_self, or_true, true_or, false_or, or_false, false_and, and_false, Option.toList_some, Option.toList_none, List.cons_append, List.nil_append, n10, n01, e10, e01, e08, e18, e28, e38, e48, e58, e68, e78, lt_lit, nI_add, pk_mul, n_le, n_lt, n_eq, n_cl, n_in, n_sub, n_div, n_rem, n_ite, Nat.zero_add, r_51_0, r_51_1, r_51_2, r_51_4, r_51_6, r_51_13, r_51_14, r_51_18, r_51_19, r_51_20, r_51_21, k_51, k_52, k_53, k_54, k_55, k_56, k_57, k_58, k_59, k_60, k_61, k_62, n_52, n_53, n_54, n_55, n_56, n_57, n_58, n_59, n_60, n_61, n_62, hr']
      exact ⟨fun _ => h _ hp fr, fun q => absurd (by omega) q⟩
    | succ n ih =>
      intro g t A' hi' l3 e e68 ht hp ok fr h
      have hr' : ∀ k, k < 69 + 8 * A' 68 → hi' 52 k = nI (A' k) := hp
      obtain ⟨g1, g2, g3, g4, g5, g6, g7, g8⟩ := ok.2.2.2.2.2.2 g (by omega)
      refine wv (by decide) ?_
      simp (disch := omega) only [b_M_rain_0, b_M_rain_4, b_M_rain_10, b_M_rain_43, b_M_rain_45, b_M_rain_56, b_M_rain_62, b_M_rain_75, b_M_rain_89, b_M_rain_97, b_M_rain_112, true_and, and_true, true_implies, false_implies, not_true_eq_false, not_false_eq_true, eq_self, or_true, true_or, false_or, or_false, false_and, and_false, Option.toList_some, Option.toList_none, List.cons_append, List.nil_append, n10, n01, e10, e01, e08, e18, e28, e38, e48, e58, e68, e78, lt_lit, nI_add, pk_mul, n_le, n_lt, n_eq, n_cl, n_in, n_sub, n_div, n_rem, n_ite, Nat.zero_add, r_51_0, r_51_1, r_51_2, r_51_4, r_51_6, r_51_13, r_51_14, r_51_18, r_51_19, r_51_20, r_51_21, k_51, k_52, k_53, k_54, k_55, k_56, k_57, k_58, k_59, k_60, k_61, k_62, n_52, n_53, n_54, n_55, n_56, n_57, n_58, n_59, n_60, n_61, n_62, hr']
      refine ⟨fun q => absurd q (by omega), fun _ => ?_⟩
      refine c_gleanerIs hp (by omega) (by omega) (by omega) ?_
      simp (disch := omega) only [b_M_rain_0, b_M_rain_4, b_M_rain_10, b_M_rain_43, b_M_rain_45, b_M_rain_56, b_M_rain_62, b_M_rain_75, b_M_rain_89, b_M_rain_97, b_M_rain_112, true_and, and_true, true_implies, false_implies, not_true_eq_false, not_false_eq_true, eq_self, or_true, true_or, false_or, or_false, false_and, and_false, Option.toList_some, Option.toList_none, List.cons_append, List.nil_append, n10, n01, e10, e01, e08, e18, e28, e38, e48, e58, e68, e78, lt_lit, nI_add, pk_mul, n_le, n_lt, n_eq, n_cl, n_in, n_sub, n_div, n_rem, n_ite, Nat.zero_add, r_51_0, r_51_1, r_51_2, r_51_4, r_51_6, r_51_13, r_51_14, r_51_18, r_51_19, r_51_20, r_51_21, k_51, k_52, k_53, k_54, k_55, k_56, k_57, k_58, k_59, k_60, k_61, k_62, n_52, n_53, n_54, n_55, n_56, n_57, n_58, n_59, n_60, n_61, n_62, hr', ix1, ix2, ix3, ix4, ix5, ix6, ix7, Nat.add_zero, ofn, x88]
      refine ⟨by omega, ?_⟩
      refine c_at (by omega) (by omega) ?_
      simp (disch := omega) only [b_M_rain_0, b_M_rain_4, b_M_rain_10, b_M_rain_43, b_M_rain_45, b_M_rain_56, b_M_rain_62, b_M_rain_75, b_M_rain_89, b_M_rain_97, b_M_rain_112, true_and, and_true, true_implies, false_implies, not_true_eq_false, not_false_eq_true, eq_self, or_true, true_or, false_or, or_false, false_and, and_false, Option.toList_some, Option.toList_none, List.cons_append, List.nil_append, n10, n01, e10, e01, e08, e18, e28, e38, e48, e58, e68, e78, lt_lit, nI_add, pk_mul, n_le, n_lt, n_eq, n_cl, n_in, n_sub, n_div, n_rem, n_ite, Nat.zero_add, r_51_0, r_51_1, r_51_2, r_51_4, r_51_6, r_51_13, r_51_14, r_51_18, r_51_19, r_51_20, r_51_21, k_51, k_52, k_53, k_54, k_55, k_56, k_57, k_58, k_59, k_60, k_61, k_62, n_52, n_53, n_54, n_55, n_56, n_57, n_58, n_59, n_60, n_61, n_62, hr', ix1, ix2, ix3, ix4, ix5, ix6, ix7, Nat.add_zero, ofn, x88]
      refine c_at (by omega) (by omega) ?_
      have hp2 := hp.up (k := 73 + 8 * g) (v := A' (73 + 8 * g) - A' (73 + 8 * g) / 10) (by omega)
      have q68 : up A' (73 + 8 * g) (A' (73 + 8 * g) - A' (73 + 8 * g) / 10) 68 = A 68 := by rw [up_ne _ (by omega)]; exact e68
      simp (disch := omega) only [b_M_rain_0, b_M_rain_4, b_M_rain_10, b_M_rain_43, b_M_rain_45, b_M_rain_56, b_M_rain_62, b_M_rain_75, b_M_rain_89, b_M_rain_97, b_M_rain_112, true_and, and_true, true_implies, false_implies, not_true_eq_false, not_false_eq_true, eq_self, or_true, true_or, false_or, or_false, false_and, and_false, Option.toList_some, Option.toList_none, List.cons_append, List.nil_append, n10, n01, e10, e01, e08, e18, e28, e38, e48, e58, e68, e78, lt_lit, nI_add, pk_mul, n_le, n_lt, n_eq, n_cl, n_in, n_sub, n_div, n_rem, n_ite, Nat.zero_add, r_51_0, r_51_1, r_51_2, r_51_4, r_51_6, r_51_13, r_51_14, r_51_18, r_51_19, r_51_20, r_51_21, k_51, k_52, k_53, k_54, k_55, k_56, k_57, k_58, k_59, k_60, k_61, k_62, n_52, n_53, n_54, n_55, n_56, n_57, n_58, n_59, n_60, n_61, n_62, hr', ix1, ix2, ix3, ix4, ix5, ix6, ix7, Nat.add_zero, ofn, x88, u2_eq, u2_nk, u2_nh]
      refine c_gleanerIs hp2 (by omega) (by omega) (by omega) ?_
      simp (disch := omega) only [b_M_rain_0, b_M_rain_4, b_M_rain_10, b_M_rain_43, b_M_rain_45, b_M_rain_56, b_M_rain_62, b_M_rain_75, b_M_rain_89, b_M_rain_97, b_M_rain_112, true_and, and_true, true_implies, false_implies, not_true_eq_false, not_false_eq_true, eq_self, or_true, true_or, false_or, or_false, false_and, and_false, Option.toList_some, Option.toList_none, List.cons_append, List.nil_append, n10, n01, e10, e01, e08, e18, e28, e38, e48, e58, e68, e78, lt_lit, nI_add, pk_mul, n_le, n_lt, n_eq, n_cl, n_in, n_sub, n_div, n_rem, n_ite, Nat.zero_add, r_51_0, r_51_1, r_51_2, r_51_4, r_51_6, r_51_13, r_51_14, r_51_18, r_51_19, r_51_20, r_51_21, k_51, k_52, k_53, k_54, k_55, k_56, k_57, k_58, k_59, k_60, k_61, k_62, n_52, n_53, n_54, n_55, n_56, n_57, n_58, n_59, n_60, n_61, n_62, hr', ix1, ix2, ix3, ix4, ix5, ix6, ix7, Nat.add_zero, ofn, x88, u2_eq, u2_nk, u2_nh, up_ne]
      refine ⟨by omega, ?_⟩
      refine ih (g + 1) _ (rainG1 A' g) _ _ (by omega) (by rw [rainG1_ne (by omega)]; exact e68) (by omega) (hp2.up (by omega)) (rainG1_ok ok (by omega)) ((fr.up _ _).up _ _) (fun hi2 a b => ?_)
      rw [rainG, goneG, ← Nat.add_assoc] at h
      exact h hi2 a b
  have loop1 : ∀ n k t A' hi' l3, k + n = 64 → A' 68 = A 68 → t ≤ 20 * k → Mr hi' A' → rowOk B A' → fM hi hi' → (∀ hi2, Mr hi2 (rainG 0 (A 68) (rainP k n A')) → fM hi hi2 → K (some (.int (nI (t + goneP k n A' + goneG 0 (A 68) (rainP k n A'))))) hi2 hl) → Wp u 155 4 [.ref 51, .int (nI t), .int (nI k), l3] [] hi' hl K := by
    intro n
    induction n with
    | zero =>
      intro k t A' hi' l3 e e68 ht hp ok fr h
      refine wv (by decide) ?_
      simp (disch := omega) only [b_M_rain_0, b_M_rain_4, b_M_rain_10, b_M_rain_43, b_M_rain_45, b_M_rain_56, b_M_rain_62, b_M_rain_75, b_M_rain_89, b_M_rain_97, b_M_rain_112, true_and, and_true, true_implies, false_implies, not_true_eq_false, not_false_eq_true, eq_self, or_true, true_or, false_or, or_false, false_and, and_false, Option.toList_some, Option.toList_none, List.cons_append, List.nil_append, n10, n01, e10, e01, e08, e18, e28, e38, e48, e58, e68, e78, lt_lit, nI_add, pk_mul, n_le, n_lt, n_eq, n_cl, n_in, n_sub, n_div, n_rem, n_ite, Nat.zero_add, r_51_0, r_51_1, r_51_2, r_51_4, r_51_6, r_51_13, r_51_14, r_51_18, r_51_19, r_51_20, r_51_21, k_51, k_52, k_53, k_54, k_55, k_56, k_57, k_58, k_59, k_60, k_61, k_62, n_52, n_53, n_54, n_55, n_56, n_57, n_58, n_59, n_60, n_61, n_62]
      exact ⟨fun _ => loop2 (A 68) 0 t A' hi' _ (by omega) e68 (by omega) hp ok fr h, fun q => absurd (by omega) q⟩
    | succ n ih =>
      intro k t A' hi' l3 e e68 ht hp ok fr h
      have hr' : ∀ k, k < 69 + 8 * A' 68 → hi' 52 k = nI (A' k) := hp
      have h9 := ok.1 k (by omega)
      refine wv (by decide) ?_
      simp (disch := omega) only [b_M_rain_0, b_M_rain_4, b_M_rain_10, b_M_rain_43, b_M_rain_45, b_M_rain_56, b_M_rain_62, b_M_rain_75, b_M_rain_89, b_M_rain_97, b_M_rain_112, true_and, and_true, true_implies, false_implies, not_true_eq_false, not_false_eq_true, eq_self, or_true, true_or, false_or, or_false, false_and, and_false, Option.toList_some, Option.toList_none, List.cons_append, List.nil_append, n10, n01, e10, e01, e08, e18, e28, e38, e48, e58, e68, e78, lt_lit, nI_add, pk_mul, n_le, n_lt, n_eq, n_cl, n_in, n_sub, n_div, n_rem, n_ite, Nat.zero_add, r_51_0, r_51_1, r_51_2, r_51_4, r_51_6, r_51_13, r_51_14, r_51_18, r_51_19, r_51_20, r_51_21, k_51, k_52, k_53, k_54, k_55, k_56, k_57, k_58, k_59, k_60, k_61, k_62, n_52, n_53, n_54, n_55, n_56, n_57, n_58, n_59, n_60, n_61, n_62, hr']
      refine ⟨fun q => absurd q (by omega), fun _ => ⟨by omega, ?_⟩⟩
      refine ih (k + 1) _ (up A' k (A' k - A' k / 5)) _ _ (by omega) (by rw [up_ne _ (by omega)]; exact e68) (by omega) (hp.up (by omega)) (ok.up_lo (by omega) (by omega)) (fr.up _ _) (fun hi2 a b => ?_)
      rw [rainP, goneP, ← Nat.add_assoc] at h
      exact h hi2 a b
  refine i_M_rain ?_
  simp (disch := omega) only [b_M_rain_0, b_M_rain_4, b_M_rain_10, b_M_rain_43, b_M_rain_45, b_M_rain_56, b_M_rain_62, b_M_rain_75, b_M_rain_89, b_M_rain_97, b_M_rain_112, true_and, and_true, true_implies, false_implies, not_true_eq_false, not_false_eq_true, eq_self, or_true, true_or, false_or, or_false, false_and, and_false, Option.toList_some, Option.toList_none, List.cons_append, List.nil_append, n10, n01, e10, e01, e08, e18, e28, e38, e48, e58, e68, e78, lt_lit, nI_add, pk_mul, n_le, n_lt, n_eq, n_cl, n_in, n_sub, n_div, n_rem, n_ite, Nat.zero_add, r_51_0, r_51_1, r_51_2, r_51_4, r_51_6, r_51_13, r_51_14, r_51_18, r_51_19, r_51_20, r_51_21, k_51, k_52, k_53, k_54, k_55, k_56, k_57, k_58, k_59, k_60, k_61, k_62, n_52, n_53, n_54, n_55, n_56, n_57, n_58, n_59, n_60, n_61, n_62]
  refine loop1 64 0 0 A hi _ (by omega) rfl (by omega) hr ok (fM.refl hi) (fun hi2 a b => ?_)
  rw [Nat.zero_add]; exact h hi2 a b
theorem c_doneOnes (hr : Mr hi A) (ok : rowOk B A) (h : K (some (.int (nI (dnN A)))) hi hl) : Call u 156 [.ref 51] hi hl K := by
  have o6 := ok.2.2.2.2.2.1
  have hr' : ∀ k, k < 69 + 8 * A 68 → hi 52 k = nI (A k) := hr
  have loop : ∀ n g s, g + n = A 68 → s ≤ g → K (some (.int (nI (s + smN (fun g => A (76 + 8 * g)) g n)))) hi hl → Wp u 156 4 [.ref 51, .int (nI s), .int (nI g)] [] hi hl K := by
    intro n
    induction n with
    | zero =>
      intro g s e hs h
      refine wv (by decide) ?_
      simp (disch := omega) only [b_M_doneOnes_0, b_M_doneOnes_4, b_M_doneOnes_15, b_M_doneOnes_23, b_M_doneOnes_31, true_and, and_true, true_implies, false_implies, not_true_eq_false, not_false_eq_true, eq_self, or_true, true_or, false_or, or_false, false_and, and_false, Option.toList_some, Option.toList_none, List.cons_append, List.nil_append, n10, n01, e10, e01, e08, e18, e28, e38, e48, e58, e68, e78, lt_lit, nI_add, pk_mul, n_le, n_lt, n_eq, n_cl, n_in, n_sub, n_div, n_rem, n_ite, Nat.zero_add, r_51_0, r_51_1, r_51_2, r_51_4, r_51_6, r_51_13, r_51_14, r_51_18, r_51_19, r_51_20, r_51_21, k_51, k_52, k_53, k_54, k_55, k_56, k_57, k_58, k_59, k_60, k_61, k_62, n_52, n_53, n_54, n_55, n_56, n_57, n_58, n_59, n_60, n_61, n_62, hr']
      exact ⟨fun _ => h, fun q => absurd (by omega) q⟩
    | succ n ih =>
      intro g s e hs h
      obtain ⟨g1, g2, g3, g4, g5, g6, g7, g8⟩ := ok.2.2.2.2.2.2 g (by omega)
      refine wv (by decide) ?_
      simp (disch := omega) only [b_M_doneOnes_0, b_M_doneOnes_4, b_M_doneOnes_15, b_M_doneOnes_23, b_M_doneOnes_31, true_and, and_true, true_implies, false_implies, not_true_eq_false, not_false_eq_true, eq_self, or_true, true_or, false_or, or_false, false_and, and_false, Option.toList_some, Option.toList_none, List.cons_append, List.nil_append, n10, n01, e10, e01, e08, e18, e28, e38, e48, e58, e68, e78, lt_lit, nI_add, pk_mul, n_le, n_lt, n_eq, n_cl, n_in, n_sub, n_div, n_rem, n_ite, Nat.zero_add, r_51_0, r_51_1, r_51_2, r_51_4, r_51_6, r_51_13, r_51_14, r_51_18, r_51_19, r_51_20, r_51_21, k_51, k_52, k_53, k_54, k_55, k_56, k_57, k_58, k_59, k_60, k_61, k_62, n_52, n_53, n_54, n_55, n_56, n_57, n_58, n_59, n_60, n_61, n_62, hr']
      refine ⟨fun q => absurd q (by omega), fun _ => ?_⟩
      refine c_gleanerIs hr (by omega) (by omega) (by omega) ?_
      simp (disch := omega) only [b_M_doneOnes_0, b_M_doneOnes_4, b_M_doneOnes_15, b_M_doneOnes_23, b_M_doneOnes_31, true_and, and_true, true_implies, false_implies, not_true_eq_false, not_false_eq_true, eq_self, or_true, true_or, false_or, or_false, false_and, and_false, Option.toList_some, Option.toList_none, List.cons_append, List.nil_append, n10, n01, e10, e01, e08, e18, e28, e38, e48, e58, e68, e78, lt_lit, nI_add, pk_mul, n_le, n_lt, n_eq, n_cl, n_in, n_sub, n_div, n_rem, n_ite, Nat.zero_add, r_51_0, r_51_1, r_51_2, r_51_4, r_51_6, r_51_13, r_51_14, r_51_18, r_51_19, r_51_20, r_51_21, k_51, k_52, k_53, k_54, k_55, k_56, k_57, k_58, k_59, k_60, k_61, k_62, n_52, n_53, n_54, n_55, n_56, n_57, n_58, n_59, n_60, n_61, n_62, hr', ix1, ix2, ix3, ix4, ix5, ix6, ix7, Nat.add_zero, ofn, x88]
      refine ih (g + 1) _ (by omega) (by omega) ?_
      rw [smN, ← Nat.add_assoc] at h; exact h
  refine i_M_doneOnes ?_
  simp (disch := omega) only [b_M_doneOnes_0, b_M_doneOnes_4, b_M_doneOnes_15, b_M_doneOnes_23, b_M_doneOnes_31, true_and, and_true, true_implies, false_implies, not_true_eq_false, not_false_eq_true, eq_self, or_true, true_or, false_or, or_false, false_and, and_false, Option.toList_some, Option.toList_none, List.cons_append, List.nil_append, n10, n01, e10, e01, e08, e18, e28, e38, e48, e58, e68, e78, lt_lit, nI_add, pk_mul, n_le, n_lt, n_eq, n_cl, n_in, n_sub, n_div, n_rem, n_ite, Nat.zero_add, r_51_0, r_51_1, r_51_2, r_51_4, r_51_6, r_51_13, r_51_14, r_51_18, r_51_19, r_51_20, r_51_21, k_51, k_52, k_53, k_54, k_55, k_56, k_57, k_58, k_59, k_60, k_61, k_62, n_52, n_53, n_54, n_55, n_56, n_57, n_58, n_59, n_60, n_61, n_62]
  refine loop (A 68) 0 0 (by omega) (by omega) ?_
  rw [Nat.zero_add]; exact h
theorem c_mday (hr : Mr hi A) (ok : rowOk B A) (h : ∀ hi', Mr hi' (dayN A) → fM hi hi' → K (some (.int (nI (dnN A)))) hi' hl) : Call u 157 [.ref 51] hi hl K := by
  have o6 := ok.2.2.2.2.2.1
  have loop : ∀ n g A' hi', g + n = A 68 → A' 68 = A 68 → Mr hi' A' → fM hi hi' → (∀ hi2, Mr hi2 (dayG g n A') → fM hi hi2 → K (some (.int (nI (dnN A)))) hi2 hl) → Wp u 157 15 [.ref 51, .int (nI (dnN A)), .int (nI g)] [] hi' hl K := by
    intro n
    induction n with
    | zero =>
      intro g A' hi' e e68 hp fr h
      have hr' : ∀ k, k < 69 + 8 * A' 68 → hi' 52 k = nI (A' k) := hp
      refine wv (by decide) ?_
      simp (disch := omega) only [b_M_day_0, b_M_day_4, b_M_day_15, b_M_day_26, b_M_day_35, b_M_day_47, b_M_day_59, b_M_day_67, true_and, and_true, true_implies, false_implies, not_true_eq_false, not_false_eq_true, eq_self, or_true, true_or, false_or, or_false, false_and, and_false, Option.toList_some, Option.toList_none, List.cons_append, List.nil_append, n10, n01, e10, e01, e08, e18, e28, e38, e48, e58, e68, e78, lt_lit, nI_add, pk_mul, n_le, n_lt, n_eq, n_cl, n_in, n_sub, n_div, n_rem, n_ite, Nat.zero_add, r_51_0, r_51_1, r_51_2, r_51_4, r_51_6, r_51_13, r_51_14, r_51_18, r_51_19, r_51_20, r_51_21, k_51, k_52, k_53, k_54, k_55, k_56, k_57, k_58, k_59, k_60, k_61, k_62, n_52, n_53, n_54, n_55, n_56, n_57, n_58, n_59, n_60, n_61, n_62, hr']
      exact ⟨fun _ => h _ hp fr, fun q => absurd (by omega) q⟩
    | succ n ih =>
      intro g A' hi' e e68 hp fr h
      have hr' : ∀ k, k < 69 + 8 * A' 68 → hi' 52 k = nI (A' k) := hp
      refine wv (by decide) ?_
      simp (disch := omega) only [b_M_day_0, b_M_day_4, b_M_day_15, b_M_day_26, b_M_day_35, b_M_day_47, b_M_day_59, b_M_day_67, true_and, and_true, true_implies, false_implies, not_true_eq_false, not_false_eq_true, eq_self, or_true, true_or, false_or, or_false, false_and, and_false, Option.toList_some, Option.toList_none, List.cons_append, List.nil_append, n10, n01, e10, e01, e08, e18, e28, e38, e48, e58, e68, e78, lt_lit, nI_add, pk_mul, n_le, n_lt, n_eq, n_cl, n_in, n_sub, n_div, n_rem, n_ite, Nat.zero_add, r_51_0, r_51_1, r_51_2, r_51_4, r_51_6, r_51_13, r_51_14, r_51_18, r_51_19, r_51_20, r_51_21, k_51, k_52, k_53, k_54, k_55, k_56, k_57, k_58, k_59, k_60, k_61, k_62, n_52, n_53, n_54, n_55, n_56, n_57, n_58, n_59, n_60, n_61, n_62, hr']
      refine ⟨fun q => absurd q (by omega), fun _ => ?_⟩
      refine c_at (by omega) (by omega) ?_
      simp (disch := omega) only [b_M_day_0, b_M_day_4, b_M_day_15, b_M_day_26, b_M_day_35, b_M_day_47, b_M_day_59, b_M_day_67, true_and, and_true, true_implies, false_implies, not_true_eq_false, not_false_eq_true, eq_self, or_true, true_or, false_or, or_false, false_and, and_false, Option.toList_some, Option.toList_none, List.cons_append, List.nil_append, n10, n01, e10, e01, e08, e18, e28, e38, e48, e58, e68, e78, lt_lit, nI_add, pk_mul, n_le, n_lt, n_eq, n_cl, n_in, n_sub, n_div, n_rem, n_ite, Nat.zero_add, r_51_0, r_51_1, r_51_2, r_51_4, r_51_6, r_51_13, r_51_14, r_51_18, r_51_19, r_51_20, r_51_21, k_51, k_52, k_53, k_54, k_55, k_56, k_57, k_58, k_59, k_60, k_61, k_62, n_52, n_53, n_54, n_55, n_56, n_57, n_58, n_59, n_60, n_61, n_62, hr', ix1, ix2, ix3, ix4, ix5, ix6, ix7, Nat.add_zero, ofn, x88]
      refine c_at (by omega) (by omega) ?_
      simp (disch := omega) only [b_M_day_0, b_M_day_4, b_M_day_15, b_M_day_26, b_M_day_35, b_M_day_47, b_M_day_59, b_M_day_67, true_and, and_true, true_implies, false_implies, not_true_eq_false, not_false_eq_true, eq_self, or_true, true_or, false_or, or_false, false_and, and_false, Option.toList_some, Option.toList_none, List.cons_append, List.nil_append, n10, n01, e10, e01, e08, e18, e28, e38, e48, e58, e68, e78, lt_lit, nI_add, pk_mul, n_le, n_lt, n_eq, n_cl, n_in, n_sub, n_div, n_rem, n_ite, Nat.zero_add, r_51_0, r_51_1, r_51_2, r_51_4, r_51_6, r_51_13, r_51_14, r_51_18, r_51_19, r_51_20, r_51_21, k_51, k_52, k_53, k_54, k_55, k_56, k_57, k_58, k_59, k_60, k_61, k_62, n_52, n_53, n_54, n_55, n_56, n_57, n_58, n_59, n_60, n_61, n_62, hr', ix1, ix2, ix3, ix4, ix5, ix6, ix7, Nat.add_zero, ofn, x88]
      refine c_at (by omega) (by omega) ?_
      simp (disch := omega) only [b_M_day_0, b_M_day_4, b_M_day_15, b_M_day_26, b_M_day_35, b_M_day_47, b_M_day_59, b_M_day_67, true_and, and_true, true_implies, false_implies, not_true_eq_false, not_false_eq_true, eq_self, or_true, true_or, false_or, or_false, false_and, and_false, Option.toList_some, Option.toList_none, List.cons_append, List.nil_append, n10, n01, e10, e01, e08, e18, e28, e38, e48, e58, e68, e78, lt_lit, nI_add, pk_mul, n_le, n_lt, n_eq, n_cl, n_in, n_sub, n_div, n_rem, n_ite, Nat.zero_add, r_51_0, r_51_1, r_51_2, r_51_4, r_51_6, r_51_13, r_51_14, r_51_18, r_51_19, r_51_20, r_51_21, k_51, k_52, k_53, k_54, k_55, k_56, k_57, k_58, k_59, k_60, k_61, k_62, n_52, n_53, n_54, n_55, n_56, n_57, n_58, n_59, n_60, n_61, n_62, hr', ix1, ix2, ix3, ix4, ix5, ix6, ix7, Nat.add_zero, ofn, x88]
      exact ih (g + 1) (dayG1 A' g) _ (by omega) (by rw [dayG1_ne (by omega)]; exact e68) (((hp.up (by omega)).up (by omega)).up (by omega)) (((fr.up _ _).up _ _).up _ _) (fun hi2 a b => h hi2 a b)
  refine i_M_day ?_
  simp (disch := omega) only [b_M_day_0, b_M_day_4, b_M_day_15, b_M_day_26, b_M_day_35, b_M_day_47, b_M_day_59, b_M_day_67, true_and, and_true, true_implies, false_implies, not_true_eq_false, not_false_eq_true, eq_self, or_true, true_or, false_or, or_false, false_and, and_false, Option.toList_some, Option.toList_none, List.cons_append, List.nil_append, n10, n01, e10, e01, e08, e18, e28, e38, e48, e58, e68, e78, lt_lit, nI_add, pk_mul, n_le, n_lt, n_eq, n_cl, n_in, n_sub, n_div, n_rem, n_ite, Nat.zero_add, r_51_0, r_51_1, r_51_2, r_51_4, r_51_6, r_51_13, r_51_14, r_51_18, r_51_19, r_51_20, r_51_21, k_51, k_52, k_53, k_54, k_55, k_56, k_57, k_58, k_59, k_60, k_61, k_62, n_52, n_53, n_54, n_55, n_56, n_57, n_58, n_59, n_60, n_61, n_62]
  refine c_doneOnes hr ok ?_
  simp (disch := omega) only [b_M_day_0, b_M_day_4, b_M_day_15, b_M_day_26, b_M_day_35, b_M_day_47, b_M_day_59, b_M_day_67, true_and, and_true, true_implies, false_implies, not_true_eq_false, not_false_eq_true, eq_self, or_true, true_or, false_or, or_false, false_and, and_false, Option.toList_some, Option.toList_none, List.cons_append, List.nil_append, n10, n01, e10, e01, e08, e18, e28, e38, e48, e58, e68, e78, lt_lit, nI_add, pk_mul, n_le, n_lt, n_eq, n_cl, n_in, n_sub, n_div, n_rem, n_ite, Nat.zero_add, r_51_0, r_51_1, r_51_2, r_51_4, r_51_6, r_51_13, r_51_14, r_51_18, r_51_19, r_51_20, r_51_21, k_51, k_52, k_53, k_54, k_55, k_56, k_57, k_58, k_59, k_60, k_61, k_62, n_52, n_53, n_54, n_55, n_56, n_57, n_58, n_59, n_60, n_61, n_62]
  exact loop (A 68) 0 (up A 64 0) _ (by omega) (by rw [up_ne _ (by omega)]) (hr.up (by omega)) ((fM.refl hi).up _ _) h
theorem c_manyOf {w : Nat} (hw : w < 5) (hr : Mr hi A) (ok : rowOk B A) (h : K (some (.int (nI (cntH A w)))) hi hl) : Call u 177 [.ref 51, .int (nI w)] hi hl K := by
  have o6 := ok.2.2.2.2.2.1
  have hr' : ∀ k, k < 69 + 8 * A 68 → hi 52 k = nI (A k) := hr
  have loop : ∀ n g s, g + n = A 68 → s ≤ g → K (some (.int (nI (s + smN (fun g => if A (72 + 8 * g) = w then 1 else 0) g n)))) hi hl → Wp u 177 4 [.ref 51, .int (nI w), .int (nI s), .int (nI g)] [] hi hl K := by
    intro n
    induction n with
    | zero =>
      intro g s e hs h
      refine wv (by decide) ?_
      simp (disch := omega) only [b_M_manyOf_0, b_M_manyOf_4, b_M_manyOf_15, b_M_manyOf_22, b_M_manyOf_26, b_M_manyOf_30, b_M_manyOf_31, b_M_manyOf_39, true_and, and_true, true_implies, false_implies, not_true_eq_false, not_false_eq_true, eq_self, or_true, true_or, false_or, or_false, false_and, and_false, Option.toList_some, Option.toList_none, List.cons_append, List.nil_append, n10, n01, e10, e01, e08, e18, e28, e38, e48, e58, e68, e78, lt_lit, nI_add, pk_mul, n_le, n_lt, n_eq, n_cl, n_in, n_sub, n_div, n_rem, n_ite, Nat.zero_add, r_51_0, r_51_1, r_51_2, r_51_4, r_51_6, r_51_13, r_51_14, r_51_18, r_51_19, r_51_20, r_51_21, k_51, k_52, k_53, k_54, k_55, k_56, k_57, k_58, k_59, k_60, k_61, k_62, n_52, n_53, n_54, n_55, n_56, n_57, n_58, n_59, n_60, n_61, n_62, hr']
      exact ⟨fun _ => h, fun q => absurd (by omega) q⟩
    | succ n ih =>
      intro g s e hs h
      obtain ⟨g1, g2, g3, g4, g5, g6, g7, g8⟩ := ok.2.2.2.2.2.2 g (by omega)
      refine wv (by decide) ?_
      simp (disch := omega) only [b_M_manyOf_0, b_M_manyOf_4, b_M_manyOf_15, b_M_manyOf_22, b_M_manyOf_26, b_M_manyOf_30, b_M_manyOf_31, b_M_manyOf_39, true_and, and_true, true_implies, false_implies, not_true_eq_false, not_false_eq_true, eq_self, or_true, true_or, false_or, or_false, false_and, and_false, Option.toList_some, Option.toList_none, List.cons_append, List.nil_append, n10, n01, e10, e01, e08, e18, e28, e38, e48, e58, e68, e78, lt_lit, nI_add, pk_mul, n_le, n_lt, n_eq, n_cl, n_in, n_sub, n_div, n_rem, n_ite, Nat.zero_add, r_51_0, r_51_1, r_51_2, r_51_4, r_51_6, r_51_13, r_51_14, r_51_18, r_51_19, r_51_20, r_51_21, k_51, k_52, k_53, k_54, k_55, k_56, k_57, k_58, k_59, k_60, k_61, k_62, n_52, n_53, n_54, n_55, n_56, n_57, n_58, n_59, n_60, n_61, n_62, hr']
      refine ⟨fun q => absurd q (by omega), fun _ => ?_⟩
      refine c_gleanerIs hr (by omega) (by omega) (by omega) ?_
      simp (disch := omega) only [b_M_manyOf_0, b_M_manyOf_4, b_M_manyOf_15, b_M_manyOf_22, b_M_manyOf_26, b_M_manyOf_30, b_M_manyOf_31, b_M_manyOf_39, true_and, and_true, true_implies, false_implies, not_true_eq_false, not_false_eq_true, eq_self, or_true, true_or, false_or, or_false, false_and, and_false, Option.toList_some, Option.toList_none, List.cons_append, List.nil_append, n10, n01, e10, e01, e08, e18, e28, e38, e48, e58, e68, e78, lt_lit, nI_add, pk_mul, n_le, n_lt, n_eq, n_cl, n_in, n_sub, n_div, n_rem, n_ite, Nat.zero_add, r_51_0, r_51_1, r_51_2, r_51_4, r_51_6, r_51_13, r_51_14, r_51_18, r_51_19, r_51_20, r_51_21, k_51, k_52, k_53, k_54, k_55, k_56, k_57, k_58, k_59, k_60, k_61, k_62, n_52, n_53, n_54, n_55, n_56, n_57, n_58, n_59, n_60, n_61, n_62, hr', ix1, ix2, ix3, ix4, ix5, ix6, ix7, Nat.add_zero, ofn, x88]
      refine ⟨fun q => ?_, fun q => ?_⟩
      · refine ih (g + 1) s (by omega) (by omega) ?_
        simp only [smN, if_neg q, Nat.zero_add] at h; exact h
      · refine ih (g + 1) _ (by omega) (by omega) ?_
        simp only [smN, if_pos q] at h; rw [← Nat.add_assoc] at h; exact h
  refine i_M_manyOf ?_
  simp (disch := omega) only [b_M_manyOf_0, b_M_manyOf_4, b_M_manyOf_15, b_M_manyOf_22, b_M_manyOf_26, b_M_manyOf_30, b_M_manyOf_31, b_M_manyOf_39, true_and, and_true, true_implies, false_implies, not_true_eq_false, not_false_eq_true, eq_self, or_true, true_or, false_or, or_false, false_and, and_false, Option.toList_some, Option.toList_none, List.cons_append, List.nil_append, n10, n01, e10, e01, e08, e18, e28, e38, e48, e58, e68, e78, lt_lit, nI_add, pk_mul, n_le, n_lt, n_eq, n_cl, n_in, n_sub, n_div, n_rem, n_ite, Nat.zero_add, r_51_0, r_51_1, r_51_2, r_51_4, r_51_6, r_51_13, r_51_14, r_51_18, r_51_19, r_51_20, r_51_21, k_51, k_52, k_53, k_54, k_55, k_56, k_57, k_58, k_59, k_60, k_61, k_62, n_52, n_53, n_54, n_55, n_56, n_57, n_58, n_59, n_60, n_61, n_62]
  refine loop (A 68) 0 0 (by omega) (by omega) ?_
  rw [Nat.zero_add]; exact h
theorem c_bundlesOf {w : Nat} (hw : w < 5) (hr : Mr hi A) (ok : rowOk B A) (hB : B < 100000000) (h : K (some (.int (nI (bunH A w)))) hi hl) : Call u 178 [.ref 51, .int (nI w)] hi hl K := by
  have o6 := ok.2.2.2.2.2.1
  have hr' : ∀ k, k < 69 + 8 * A 68 → hi 52 k = nI (A k) := hr
  have loop : ∀ n g s, g + n = A 68 → s ≤ 100000000 * g → K (some (.int (nI (s + smN (fun g => if A (72 + 8 * g) = w then A (73 + 8 * g) else 0) g n)))) hi hl → Wp u 178 4 [.ref 51, .int (nI w), .int (nI s), .int (nI g)] [] hi hl K := by
    intro n
    induction n with
    | zero =>
      intro g s e hs h
      refine wv (by decide) ?_
      simp (disch := omega) only [b_M_bundlesOf_0, b_M_bundlesOf_4, b_M_bundlesOf_15, b_M_bundlesOf_22, b_M_bundlesOf_26, b_M_bundlesOf_32, b_M_bundlesOf_35, b_M_bundlesOf_36, b_M_bundlesOf_44, true_and, and_true, true_implies, false_implies, not_true_eq_false, not_false_eq_true, eq_self, or_true, true_or, false_or, or_false, false_and, and_false, Option.toList_some, Option.toList_none, List.cons_append, List.nil_append, n10, n01, e10, e01, e08, e18, e28, e38, e48, e58, e68, e78, lt_lit, nI_add, pk_mul, n_le, n_lt, n_eq, n_cl, n_in, n_sub, n_div, n_rem, n_ite, Nat.zero_add, r_51_0, r_51_1, r_51_2, r_51_4, r_51_6, r_51_13, r_51_14, r_51_18, r_51_19, r_51_20, r_51_21, k_51, k_52, k_53, k_54, k_55, k_56, k_57, k_58, k_59, k_60, k_61, k_62, n_52, n_53, n_54, n_55, n_56, n_57, n_58, n_59, n_60, n_61, n_62, hr']
      exact ⟨fun _ => h, fun q => absurd (by omega) q⟩
    | succ n ih =>
      intro g s e hs h
      obtain ⟨g1, g2, g3, g4, g5, g6, g7, g8⟩ := ok.2.2.2.2.2.2 g (by omega)
      refine wv (by decide) ?_
      simp (disch := omega) only [b_M_bundlesOf_0, b_M_bundlesOf_4, b_M_bundlesOf_15, b_M_bundlesOf_22, b_M_bundlesOf_26, b_M_bundlesOf_32, b_M_bundlesOf_35, b_M_bundlesOf_36, b_M_bundlesOf_44, true_and, and_true, true_implies, false_implies, not_true_eq_false, not_false_eq_true, eq_self, or_true, true_or, false_or, or_false, false_and, and_false, Option.toList_some, Option.toList_none, List.cons_append, List.nil_append, n10, n01, e10, e01, e08, e18, e28, e38, e48, e58, e68, e78, lt_lit, nI_add, pk_mul, n_le, n_lt, n_eq, n_cl, n_in, n_sub, n_div, n_rem, n_ite, Nat.zero_add, r_51_0, r_51_1, r_51_2, r_51_4, r_51_6, r_51_13, r_51_14, r_51_18, r_51_19, r_51_20, r_51_21, k_51, k_52, k_53, k_54, k_55, k_56, k_57, k_58, k_59, k_60, k_61, k_62, n_52, n_53, n_54, n_55, n_56, n_57, n_58, n_59, n_60, n_61, n_62, hr']
      refine ⟨fun q => absurd q (by omega), fun _ => ?_⟩
      refine c_gleanerIs hr (by omega) (by omega) (by omega) ?_
      simp (disch := omega) only [b_M_bundlesOf_0, b_M_bundlesOf_4, b_M_bundlesOf_15, b_M_bundlesOf_22, b_M_bundlesOf_26, b_M_bundlesOf_32, b_M_bundlesOf_35, b_M_bundlesOf_36, b_M_bundlesOf_44, true_and, and_true, true_implies, false_implies, not_true_eq_false, not_false_eq_true, eq_self, or_true, true_or, false_or, or_false, false_and, and_false, Option.toList_some, Option.toList_none, List.cons_append, List.nil_append, n10, n01, e10, e01, e08, e18, e28, e38, e48, e58, e68, e78, lt_lit, nI_add, pk_mul, n_le, n_lt, n_eq, n_cl, n_in, n_sub, n_div, n_rem, n_ite, Nat.zero_add, r_51_0, r_51_1, r_51_2, r_51_4, r_51_6, r_51_13, r_51_14, r_51_18, r_51_19, r_51_20, r_51_21, k_51, k_52, k_53, k_54, k_55, k_56, k_57, k_58, k_59, k_60, k_61, k_62, n_52, n_53, n_54, n_55, n_56, n_57, n_58, n_59, n_60, n_61, n_62, hr', ix1, ix2, ix3, ix4, ix5, ix6, ix7, Nat.add_zero, ofn, x88]
      refine ⟨fun q => ?_, fun q => ?_⟩
      · refine ih (g + 1) s (by omega) (by omega) ?_
        simp only [smN, if_neg q, Nat.zero_add] at h; exact h
      · refine c_gleanerIs hr (by omega) (by omega) (by omega) ?_
        simp (disch := omega) only [b_M_bundlesOf_0, b_M_bundlesOf_4, b_M_bundlesOf_15, b_M_bundlesOf_22, b_M_bundlesOf_26, b_M_bundlesOf_32, b_M_bundlesOf_35, b_M_bundlesOf_36, b_M_bundlesOf_44, true_and, and_true, true_implies, false_implies, not_true_eq_false, not_false_eq_true, eq_self, or_true, true_or, false_or, or_false, false_and, and_false, Option.toList_some, Option.toList_none, List.cons_append, List.nil_append, n10, n01, e10, e01, e08, e18, e28, e38, e48, e58, e68, e78, lt_lit, nI_add, pk_mul, n_le, n_lt, n_eq, n_cl, n_in, n_sub, n_div, n_rem, n_ite, Nat.zero_add, r_51_0, r_51_1, r_51_2, r_51_4, r_51_6, r_51_13, r_51_14, r_51_18, r_51_19, r_51_20, r_51_21, k_51, k_52, k_53, k_54, k_55, k_56, k_57, k_58, k_59, k_60, k_61, k_62, n_52, n_53, n_54, n_55, n_56, n_57, n_58, n_59, n_60, n_61, n_62, hr', ix1, ix2, ix3, ix4, ix5, ix6, ix7, Nat.add_zero, ofn, x88]
        refine ih (g + 1) _ (by omega) (by omega) ?_
        simp only [smN, if_pos q] at h; rw [← Nat.add_assoc] at h; exact h
  refine i_M_bundlesOf ?_
  simp (disch := omega) only [b_M_bundlesOf_0, b_M_bundlesOf_4, b_M_bundlesOf_15, b_M_bundlesOf_22, b_M_bundlesOf_26, b_M_bundlesOf_32, b_M_bundlesOf_35, b_M_bundlesOf_36, b_M_bundlesOf_44, true_and, and_true, true_implies, false_implies, not_true_eq_false, not_false_eq_true, eq_self, or_true, true_or, false_or, or_false, false_and, and_false, Option.toList_some, Option.toList_none, List.cons_append, List.nil_append, n10, n01, e10, e01, e08, e18, e28, e38, e48, e58, e68, e78, lt_lit, nI_add, pk_mul, n_le, n_lt, n_eq, n_cl, n_in, n_sub, n_div, n_rem, n_ite, Nat.zero_add, r_51_0, r_51_1, r_51_2, r_51_4, r_51_6, r_51_13, r_51_14, r_51_18, r_51_19, r_51_20, r_51_21, k_51, k_52, k_53, k_54, k_55, k_56, k_57, k_58, k_59, k_60, k_61, k_62, n_52, n_53, n_54, n_55, n_56, n_57, n_58, n_59, n_60, n_61, n_62]
  refine loop (A 68) 0 0 (by omega) (by omega) ?_
  rw [Nat.zero_add]; exact h
end M9
