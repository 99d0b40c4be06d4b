theorem smN_app (p : Nat → Nat) (m : Nat) : ∀ (a n : Nat), smN p a (m + n) = smN p a m + smN p (a + m) n := by
  induction m with
  | zero => intro a n; rw [Nat.zero_add, smN, Nat.zero_add, Nat.add_zero]
  | succ m ih => intro a n; rw [show m + 1 + n = (m + n) + 1 by omega, smN, smN, ih, show a + 1 + m = a + (m + 1) by omega, Nat.add_assoc]
theorem smN_le (p : Nat → Nat) (c : Nat) (n : Nat) : ∀ (a : Nat), (∀ k, a ≤ k → k < a + n → p k ≤ c) → smN p a n ≤ c * n := by
  induction n with
  | zero => intro a _; exact Nat.zero_le _
  | succ n ih =>
    intro a h
    have h1 := h a (Nat.le_refl _) (by omega)
    have h2 := ih (a + 1) (fun k x y => h k (by omega) (by omega))
    rw [smN, Nat.mul_add, Nat.mul_one]
    omega
theorem smN_cong {p q : Nat → Nat} (n : Nat) : ∀ (a : Nat), (∀ k, a ≤ k → k < a + n → p k = q k) → smN p a n = smN q a n := by
  induction n with
  | zero => intro a _; rfl
  | succ n ih => intro a h; rw [smN, smN, h a (Nat.le_refl _) (by omega), ih (a + 1) (fun k x y => h k (by omega) (by omega))]
def bunN (A : Nat → Nat) : Nat := smN (fun g => A (73 + 8 * g)) 0 (A 68)
def cutN (A : Nat → Nat) : Nat := smN (fun g => A (74 + 8 * g)) 0 (A 68)
def dnN (A : Nat → Nat) : Nat := smN (fun g => A (76 + 8 * g)) 0 (A 68)
def cntH (A : Nat → Nat) (h : Nat) : Nat := smN (fun g => if A (72 + 8 * g) = h then 1 else 0) 0 (A 68)
def bunH (A : Nat → Nat) (h : Nat) : Nat := smN (fun g => if A (72 + 8 * g) = h then A (73 + 8 * g) else 0) 0 (A 68)
def shH (A : Nat → Nat) (h : Nat) : Nat := if cntH A h = 0 then 0 else bunH A h / cntH A h
def fillN (A : Nat → Nat) (v : Nat) : Nat → Nat := fun k => if k < 64 then v else A k
def addN (A : Nat → Nat) (k r p h b : Nat) : Nat → Nat := fun j =>
  if j = 68 then A 68 + 1 else if j = 69 + 8 * A 68 then k else if j = 70 + 8 * A 68 then r else if j = 71 + 8 * A 68 then p else if j = 72 + 8 * A 68 then h else if j = 73 + 8 * A 68 then 0 else if j = 74 + 8 * A 68 then 0 else if j = 75 + 8 * A 68 then b else if j = 76 + 8 * A 68 then 0 else A j
section F3
variable {u : UV} {hi : HI} {hl : HL} {K : Option Value → HI → HL → Prop} {A : Nat → Nat} {B f : Nat}
theorem c_earsOfRow {r : Nat} (hf : isF f) (hp : Fp hi f A) (hok : ∀ k, k < 64 → A k ≤ 99) (hr8 : r < 8) (h : K (some (.int (nI (smN A (8 * r) 8)))) hi hl) : Call u 3 [.ref f, .int (nI r)] hi hl K := by
  have loop : ∀ n p s, p + n = 8 → s ≤ 100 * p → K (some (.int (nI (s + smN A (8 * r + p) n)))) hi hl → Wp u 3 4 [.ref f, .int (nI r), .int (nI s), .int (nI p)] [] hi hl K := by
    intro n
    induction n with
    | zero =>
      intro p s e hs h
      refine wv (by decide) ?_
      simp (disch := omega) only [b_F_earsOfRow_0, b_F_earsOfRow_4, b_F_earsOfRow_10, b_F_earsOfRow_17, b_F_earsOfRow_25, true_and, and_true, true_implies, false_implies, not_true_eq_false, not_false_eq_true, eq_self, or_true, true_or, false_or, or_false, false_and, and_false, Option.toList_some, Option.toList_none, List.cons_append, List.nil_append, n10, n01, e10, e01, e08, e18, e28, e38, e48, e58, e68, e78, lt_lit, nI_add, pk_mul, n_le, n_lt, n_eq, n_cl, n_in, n_sub, n_div, n_rem, n_ite, Nat.zero_add, F_k hf, F_k1 hf, F_l1 hf, F_r0 hf, F_r1 hf, F_k2 hf, F_l2 hf, F_rg hf, F_kg hf]
      exact ⟨fun _ => h, fun q => absurd (by omega) q⟩
    | succ n ih =>
      intro p s e hs h
      refine wv (by decide) ?_
      simp (disch := omega) only [b_F_earsOfRow_0, b_F_earsOfRow_4, b_F_earsOfRow_10, b_F_earsOfRow_17, b_F_earsOfRow_25, true_and, and_true, true_implies, false_implies, not_true_eq_false, not_false_eq_true, eq_self, or_true, true_or, false_or, or_false, false_and, and_false, Option.toList_some, Option.toList_none, List.cons_append, List.nil_append, n10, n01, e10, e01, e08, e18, e28, e38, e48, e58, e68, e78, lt_lit, nI_add, pk_mul, n_le, n_lt, n_eq, n_cl, n_in, n_sub, n_div, n_rem, n_ite, Nat.zero_add, F_k hf, F_k1 hf, F_l1 hf, F_r0 hf, F_r1 hf, F_k2 hf, F_l2 hf, F_rg hf, F_kg hf]
      refine ⟨fun q => absurd q (by omega), fun _ => ?_⟩
      refine c_earsAt hf hp hr8 (by omega) ?_
      simp (disch := omega) only [b_F_earsOfRow_0, b_F_earsOfRow_4, b_F_earsOfRow_10, b_F_earsOfRow_17, b_F_earsOfRow_25, true_and, and_true, true_implies, false_implies, not_true_eq_false, not_false_eq_true, eq_self, or_true, true_or, false_or, or_false, false_and, and_false, Option.toList_some, Option.toList_none, List.cons_append, List.nil_append, n10, n01, e10, e01, e08, e18, e28, e38, e48, e58, e68, e78, lt_lit, nI_add, pk_mul, n_le, n_lt, n_eq, n_cl, n_in, n_sub, n_div, n_rem, n_ite, Nat.zero_add, F_k hf, F_k1 hf, F_l1 hf, F_r0 hf, F_r1 hf, F_k2 hf, F_l2 hf, F_rg hf, F_kg hf]
      have := hok (8 * r + p) (by omega)
      refine ih (p + 1) _ (by omega) (by omega) ?_
      rw [smN, ← Nat.add_assoc] at h; exact h
  refine i_F_earsOfRow ?_
  simp (disch := omega) only [b_F_earsOfRow_0, b_F_earsOfRow_4, b_F_earsOfRow_10, b_F_earsOfRow_17, b_F_earsOfRow_25, true_and, and_true, true_implies, false_implies, not_true_eq_false, not_false_eq_true, eq_self, or_true, true_or, false_or, or_false, false_and, and_false, Option.toList_some, Option.toList_none, List.cons_append, List.nil_append, n10, n01, e10, e01, e08, e18, e28, e38, e48, e58, e68, e78, lt_lit, nI_add, pk_mul, n_le, n_lt, n_eq, n_cl, n_in, n_sub, n_div, n_rem, n_ite, Nat.zero_add, F_k hf, F_k1 hf, F_l1 hf, F_r0 hf, F_r1 hf, F_k2 hf, F_l2 hf, F_rg hf, F_kg hf]
  refine loop 8 0 0 (by omega) (by omega) ?_
  rw [Nat.zero_add]; exact h
theorem c_earsOfAll (hf : isF f) (hp : Fp hi f A) (hok : ∀ k, k < 64 → A k ≤ 99) (h : K (some (.int (nI (smN A 0 64)))) hi hl) : Call u 4 [.ref f] hi hl K := by
  have loop : ∀ n r s, r + n = 8 → s ≤ 800 * r → K (some (.int (nI (s + smN A (8 * r) (8 * n))))) hi hl → Wp u 4 4 [.ref f, .int (nI s), .int (nI r)] [] hi hl K := by
    intro n
    induction n with
    | zero =>
      intro r s e hs h
      refine wv (by decide) ?_
      simp (disch := omega) only [b_F_earsOfAllRows_0, b_F_earsOfAllRows_4, b_F_earsOfAllRows_10, b_F_earsOfAllRows_16, b_F_earsOfAllRows_24, true_and, and_true, true_implies, false_implies, not_true_eq_false, not_false_eq_true, eq_self, or_true, true_or, false_or, or_false, false_and, and_false, Option.toList_some, Option.toList_none, List.cons_append, List.nil_append, n10, n01, e10, e01, e08, e18, e28, e38, e48, e58, e68, e78, lt_lit, nI_add, pk_mul, n_le, n_lt, n_eq, n_cl, n_in, n_sub, n_div, n_rem, n_ite, Nat.zero_add, F_k hf, F_k1 hf, F_l1 hf, F_r0 hf, F_r1 hf, F_k2 hf, F_l2 hf, F_rg hf, F_kg hf]
      exact ⟨fun _ => h, fun q => absurd (by omega) q⟩
    | succ n ih =>
      intro r s e hs h
      refine wv (by decide) ?_
      simp (disch := omega) only [b_F_earsOfAllRows_0, b_F_earsOfAllRows_4, b_F_earsOfAllRows_10, b_F_earsOfAllRows_16, b_F_earsOfAllRows_24, true_and, and_true, true_implies, false_implies, not_true_eq_false, not_false_eq_true, eq_self, or_true, true_or, false_or, or_false, false_and, and_false, Option.toList_some, Option.toList_none, List.cons_append, List.nil_append, n10, n01, e10, e01, e08, e18, e28, e38, e48, e58, e68, e78, lt_lit, nI_add, pk_mul, n_le, n_lt, n_eq, n_cl, n_in, n_sub, n_div, n_rem, n_ite, Nat.zero_add, F_k hf, F_k1 hf, F_l1 hf, F_r0 hf, F_r1 hf, F_k2 hf, F_l2 hf, F_rg hf, F_kg hf]
      refine ⟨fun q => absurd q (by omega), fun _ => ?_⟩
      refine c_earsOfRow hf hp hok (by omega) ?_
      simp (disch := omega) only [b_F_earsOfAllRows_0, b_F_earsOfAllRows_4, b_F_earsOfAllRows_10, b_F_earsOfAllRows_16, b_F_earsOfAllRows_24, true_and, and_true, true_implies, false_implies, not_true_eq_false, not_false_eq_true, eq_self, or_true, true_or, false_or, or_false, false_and, and_false, Option.toList_some, Option.toList_none, List.cons_append, List.nil_append, n10, n01, e10, e01, e08, e18, e28, e38, e48, e58, e68, e78, lt_lit, nI_add, pk_mul, n_le, n_lt, n_eq, n_cl, n_in, n_sub, n_div, n_rem, n_ite, Nat.zero_add, F_k hf, F_k1 hf, F_l1 hf, F_r0 hf, F_r1 hf, F_k2 hf, F_l2 hf, F_rg hf, F_kg hf]
      have := smN_le A 99 8 (8 * r) (fun k _ y => hok k (by omega))
      refine ih (r + 1) _ (by omega) (by omega) ?_
      rw [show 8 * (n + 1) = 8 + 8 * n by omega, smN_app, ← Nat.add_assoc, show 8 * r + 8 = 8 * (r + 1) by omega] at h; exact h
  refine i_F_earsOfAllRows ?_
  simp (disch := omega) only [b_F_earsOfAllRows_0, b_F_earsOfAllRows_4, b_F_earsOfAllRows_10, b_F_earsOfAllRows_16, b_F_earsOfAllRows_24, true_and, and_true, true_implies, false_implies, not_true_eq_false, not_false_eq_true, eq_self, or_true, true_or, false_or, or_false, false_and, and_false, Option.toList_some, Option.toList_none, List.cons_append, List.nil_append, n10, n01, e10, e01, e08, e18, e28, e38, e48, e58, e68, e78, lt_lit, nI_add, pk_mul, n_le, n_lt, n_eq, n_cl, n_in, n_sub, n_div, n_rem, n_ite, Nat.zero_add, F_k hf, F_k1 hf, F_l1 hf, F_r0 hf, F_r1 hf, F_k2 hf, F_l2 hf, F_rg hf, F_kg hf]
  refine loop 8 0 0 (by omega) (by omega) ?_
  rw [Nat.zero_add]; exact h
theorem c_fill1 {a v : Nat} (ka : kd a = 8) (la : ln a < 1000) (h : ∀ hi', (∀ k, k < ln a → hi' a k = nI v) → (∀ o, o ≠ a → hi' o = hi o) → K none hi' hl) : Call u 220 [.ref a, .int (nI v)] hi hl K := by
  have loop : ∀ n k hi', k + n = ln a → (∀ j, j < k → hi' a j = nI v) → (∀ o, o ≠ a → hi' o = hi o) → Wp u 220 5 [.ref a, .int (nI v), .int (nI k), .int (nI (ln a))] [] hi' hl K := by
    intro n
    induction n with
    | zero =>
      intro k hi' e h1 h2
      refine wv (by decide) ?_
      simp (disch := omega) only [b_A_fill1_0, b_A_fill1_5, b_A_fill1_10, b_A_fill1_20, true_and, and_true, true_implies, false_implies, not_true_eq_false, not_false_eq_true, eq_self, or_true, true_or, false_or, or_false, false_and, and_false, Option.toList_some, Option.toList_none, List.cons_append, List.nil_append, n10, n01, e10, e01, e08, e18, e28, e38, e48, e58, e68, e78, lt_lit, nI_add, pk_mul, n_le, n_lt, n_eq, n_cl, n_in, n_sub, n_div, n_rem, n_ite, Nat.zero_add, ix1, ix2, ix3, ix4, ix5, ix6, ix7, Nat.add_zero, ofn, x88]
      exact ⟨fun _ => ⟨rfl, h hi' (fun j hj => h1 j (by omega)) h2⟩, fun q => absurd (by omega) q⟩
    | succ n ih =>
      intro k hi' e h1 h2
      refine wv (by decide) ?_
      simp (disch := omega) only [b_A_fill1_0, b_A_fill1_5, b_A_fill1_10, b_A_fill1_20, true_and, and_true, true_implies, false_implies, not_true_eq_false, not_false_eq_true, eq_self, or_true, true_or, false_or, or_false, false_and, and_false, Option.toList_some, Option.toList_none, List.cons_append, List.nil_append, n10, n01, e10, e01, e08, e18, e28, e38, e48, e58, e68, e78, lt_lit, nI_add, pk_mul, n_le, n_lt, n_eq, n_cl, n_in, n_sub, n_div, n_rem, n_ite, Nat.zero_add, ix1, ix2, ix3, ix4, ix5, ix6, ix7, Nat.add_zero, ofn, x88, ka]
      refine ⟨fun q => absurd q (by omega), fun _ => ?_⟩
      refine ih (k + 1) _ (by omega) (fun j hj => ?_) (fun o ho => ?_)
      · by_cases q : j = k
        · subst q; rw [u2_eq]
        · rw [u2_nk q]; exact h1 j (by omega)
      · rw [← h2 o ho]; funext j; exact u2_nh ho
  refine i_A_fill1 ?_
  simp only [b_A_fill1_0, b_A_fill1_5, b_A_fill1_10, b_A_fill1_20, true_and, and_true, true_implies, false_implies, not_true_eq_false, not_false_eq_true, eq_self, or_true, true_or, false_or, or_false, false_and, and_false, Option.toList_some, Option.toList_none, List.cons_append, List.nil_append, n10, n01, e10, e01, e08, e18, e28, e38, e48, e58, e68, e78, ofn, ka]
  refine ⟨by omega, loop (ln a) 0 hi (by omega) (fun j hj => absurd hj (by omega)) (fun _ _ => rfl)⟩
theorem c_leaveEverywhere {v : Nat} (hf : isF f) (hp : Fp hi f A) (h : ∀ hi', Fp hi' f (fillN A v) → fF f hi hi' → K none hi' hl) : Call u 6 [.ref f, .int (nI v)] hi hl K := by
  refine i_F_leaveEverywhere ?_
  simp (disch := omega) only [b_F_leaveEverywhere_0, b_F_leaveEverywhere_8, true_and, and_true, true_implies, false_implies, not_true_eq_false, not_false_eq_true, eq_self, or_true, true_or, false_or, or_false, false_and, and_false, Option.toList_some, Option.toList_none, List.cons_append, List.nil_append, n10, n01, e10, e01, e08, e18, e28, e38, e48, e58, e68, e78, lt_lit, nI_add, pk_mul, n_le, n_lt, n_eq, n_cl, n_in, n_sub, n_div, n_rem, n_ite, Nat.zero_add, F_k hf, F_k1 hf, F_l1 hf, F_r0 hf, F_r1 hf, F_k2 hf, F_l2 hf, F_rg hf, F_kg hf]
  refine c_fill1 (F_k1 hf) (by rw [F_l1 hf]; omega) (fun hi' a b => ?_)
  simp (disch := omega) only [b_F_leaveEverywhere_0, b_F_leaveEverywhere_8, true_and, and_true, true_implies, false_implies, not_true_eq_false, not_false_eq_true, eq_self, or_true, true_or, false_or, or_false, false_and, and_false, Option.toList_some, Option.toList_none, List.cons_append, List.nil_append, n10, n01, e10, e01, e08, e18, e28, e38, e48, e58, e68, e78, lt_lit, nI_add, pk_mul, n_le, n_lt, n_eq, n_cl, n_in, n_sub, n_div, n_rem, n_ite, Nat.zero_add, F_k hf, F_k1 hf, F_l1 hf, F_r0 hf, F_r1 hf, F_k2 hf, F_l2 hf, F_rg hf, F_kg hf]
  rw [F_l1 hf] at a
  refine ⟨rfl, h hi' (fun k hk => ?_) (fun o ho => b o (by omega))⟩
  have e68 : fillN A v 68 = A 68 := by simp [fillN]
  rw [e68] at hk
  by_cases q : k < 64
  · rw [lh_p q, lj_p q, a k q]; simp [fillN, q]
  · have : lh f k ≠ f + 1 := by unfold lh; rw [if_neg q]; split <;> omega
    rw [b _ this, hp k hk]; simp [fillN, q]
theorem c_isFull (hf : isF f) (hp : Fp hi f A) (h9 : A 68 ≤ 9) (h1 : A 68 = 9 → K (some (.int 1)) hi hl) (h0 : A 68 < 9 → K (some (.int 0)) hi hl) : Call u 7 [.ref f] hi hl K := by
  refine i_F_isFull ?_
  simp (disch := omega) only [b_F_isFull_0, b_F_isFull_9, b_F_isFull_13, b_F_isFull_14, true_and, and_true, true_implies, false_implies, not_true_eq_false, not_false_eq_true, eq_self, or_true, true_or, false_or, or_false, false_and, and_false, Option.toList_some, Option.toList_none, List.cons_append, List.nil_append, n10, n01, e10, e01, e08, e18, e28, e38, e48, e58, e68, e78, F_k hf, F_k1 hf, F_l1 hf, F_r0 hf, F_r1 hf, F_k2 hf, F_l2 hf, F_rg hf, F_kg hf, Fp.s2 hp]
  rw [show (9 : Int32) = nI 9 from rfl, n_lt (by omega) (by omega)]
  exact ⟨fun q => h0 q, fun q => h1 (by omega)⟩
theorem c_goToStart {a : Nat} (ka : kd a = 1) (h : K none (up2 (up2 (up2 hi a 2 (nI 0)) a 6 (nI 0)) a 7 (nI 0)) hl) : Call u 25 [.ref a] hi hl K := by
  refine i_G_goToStart ?_
  simp only [b_G_goToStart_0, true_and, and_true, true_implies, false_implies, not_true_eq_false, not_false_eq_true, eq_self, or_true, true_or, false_or, or_false, false_and, and_false, Option.toList_some, Option.toList_none, List.cons_append, List.nil_append, n10, n01, e10, e01, e08, e18, e28, e38, e48, e58, e68, e78, ka]
  exact ⟨rfl, h⟩
theorem add_ne {A : Nat → Nat} {k r p h b j : Nat} (hj : j ≠ 68) (hj2 : j < 69 + 8 * A 68) : addN A k r p h b j = A j := by
  unfold addN
  rw [if_neg hj, if_neg (by omega), if_neg (by omega), if_neg (by omega), if_neg (by omega), if_neg (by omega), if_neg (by omega), if_neg (by omega), if_neg (by omega)]
theorem c_addGleaner {k r p : Nat} (hf : isF f) (hp : Fp hi f A) (h9 : A 68 < 9) (h : ∀ hi', Fp hi' f (addN A k r 0 p 0) → fF f hi hi' → K none hi' hl) : Call u 8 [.ref f, .int (nI k), .int (nI r), .int (nI p)] hi hl K := by
  refine i_F_addGleaner ?_
  simp (disch := omega) only [b_F_addGleaner_0, b_F_addGleaner_4, b_F_addGleaner_7, b_F_addGleaner_53, b_F_addGleaner_63, true_and, and_true, true_implies, false_implies, not_true_eq_false, not_false_eq_true, eq_self, or_true, true_or, false_or, or_false, false_and, and_false, Option.toList_some, Option.toList_none, List.cons_append, List.nil_append, n10, n01, e10, e01, e08, e18, e28, e38, e48, e58, e68, e78, lt_lit, nI_add, pk_mul, n_le, n_lt, n_eq, n_cl, n_in, n_sub, n_div, n_rem, n_ite, Nat.zero_add, F_k hf, F_k1 hf, F_l1 hf, F_r0 hf, F_r1 hf, F_k2 hf, F_l2 hf, F_rg hf, F_kg hf, Fp.s2 hp, Fp.s3 hp, Fp.s4 hp, Fp.s5 hp, Fp.s6 hp, Fp.p hp, Fp.r0 hp, Fp.r1 hp, Fp.r2 hp, Fp.r3 hp, Fp.r4 hp, Fp.r5 hp, Fp.r6 hp, Fp.r7 hp]
  refine c_isFull hf hp (by omega) (fun q => absurd q (by omega)) (fun _ => ?_)
  simp (disch := omega) only [b_F_addGleaner_0, b_F_addGleaner_4, b_F_addGleaner_7, b_F_addGleaner_53, b_F_addGleaner_63, true_and, and_true, true_implies, false_implies, not_true_eq_false, not_false_eq_true, eq_self, or_true, true_or, false_or, or_false, false_and, and_false, Option.toList_some, Option.toList_none, List.cons_append, List.nil_append, n10, n01, e10, e01, e08, e18, e28, e38, e48, e58, e68, e78, lt_lit, nI_add, pk_mul, n_le, n_lt, n_eq, n_cl, n_in, n_sub, n_div, n_rem, n_ite, Nat.zero_add, F_k hf, F_k1 hf, F_l1 hf, F_r0 hf, F_r1 hf, F_k2 hf, F_l2 hf, F_rg hf, F_kg hf, Fp.s2 hp, Fp.s3 hp, Fp.s4 hp, Fp.s5 hp, Fp.s6 hp, Fp.p hp, Fp.r0 hp, Fp.r1 hp, Fp.r2 hp, Fp.r3 hp, Fp.r4 hp, Fp.r5 hp, Fp.r6 hp, Fp.r7 hp]
  refine c_goToStart (F_kg hf h9) ?_
  simp (disch := omega) only [b_F_addGleaner_0, b_F_addGleaner_4, b_F_addGleaner_7, b_F_addGleaner_53, b_F_addGleaner_63, true_and, and_true, true_implies, false_implies, not_true_eq_false, not_false_eq_true, eq_self, or_true, true_or, false_or, or_false, false_and, and_false, Option.toList_some, Option.toList_none, List.cons_append, List.nil_append, n10, n01, e10, e01, e08, e18, e28, e38, e48, e58, e68, e78, lt_lit, nI_add, pk_mul, n_le, n_lt, n_eq, n_cl, n_in, n_sub, n_div, n_rem, n_ite, Nat.zero_add, F_k hf, F_k1 hf, F_l1 hf, F_r0 hf, F_r1 hf, F_k2 hf, F_l2 hf, F_rg hf, F_kg hf, Fp.s2 hp, Fp.s3 hp, Fp.s4 hp, Fp.s5 hp, Fp.s6 hp, Fp.p hp, Fp.r0 hp, Fp.r1 hp, Fp.r2 hp, Fp.r3 hp, Fp.r4 hp, Fp.r5 hp, Fp.r6 hp, Fp.r7 hp, u2_eq, u2_nk, u2_nh]
  refine ⟨rfl, h _ ?_ ?_⟩
  · intro j hj
    have e68 : addN A k r 0 p 0 68 = A 68 + 1 := by simp [addN]
    rw [e68] at hj
    by_cases q : j = 68
    · subst q
      show up2 _ f 2 _ f 2 = _
      rw [u2_eq, e68]
    · by_cases q2 : j < 69 + 8 * A 68
      · rw [add_ne q q2, ← hp j q2]
        have l1 : lh f j ≠ f + 3 + A 68 := by unfold lh; (repeat' split) <;> omega
        have l2 : lh f j = f → lj j ≠ 2 := by unfold lh lj; (repeat' split) <;> omega
        by_cases q3 : lh f j = f
        · rw [q3, u2_nk (l2 q3)]
          rw [q3] at l1
          simp only [u2_nh l1]
        · rw [u2_nh q3]
          simp only [u2_nh l1]
      · have l1 : lh f j = f + 3 + A 68 := by unfold lh; rw [if_neg (by omega), if_neg (by omega)]; omega
        have hj2 : j = 69 + 8 * A 68 ∨ j = 70 + 8 * A 68 ∨ j = 71 + 8 * A 68 ∨ j = 72 + 8 * A 68 ∨ j = 73 + 8 * A 68 ∨ j = 74 + 8 * A 68 ∨ j = 75 + 8 * A 68 ∨ j = 76 + 8 * A 68 := by omega
        rw [l1, u2_nh (by omega)]
        rcases hj2 with e | e | e | e | e | e | e | e <;> subst e
        · have : lj (69 + 8 * A 68) = 0 := lj_g (g := A 68) (j := 0) (by omega)
          rw [this]; simp (disch := omega) only [u2_eq, u2_nk, u2_nh]; simp [addN, q]
        · have : lj (70 + 8 * A 68) = 1 := by rw [← ix1]; exact lj_g (by omega)
          rw [this]; simp (disch := omega) only [u2_eq, u2_nk, u2_nh]; simp [addN, q]
        · have : lj (71 + 8 * A 68) = 2 := by rw [← ix2]; exact lj_g (by omega)
          rw [this]; simp (disch := omega) only [u2_eq, u2_nk, u2_nh]; simp [addN, q]
        · have : lj (72 + 8 * A 68) = 3 := by rw [← ix3]; exact lj_g (by omega)
          rw [this]; simp (disch := omega) only [u2_eq, u2_nk, u2_nh]; simp [addN, q]
        · have : lj (73 + 8 * A 68) = 4 := by rw [← ix4]; exact lj_g (by omega)
          rw [this]; simp (disch := omega) only [u2_eq, u2_nk, u2_nh]; simp [addN, q]
        · have : lj (74 + 8 * A 68) = 5 := by rw [← ix5]; exact lj_g (by omega)
          rw [this]; simp (disch := omega) only [u2_eq, u2_nk, u2_nh]; simp [addN, q]
        · have : lj (75 + 8 * A 68) = 6 := by rw [← ix6]; exact lj_g (by omega)
          rw [this]; simp (disch := omega) only [u2_eq, u2_nk, u2_nh]; simp [addN, q]
        · have : lj (76 + 8 * A 68) = 7 := by rw [← ix7]; exact lj_g (by omega)
          rw [this]; simp (disch := omega) only [u2_eq, u2_nk, u2_nh]; simp [addN, q]
  · repeat (first | exact fF.refl f hi | refine fF.up ?_ (by omega))
end F3
