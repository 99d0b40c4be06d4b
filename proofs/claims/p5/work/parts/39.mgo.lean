/-! minutes in a row, to the end -/
def minsN (w : Nat → Bool) : Nat → (Nat → Nat) → (Nat → Nat)
  | 0, A => A
  | n + 1, A => minsN w n (minN w A)
def tooksN (w : Nat → Bool) : Nat → (Nat → Nat) → Nat
  | 0, _ => 0
  | n + 1, A => tookN w A + tooksN w n (minN w A)
def all1 : Nat → Bool := fun _ => true
def same3 (A A' : Nat → Nat) : Prop := A' 65 = A 65 ∧ A' 66 = A 66 ∧ A' 68 = A 68
theorem mins_ok (w : Nat → Bool) (n : Nat) : ∀ {A : Nat → Nat} {B : Nat}, A 64 + n ≤ 10200 → rowOk B A → rowOk (B + 909 * n) (minsN w n A) ∧ minsN w n A 64 = A 64 + n ∧ same3 A (minsN w n A) ∧ tooksN w n A ≤ 909 * n := by
  induction n with
  | zero => intro A B _ ok; exact ⟨ok, rfl, ⟨rfl, rfl, rfl⟩, Nat.le_refl _⟩
  | succ n ih =>
    intro A B h ok
    obtain ⟨a, b, c, d, e, f⟩ := min_ok w ok (by omega)
    obtain ⟨a2, b2, c2, d2⟩ := ih (A := minN w A) (by omega) a
    refine ⟨a2.mono (by omega), by rw [minsN]; omega, ⟨c2.1.trans c, c2.2.1.trans d, c2.2.2.trans e⟩, ?_⟩
    rw [tooksN]; omega
def anyN (p : Nat → Bool) : Nat → Nat → Bool
  | _, 0 => false
  | g, n + 1 => p g || anyN p (g + 1) n
def workN (w : Nat → Bool) (A : Nat → Nat) (g : Nat) : Bool := w g && A (76 + 8 * g) == 0
def someN (w : Nat → Bool) (A : Nat → Nat) : Bool := anyN (workN w A) 0 (A 68)
def endN (w : Nat → Bool) : Nat → (Nat → Nat) → (Nat → Nat)
  | 0, A => A
  | n + 1, A => if someN w A = true then endN w n (minN w A) else A
theorem end_ok (w : Nat → Bool) (n : Nat) : ∀ {A : Nat → Nat} {B : Nat}, A 64 + n ≤ 10200 → rowOk B A → rowOk (B + 909 * n) (endN w n A) ∧ same3 A (endN w n A) := by
  induction n with
  | zero => intro A B _ ok; exact ⟨ok, ⟨rfl, rfl, rfl⟩⟩
  | succ n ih =>
    intro A B h ok
    rw [endN]
    split
    · obtain ⟨a, b, c, d, e, f⟩ := min_ok w ok (by omega)
      obtain ⟨a2, c2⟩ := ih (A := minN w A) (by omega) a
      exact ⟨a2.mono (by omega), ⟨c2.1.trans c, c2.2.1.trans d, c2.2.2.trans e⟩⟩
    · exact ⟨ok.mono (by omega), ⟨rfl, rfl, rfl⟩⟩
theorem here_all : hereIs (nI 511) all1 := by
  intro g hg
  have : g = 0 ∨ g = 1 ∨ g = 2 ∨ g = 3 ∨ g = 4 ∨ g = 5 ∨ g = 6 ∨ g = 7 ∨ g = 8 := by omega
  rcases this with h | h | h | h | h | h | h | h | h <;> subst h <;> decide
section M7
variable {u : UV} {hl : HL} {K : Option Value → HI → HL → Prop}
theorem c_minutesGo {hi : HI} {A : Nat → Nat} {B n : Nat} (hr : Mr hi A) (ok : rowOk B A) (hn : n ≤ 200) (hA : A 64 + n ≤ 10200) (hB : B + 909 * n < 100000000) (h : ∀ hi', Mr hi' (minsN all1 n A) → fM hi hi' → K (some (.int (nI (tooksN all1 n A)))) hi' hl) : Call u 152 [.ref 51, .int (nI n)] hi hl K := by
  have loop : ∀ m k t A' B' hi', k + m = n → t ≤ 909 * k → A' 64 + m ≤ 10200 → B' + 909 * m < 100000000 → Mr hi' A' → rowOk B' A' → fM hi hi' → (∀ hi2, Mr hi2 (minsN all1 m A') → fM hi hi2 → K (some (.int (nI (t + tooksN all1 m A')))) hi2 hl) → Wp u 152 4 [.ref 51, .int (nI n), .int (nI t), .int (nI k)] [] hi' hl K := by
    intro m
    induction m with
    | zero =>
      intro k t A' B' hi' e ht hA hB hr ok fr h
      refine wv (by decide) ?_
      simp (disch := omega) only [b_M_minutesGo_0, b_M_minutesGo_4, b_M_minutesGo_9, b_M_minutesGo_17, b_M_minutesGo_25, true_and, and_true, true_implies, false_implies, not_true_eq_false, not_false_eq_true, eq_self, or_true, true_or, false_or, or_false, false_and, and_false, Option.toList_some, Option.toList_none, List.cons_append, List.nil_append, n10, n01, e10, e01, e08, e18, e28, e38, e48, e58, e68, e78, lt_lit, nI_add, pk_mul, n_le, n_lt, n_eq, n_cl, n_in, n_sub, n_div, n_rem, n_ite, Nat.zero_add, r_51_0, r_51_1, r_51_2, r_51_4, r_51_6, r_51_13, r_51_14, r_51_18, r_51_19, r_51_20, r_51_21, k_51, k_52, k_53, k_54, k_55, k_56, k_57, k_58, k_59, k_60, k_61, k_62, n_52, n_53, n_54, n_55, n_56, n_57, n_58, n_59, n_60, n_61, n_62]
      exact ⟨fun _ => h _ hr fr, fun q => absurd (by omega) q⟩
    | succ m ih =>
      intro k t A' B' hi' e ht hA hB hr ok fr h
      refine wv (by decide) ?_
      simp (disch := omega) only [b_M_minutesGo_0, b_M_minutesGo_4, b_M_minutesGo_9, b_M_minutesGo_17, b_M_minutesGo_25, true_and, and_true, true_implies, false_implies, not_true_eq_false, not_false_eq_true, eq_self, or_true, true_or, false_or, or_false, false_and, and_false, Option.toList_some, Option.toList_none, List.cons_append, List.nil_append, n10, n01, e10, e01, e08, e18, e28, e38, e48, e58, e68, e78, lt_lit, nI_add, pk_mul, n_le, n_lt, n_eq, n_cl, n_in, n_sub, n_div, n_rem, n_ite, Nat.zero_add, r_51_0, r_51_1, r_51_2, r_51_4, r_51_6, r_51_13, r_51_14, r_51_18, r_51_19, r_51_20, r_51_21, k_51, k_52, k_53, k_54, k_55, k_56, k_57, k_58, k_59, k_60, k_61, k_62, n_52, n_53, n_54, n_55, n_56, n_57, n_58, n_59, n_60, n_61, n_62]
      refine ⟨fun q => absurd q (by omega), fun _ => ?_⟩
      have hB2 : B' + 909 < 100000000 := Nat.lt_of_le_of_lt (Nat.add_le_add_left (by omega : 909 ≤ 909 * (m + 1)) B') hB
      refine c_minute here_all hr ok hB2 (fun hi2 a b => ?_)
      obtain ⟨m1, m2, m3, m4, m5, m6⟩ := min_ok all1 ok (by omega)
      simp (disch := omega) only [b_M_minutesGo_0, b_M_minutesGo_4, b_M_minutesGo_9, b_M_minutesGo_17, b_M_minutesGo_25, true_and, and_true, true_implies, false_implies, not_true_eq_false, not_false_eq_true, eq_self, or_true, true_or, false_or, or_false, false_and, and_false, Option.toList_some, Option.toList_none, List.cons_append, List.nil_append, n10, n01, e10, e01, e08, e18, e28, e38, e48, e58, e68, e78, lt_lit, nI_add, pk_mul, n_le, n_lt, n_eq, n_cl, n_in, n_sub, n_div, n_rem, n_ite, Nat.zero_add, r_51_0, r_51_1, r_51_2, r_51_4, r_51_6, r_51_13, r_51_14, r_51_18, r_51_19, r_51_20, r_51_21, k_51, k_52, k_53, k_54, k_55, k_56, k_57, k_58, k_59, k_60, k_61, k_62, n_52, n_53, n_54, n_55, n_56, n_57, n_58, n_59, n_60, n_61, n_62]
      refine ih (k + 1) _ (minN all1 A') (B' + 909) hi2 (by omega) (by omega) (by omega) (by omega) a m1 (fr.trans b) (fun hi3 c d => ?_)
      rw [minsN, tooksN, ← Nat.add_assoc] at h
      exact h hi3 c d
  refine i_M_minutesGo ?_
  simp (disch := omega) only [b_M_minutesGo_0, b_M_minutesGo_4, b_M_minutesGo_9, b_M_minutesGo_17, b_M_minutesGo_25, true_and, and_true, true_implies, false_implies, not_true_eq_false, not_false_eq_true, eq_self, or_true, true_or, false_or, or_false, false_and, and_false, Option.toList_some, Option.toList_none, List.cons_append, List.nil_append, n10, n01, e10, e01, e08, e18, e28, e38, e48, e58, e68, e78, lt_lit, nI_add, pk_mul, n_le, n_lt, n_eq, n_cl, n_in, n_sub, n_div, n_rem, n_ite, Nat.zero_add, r_51_0, r_51_1, r_51_2, r_51_4, r_51_6, r_51_13, r_51_14, r_51_18, r_51_19, r_51_20, r_51_21, k_51, k_52, k_53, k_54, k_55, k_56, k_57, k_58, k_59, k_60, k_61, k_62, n_52, n_53, n_54, n_55, n_56, n_57, n_58, n_59, n_60, n_61, n_62]
  refine loop n 0 0 A B hi (by omega) (by omega) hA hB hr ok (fM.refl hi) (fun hi2 a b => ?_)
  rw [Nat.zero_add]; exact h hi2 a b
theorem c_isTooLate {hi : HI} {A : Nat → Nat} {B n : Nat} (hr : Mr hi A) (ok : rowOk B A) (hn : n ≤ 200) (h1 : 9999 < A 64 + n → K (some (.int 1)) hi hl) (h0 : A 64 + n ≤ 9999 → K (some (.int 0)) hi hl) : Call u 153 [.ref 51, .int (nI n)] hi hl K := by
  have hr' : ∀ k, k < 69 + 8 * A 68 → hi 52 k = nI (A k) := hr
  have o2 := ok.2.1
  refine i_M_isTooLate ?_
  simp (disch := omega) only [b_M_isTooLate_0, b_M_isTooLate_15, b_M_isTooLate_19, b_M_isTooLate_20, true_and, and_true, true_implies, false_implies, not_true_eq_false, not_false_eq_true, eq_self, or_true, true_or, false_or, or_false, false_and, and_false, Option.toList_some, Option.toList_none, List.cons_append, List.nil_append, n10, n01, e10, e01, e08, e18, e28, e38, e48, e58, e68, e78, lt_lit, nI_add, pk_mul, n_le, n_lt, n_eq, n_cl, n_in, n_sub, n_div, n_rem, n_ite, Nat.zero_add, r_51_0, r_51_1, r_51_2, r_51_4, r_51_6, r_51_13, r_51_14, r_51_18, r_51_19, r_51_20, r_51_21, k_51, k_52, k_53, k_54, k_55, k_56, k_57, k_58, k_59, k_60, k_61, k_62, n_52, n_53, n_54, n_55, n_56, n_57, n_58, n_59, n_60, n_61, n_62, hr']
  exact ⟨fun q => h0 q, fun q => h1 (by omega)⟩
theorem c_isSomebody {e : Int32} {w : Nat → Bool} (hw : hereIs e w) {hi : HI} {A : Nat → Nat} {B : Nat} (hr : Mr hi A) (ok : rowOk B A) (h1 : someN w A = true → K (some (.int 1)) hi hl) (h0 : ¬ someN w A = true → K (some (.int 0)) hi hl) : Call u 163 [.ref 51, .int e] hi hl K := by
  have hr' : ∀ k, k < 69 + 8 * A 68 → hi 52 k = nI (A k) := hr
  have o6 := ok.2.2.2.2.2.1
  have got : ∀ m k, k + m = A 68 → K (some (.int 1)) hi hl → Wp u 163 4 [.ref 51, .int e, .int (nI 1), .int (nI k)] [] hi hl K := by
    intro m
    induction m with
    | zero =>
      intro k e1 h
      refine wv (by decide) ?_
      simp (disch := omega) only [b_M_isSomebodyAtWork_0, b_M_isSomebodyAtWork_4, b_M_isSomebodyAtWork_15, b_M_isSomebodyAtWork_19, b_M_isSomebodyAtWork_25, b_M_isSomebodyAtWork_28, b_M_isSomebodyAtWork_32, b_M_isSomebodyAtWork_33, b_M_isSomebodyAtWork_40, true_and, and_true, true_implies, false_implies, not_true_eq_false, not_false_eq_true, eq_self, or_true, true_or, false_or, or_false, false_and, and_false, Option.toList_some, Option.toList_none, List.cons_append, List.nil_append, n10, n01, e10, e01, e08, e18, e28, e38, e48, e58, e68, e78, lt_lit, nI_add, pk_mul, n_le, n_lt, n_eq, n_cl, n_in, n_sub, n_div, n_rem, n_ite, Nat.zero_add, r_51_0, r_51_1, r_51_2, r_51_4, r_51_6, r_51_13, r_51_14, r_51_18, r_51_19, r_51_20, r_51_21, k_51, k_52, k_53, k_54, k_55, k_56, k_57, k_58, k_59, k_60, k_61, k_62, n_52, n_53, n_54, n_55, n_56, n_57, n_58, n_59, n_60, n_61, n_62, hr']
      exact ⟨fun _ => h, fun q => absurd (by omega) q⟩
    | succ m ih =>
      intro k e1 h
      refine wv (by decide) ?_
      simp (disch := omega) only [b_M_isSomebodyAtWork_0, b_M_isSomebodyAtWork_4, b_M_isSomebodyAtWork_15, b_M_isSomebodyAtWork_19, b_M_isSomebodyAtWork_25, b_M_isSomebodyAtWork_28, b_M_isSomebodyAtWork_32, b_M_isSomebodyAtWork_33, b_M_isSomebodyAtWork_40, true_and, and_true, true_implies, false_implies, not_true_eq_false, not_false_eq_true, eq_self, or_true, true_or, false_or, or_false, false_and, and_false, Option.toList_some, Option.toList_none, List.cons_append, List.nil_append, n10, n01, e10, e01, e08, e18, e28, e38, e48, e58, e68, e78, lt_lit, nI_add, pk_mul, n_le, n_lt, n_eq, n_cl, n_in, n_sub, n_div, n_rem, n_ite, Nat.zero_add, r_51_0, r_51_1, r_51_2, r_51_4, r_51_6, r_51_13, r_51_14, r_51_18, r_51_19, r_51_20, r_51_21, k_51, k_52, k_53, k_54, k_55, k_56, k_57, k_58, k_59, k_60, k_61, k_62, n_52, n_53, n_54, n_55, n_56, n_57, n_58, n_59, n_60, n_61, n_62, hr']
      exact ⟨fun q => absurd q (by omega), fun _ => ih (k + 1) (by omega) h⟩
  have loop : ∀ m k, k + m = A 68 → (anyN (workN w A) k m = true → K (some (.int 1)) hi hl) → (¬ anyN (workN w A) k m = true → K (some (.int 0)) hi hl) → Wp u 163 4 [.ref 51, .int e, .int (nI 0), .int (nI k)] [] hi hl K := by
    intro m
    induction m with
    | zero =>
      intro k e1 h1 h0
      refine wv (by decide) ?_
      simp (disch := omega) only [b_M_isSomebodyAtWork_0, b_M_isSomebodyAtWork_4, b_M_isSomebodyAtWork_15, b_M_isSomebodyAtWork_19, b_M_isSomebodyAtWork_25, b_M_isSomebodyAtWork_28, b_M_isSomebodyAtWork_32, b_M_isSomebodyAtWork_33, b_M_isSomebodyAtWork_40, true_and, and_true, true_implies, false_implies, not_true_eq_false, not_false_eq_true, eq_self, or_true, true_or, false_or, or_false, false_and, and_false, Option.toList_some, Option.toList_none, List.cons_append, List.nil_append, n10, n01, e10, e01, e08, e18, e28, e38, e48, e58, e68, e78, lt_lit, nI_add, pk_mul, n_le, n_lt, n_eq, n_cl, n_in, n_sub, n_div, n_rem, n_ite, Nat.zero_add, r_51_0, r_51_1, r_51_2, r_51_4, r_51_6, r_51_13, r_51_14, r_51_18, r_51_19, r_51_20, r_51_21, k_51, k_52, k_53, k_54, k_55, k_56, k_57, k_58, k_59, k_60, k_61, k_62, n_52, n_53, n_54, n_55, n_56, n_57, n_58, n_59, n_60, n_61, n_62, hr']
      exact ⟨fun _ => h0 (by simp [anyN]), fun q => absurd (by omega) q⟩
    | succ m ih =>
      intro k e1 h1 h0
      refine wv (by decide) ?_
      simp (disch := omega) only [b_M_isSomebodyAtWork_0, b_M_isSomebodyAtWork_4, b_M_isSomebodyAtWork_15, b_M_isSomebodyAtWork_19, b_M_isSomebodyAtWork_25, b_M_isSomebodyAtWork_28, b_M_isSomebodyAtWork_32, b_M_isSomebodyAtWork_33, b_M_isSomebodyAtWork_40, true_and, and_true, true_implies, false_implies, not_true_eq_false, not_false_eq_true, eq_self, or_true, true_or, false_or, or_false, false_and, and_false, Option.toList_some, Option.toList_none, List.cons_append, List.nil_append, n10, n01, e10, e01, e08, e18, e28, e38, e48, e58, e68, e78, lt_lit, nI_add, pk_mul, n_le, n_lt, n_eq, n_cl, n_in, n_sub, n_div, n_rem, n_ite, Nat.zero_add, r_51_0, r_51_1, r_51_2, r_51_4, r_51_6, r_51_13, r_51_14, r_51_18, r_51_19, r_51_20, r_51_21, k_51, k_52, k_53, k_54, k_55, k_56, k_57, k_58, k_59, k_60, k_61, k_62, n_52, n_53, n_54, n_55, n_56, n_57, n_58, n_59, n_60, n_61, n_62, hr']
      refine ⟨fun q => absurd q (by omega), fun _ => ?_⟩
      refine c_isAtWork (g := k) hw hr ok (by omega) (fun q => ?_) (fun q => ?_)
      · simp (disch := omega) only [b_M_isSomebodyAtWork_0, b_M_isSomebodyAtWork_4, b_M_isSomebodyAtWork_15, b_M_isSomebodyAtWork_19, b_M_isSomebodyAtWork_25, b_M_isSomebodyAtWork_28, b_M_isSomebodyAtWork_32, b_M_isSomebodyAtWork_33, b_M_isSomebodyAtWork_40, true_and, and_true, true_implies, false_implies, not_true_eq_false, not_false_eq_true, eq_self, or_true, true_or, false_or, or_false, false_and, and_false, Option.toList_some, Option.toList_none, List.cons_append, List.nil_append, n10, n01, e10, e01, e08, e18, e28, e38, e48, e58, e68, e78, lt_lit, nI_add, pk_mul, n_le, n_lt, n_eq, n_cl, n_in, n_sub, n_div, n_rem, n_ite, Nat.zero_add, r_51_0, r_51_1, r_51_2, r_51_4, r_51_6, r_51_13, r_51_14, r_51_18, r_51_19, r_51_20, r_51_21, k_51, k_52, k_53, k_54, k_55, k_56, k_57, k_58, k_59, k_60, k_61, k_62, n_52, n_53, n_54, n_55, n_56, n_57, n_58, n_59, n_60, n_61, n_62, hr']
        exact got m (k + 1) (by omega) (h1 (by simp [anyN, workN, q.1, q.2]))
      · simp (disch := omega) only [b_M_isSomebodyAtWork_0, b_M_isSomebodyAtWork_4, b_M_isSomebodyAtWork_15, b_M_isSomebodyAtWork_19, b_M_isSomebodyAtWork_25, b_M_isSomebodyAtWork_28, b_M_isSomebodyAtWork_32, b_M_isSomebodyAtWork_33, b_M_isSomebodyAtWork_40, true_and, and_true, true_implies, false_implies, not_true_eq_false, not_false_eq_true, eq_self, or_true, true_or, false_or, or_false, false_and, and_false, Option.toList_some, Option.toList_none, List.cons_append, List.nil_append, n10, n01, e10, e01, e08, e18, e28, e38, e48, e58, e68, e78, lt_lit, nI_add, pk_mul, n_le, n_lt, n_eq, n_cl, n_in, n_sub, n_div, n_rem, n_ite, Nat.zero_add, r_51_0, r_51_1, r_51_2, r_51_4, r_51_6, r_51_13, r_51_14, r_51_18, r_51_19, r_51_20, r_51_21, k_51, k_52, k_53, k_54, k_55, k_56, k_57, k_58, k_59, k_60, k_61, k_62, n_52, n_53, n_54, n_55, n_56, n_57, n_58, n_59, n_60, n_61, n_62, hr']
        have hf : workN w A k = false := by
          cases hh : workN w A k with
          | false => rfl
          | true => exact absurd (by simpa [workN] using hh) q
        refine ih (k + 1) (by omega) (fun q => h1 ?_) (fun q => h0 ?_)
        · rw [anyN, hf, Bool.false_or]; exact q
        · rw [anyN, hf, Bool.false_or]; exact q
  refine i_M_isSomebodyAtWork ?_
  simp (disch := omega) only [b_M_isSomebodyAtWork_0, b_M_isSomebodyAtWork_4, b_M_isSomebodyAtWork_15, b_M_isSomebodyAtWork_19, b_M_isSomebodyAtWork_25, b_M_isSomebodyAtWork_28, b_M_isSomebodyAtWork_32, b_M_isSomebodyAtWork_33, b_M_isSomebodyAtWork_40, true_and, and_true, true_implies, false_implies, not_true_eq_false, not_false_eq_true, eq_self, or_true, true_or, false_or, or_false, false_and, and_false, Option.toList_some, Option.toList_none, List.cons_append, List.nil_append, n10, n01, e10, e01, e08, e18, e28, e38, e48, e58, e68, e78, lt_lit, nI_add, pk_mul, n_le, n_lt, n_eq, n_cl, n_in, n_sub, n_div, n_rem, n_ite, Nat.zero_add, r_51_0, r_51_1, r_51_2, r_51_4, r_51_6, r_51_13, r_51_14, r_51_18, r_51_19, r_51_20, r_51_21, k_51, k_52, k_53, k_54, k_55, k_56, k_57, k_58, k_59, k_60, k_61, k_62, n_52, n_53, n_54, n_55, n_56, n_57, n_58, n_59, n_60, n_61, n_62, hr']
  exact loop (A 68) 0 (by omega) h1 h0
end M7
