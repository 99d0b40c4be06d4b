/-! 30.base -/
theorem n10 : ((1 : Nat) = 0) = False := by decide
theorem n01 : ((0 : Nat) = 1) = False := by decide
theorem e10 : ((1 : Int32) = 0) = False := by decide
theorem e01 : ((0 : Int32) = 1) = False := by decide
theorem e08 : (0 < 8) = True := by decide
theorem e18 : (1 < 8) = True := by decide
theorem e28 : (2 < 8) = True := by decide
theorem e38 : (3 < 8) = True := by decide
theorem e48 : (4 < 8) = True := by decide
theorem e58 : (5 < 8) = True := by decide
theorem e68 : (6 < 8) = True := by decide
theorem e78 : (7 < 8) = True := by decide
theorem q_lt (a b : Int32) : a < b ↔ a.toInt < b.toInt := Int32.lt_iff_toInt_lt
theorem q_le (a b : Int32) : a ≤ b ↔ a.toInt ≤ b.toInt := Int32.le_iff_toInt_le
theorem q_n {n : Nat} (h : n < 2147483648) : (nI n).toInt = (n : Int) := nI_toInt (by omega)
theorem q_c {n : Nat} (h : n < 2147483648) : (nI n).toNatClampNeg = n := nI_clamp (by omega)
theorem q_in {n N : Nat} (h : n < N) (hN : N < 2147483648) : vp_in (nI n) N := vp_in_nI h (by omega)
theorem q_of {x : Int32} {n : Nat} (h : vp_in x n) (hn : n < 2147483648) : ∃ j : Nat, j < n ∧ x = nI j := vp_in_of h (by omega)
theorem q_iff {x : Int32} {n : Nat} (hn : n < 2147483648) : vp_in x (n + 1) ↔ 0 ≤ x ∧ x ≤ nI n := by
  rw [vp_in_iff, q_le, q_le, q_n hn]
  have : (0 : Int32).toInt = 0 := by decide
  rw [this]
  omega
theorem lt_lit (n : Nat) : (OfNat.ofNat n : Int32) = nI n := rfl
theorem n_le {a b : Nat} (ha : a < 2147483648) (hb : b < 2147483648) : (nI a ≤ nI b) = (a ≤ b) := propext (nI_leI (by omega) (by omega))
theorem n_lt {a b : Nat} (ha : a < 2147483648) (hb : b < 2147483648) : (nI a < nI b) = (a < b) := propext (nI_ltI (by omega) (by omega))
theorem n_eq {a b : Nat} (ha : a < 2147483648) (hb : b < 2147483648) : (nI a = nI b) = (a = b) := propext (nI_eq (by omega) (by omega))
theorem n_cl {a : Nat} (ha : a < 2147483648) : (nI a).toNatClampNeg = a := nI_clamp (by omega)
theorem n_in {a N : Nat} (h : a < N) (hN : N < 2147483648) : vp_in (nI a) N = True := eq_true (vp_in_nI h (by omega))
theorem n_sub {a b : Nat} (h : b ≤ a) : nI a - nI b = nI (a - b) := pk_sub h
theorem n_div {a d : Nat} (ha : a < 2147483648) (h0 : 0 < d) (hd : d < 2147483648) : nI a / nI d = nI (a / d) := pk_div (by omega) h0 (by omega)
theorem n_rem {a d : Nat} (ha : a < 2147483648) (h0 : 0 < d) (hd : d < 2147483648) : nI a - nI a / nI d * nI d = nI (a % d) := pk_rem (by omega) h0 (by omega)
/-- how much one of a kind takes where n ears are; what it would draw; how far it goes -/
def shareN (k n : Nat) : Nat := if k = 1 then min 1 n else if k = 2 then n / 3 else if k = 3 then n else if k = 4 then n / 3 else if k = 5 then min 9 n else min (n / 2 + 1) n
def pullN (k m : Nat) : Nat := if k = 4 ∧ m % 2 = 0 then 2 else 0
def paceN (k m : Nat) : Nat := if k = 2 ∨ k = 4 then 2 else if k = 3 ∨ k = 5 then 1 - m % 2 else 1
theorem q_0 : (nI 0).toInt = 0 := by decide
theorem q_iff2 {x : Int32} {n : Nat} (hn : n < 1000000) : vp_in x n ↔ nI 0 ≤ x ∧ x ≤ nI n - nI 1 := by
  rw [vp_in_iff, q_le, q_le, pk_sub_toInt (by omega) (by omega), q_0]
  omega
section B
variable {u : UV} {hi : HI} {hl : HL} {K : Option Value → HI → HL → Prop}
theorem c_isWithin {x a b : Int32} (h1 : (a ≤ x ∧ x ≤ b) → K (some (.int 1)) hi hl) (h0 : ¬ (a ≤ x ∧ x ≤ b) → K (some (.int 0)) hi hl) : Call u 117 [.int x, .int a, .int b] hi hl K := by
  refine i_E_isWithin ?_
  simp only [b_E_isWithin_0, b_E_isWithin_5, b_E_isWithin_10, b_E_isWithin_14, b_E_isWithin_15, true_and, and_true, true_implies, false_implies, not_true_eq_false, not_false_eq_true, eq_self, or_true, true_or, false_or, or_false, false_and, and_false, Option.toList_some, Option.toList_none, List.cons_append, List.nil_append, n10, n01, e10, e01, e08, e18, e28, e38, e48, e58, e68, e78]
  refine ⟨fun h => h0 (fun q => ?_), fun h => ⟨fun h2 => h0 (fun q => ?_), fun h2 => h1 ?_⟩⟩
  · rw [q_lt] at h; rw [q_le, q_le] at q; omega
  · rw [q_lt] at h2; rw [q_le, q_le] at q; omega
  · rw [q_lt] at h h2; rw [q_le, q_le]; omega
theorem c_isRow {x : Int32} (h1 : vp_in x 8 → K (some (.int 1)) hi hl) (h0 : ¬ vp_in x 8 → K (some (.int 0)) hi hl) : Call u 111 [.int x] hi hl K := by
  refine i_E_isRow ?_
  simp only [b_E_isRow_0, b_E_isRow_7]
  refine c_isWithin (fun h => ?_) (fun h => ?_)
  · simp only [b_E_isRow_0, b_E_isRow_7, true_and, and_true, true_implies, false_implies, not_true_eq_false, not_false_eq_true, eq_self, or_true, true_or, false_or, or_false, false_and, and_false, Option.toList_some, Option.toList_none, List.cons_append, List.nil_append, n10, n01, e10, e01, e08, e18, e28, e38, e48, e58, e68, e78]; exact h1 ((q_iff (n := 7) (by omega)).mpr h)
  · simp only [b_E_isRow_0, b_E_isRow_7, true_and, and_true, true_implies, false_implies, not_true_eq_false, not_false_eq_true, eq_self, or_true, true_or, false_or, or_false, false_and, and_false, Option.toList_some, Option.toList_none, List.cons_append, List.nil_append, n10, n01, e10, e01, e08, e18, e28, e38, e48, e58, e68, e78]; exact h0 (fun q => h ((q_iff (n := 7) (by omega)).mp q))
theorem c_isPlace {x : Int32} (h1 : vp_in x 8 → K (some (.int 1)) hi hl) (h0 : ¬ vp_in x 8 → K (some (.int 0)) hi hl) : Call u 112 [.int x] hi hl K := by
  refine i_E_isPlace ?_
  simp only [b_E_isPlace_0, b_E_isPlace_7]
  refine c_isWithin (fun h => ?_) (fun h => ?_)
  · simp only [b_E_isPlace_0, b_E_isPlace_7, true_and, and_true, true_implies, false_implies, not_true_eq_false, not_false_eq_true, eq_self, or_true, true_or, false_or, or_false, false_and, and_false, Option.toList_some, Option.toList_none, List.cons_append, List.nil_append, n10, n01, e10, e01, e08, e18, e28, e38, e48, e58, e68, e78]; exact h1 ((q_iff (n := 7) (by omega)).mpr h)
  · simp only [b_E_isPlace_0, b_E_isPlace_7, true_and, and_true, true_implies, false_implies, not_true_eq_false, not_false_eq_true, eq_self, or_true, true_or, false_or, or_false, false_and, and_false, Option.toList_some, Option.toList_none, List.cons_append, List.nil_append, n10, n01, e10, e01, e08, e18, e28, e38, e48, e58, e68, e78]; exact h0 (fun q => h ((q_iff (n := 7) (by omega)).mp q))
theorem n_ite (c : Prop) [Decidable c] (a b : Nat) : (if c then nI a else nI b) = nI (if c then a else b) := by split <;> rfl
theorem c_share {k n : Nat} (hk : k < 6) (hn : n < 1000000) (h : K (some (.int (nI (shareN k n)))) hi hl) : Call u 214 [.int (nI k), .int (nI n)] hi hl K := by
  refine i_D_share ?_
  simp (disch := omega) only [b_D_share_0, b_D_share_36, b_D_share_42, b_D_share_46, b_D_share_48, b_D_share_55, true_and, and_true, true_implies, false_implies, not_true_eq_false, not_false_eq_true, eq_self, or_true, true_or, false_or, or_false, false_and, and_false, Option.toList_some, Option.toList_none, List.cons_append, List.nil_append, n10, n01, e10, e01, e08, e18, e28, e38, e48, e58, e68, e78, lt_lit, nI_add, pk_mul, n_le, n_lt, n_eq, n_cl, n_in, n_sub, n_div, n_rem, n_ite, Nat.zero_add]
  have h2 : ∀ v, v = shareN k n → K (some (.int (nI v))) hi hl := fun v e => by rw [e]; exact h
  refine ⟨fun q => ⟨by omega, h2 _ ?_⟩, fun q => h2 _ ?_, fun q => ⟨by omega, h2 _ ?_⟩, fun q => h2 _ ?_, fun q => ⟨by omega, h2 _ ?_⟩, fun q => h2 _ ?_⟩
  · obtain ⟨q1, q2, q3, q4, q5⟩ := q
    simp only [shareN, q1, q2, q3, q4, q5, if_false]
    split <;> omega
  · subst q; simp only [shareN]; simp; split <;> omega
  · subst q; simp [shareN]
  · subst q; simp [shareN]
  · subst q; simp [shareN]
  · subst q; simp [shareN]; split <;> omega
theorem c_pull {k m : Nat} (hk : k < 6) (hm : m < 1000000) (h : K (some (.int (nI (pullN k m)))) hi hl) : Call u 215 [.int (nI k), .int (nI m)] hi hl K := by
  refine i_D_pull ?_
  simp (disch := omega) only [b_D_pull_0, b_D_pull_5, b_D_pull_11, b_D_pull_15, b_D_pull_16, true_and, and_true, true_implies, false_implies, not_true_eq_false, not_false_eq_true, eq_self, or_true, true_or, false_or, or_false, false_and, and_false, Option.toList_some, Option.toList_none, List.cons_append, List.nil_append, n10, n01, e10, e01, e08, e18, e28, e38, e48, e58, e68, e78, lt_lit, nI_add, pk_mul, n_le, n_lt, n_eq, n_cl, n_in, n_sub, n_div, n_rem, n_ite, Nat.zero_add]
  have h2 : ∀ v, v = pullN k m → K (some (.int (nI v))) hi hl := fun v e => by rw [e]; exact h
  exact ⟨fun q => h2 _ (by unfold pullN; rw [if_neg (by omega)]), fun q => ⟨by omega, fun q2 => h2 _ (by unfold pullN; rw [if_neg (by omega)]), fun q2 => h2 _ (by unfold pullN; rw [if_pos (by omega)])⟩⟩
theorem c_pace {k m : Nat} (hk : k < 6) (hm : m < 1000000) (h : K (some (.int (nI (paceN k m)))) hi hl) : Call u 216 [.int (nI k), .int (nI m)] hi hl K := by
  refine i_D_pace ?_
  simp (disch := omega) only [b_D_pace_0, b_D_pace_32, b_D_pace_34, b_D_pace_40, b_D_pace_44, b_D_pace_45, b_D_pace_46, true_and, and_true, true_implies, false_implies, not_true_eq_false, not_false_eq_true, eq_self, or_true, true_or, false_or, or_false, false_and, and_false, Option.toList_some, Option.toList_none, List.cons_append, List.nil_append, n10, n01, e10, e01, e08, e18, e28, e38, e48, e58, e68, e78, lt_lit, nI_add, pk_mul, n_le, n_lt, n_eq, n_cl, n_in, n_sub, n_div, n_rem, n_ite, Nat.zero_add]
  have h2 : ∀ v, v = paceN k m → K (some (.int (nI v))) hi hl := fun v e => by rw [e]; exact h
  refine ⟨fun q => h2 _ ?_, fun q => h2 _ ?_, fun q => ⟨by omega, fun q2 => h2 _ ?_, fun q2 => h2 _ ?_⟩, fun q => h2 _ ?_, fun q => ⟨by omega, fun q2 => h2 _ ?_, fun q2 => h2 _ ?_⟩⟩ <;> unfold paceN
  · rw [if_neg (by omega), if_neg (by omega)]
  · rw [if_pos (by omega)]
  · rw [if_neg (by omega), if_pos (by omega)]; omega
  · rw [if_neg (by omega), if_pos (by omega)]; omega
  · rw [if_pos (by omega)]
  · rw [if_neg (by omega), if_pos (by omega)]; omega
  · rw [if_neg (by omega), if_pos (by omega)]; omega
theorem c_takesOf {k n : Nat} (hk : k < 6) (hn : n < 1000000) (h : K (some (.int (nI (shareN k n)))) hi hl) : Call u 138 [.int (nI k), .int (nI n)] hi hl K := by
  refine i_M_takesOf ?_
  simp (disch := omega) only [b_M_takesOf_0, b_M_takesOf_36, b_M_takesOf_42, b_M_takesOf_46, b_M_takesOf_48, b_M_takesOf_55, true_and, and_true, true_implies, false_implies, not_true_eq_false, not_false_eq_true, eq_self, or_true, true_or, false_or, or_false, false_and, and_false, Option.toList_some, Option.toList_none, List.cons_append, List.nil_append, n10, n01, e10, e01, e08, e18, e28, e38, e48, e58, e68, e78, lt_lit, nI_add, pk_mul, n_le, n_lt, n_eq, n_cl, n_in, n_sub, n_div, n_rem, n_ite, Nat.zero_add]
  have h2 : ∀ v, v = shareN k n → K (some (.int (nI v))) hi hl := fun v e => by rw [e]; exact h
  refine ⟨fun q => ⟨by omega, h2 _ ?_⟩, fun q => h2 _ ?_, fun q => ⟨by omega, h2 _ ?_⟩, fun q => h2 _ ?_, fun q => ⟨by omega, h2 _ ?_⟩, fun q => h2 _ ?_⟩
  · obtain ⟨q1, q2, q3, q4, q5⟩ := q
    simp only [shareN, q1, q2, q3, q4, q5, if_false]
    split <;> omega
  · subst q; simp only [shareN]; simp; split <;> omega
  · subst q; simp [shareN]
  · subst q; simp [shareN]
  · subst q; simp [shareN]
  · subst q; simp [shareN]; split <;> omega
theorem c_within {x a b : Int32} (h1 : (a ≤ x ∧ x ≤ b) → K (some (.int 1)) hi hl) (h0 : ¬ (a ≤ x ∧ x ≤ b) → K (some (.int 0)) hi hl) : Call u 119 [.int x, .int a, .int b] hi hl K := by
  refine i_M_within ?_
  simp only [b_M_within_0, b_M_within_5, b_M_within_10, b_M_within_14, b_M_within_15, true_and, and_true, true_implies, false_implies, not_true_eq_false, not_false_eq_true, eq_self, or_true, true_or, false_or, or_false, false_and, and_false, Option.toList_some, Option.toList_none, List.cons_append, List.nil_append, n10, n01, e10, e01, e08, e18, e28, e38, e48, e58, e68, e78]
  refine ⟨fun h => h0 (fun q => ?_), fun h => ⟨fun h2 => h0 (fun q => ?_), fun h2 => h1 ?_⟩⟩
  · rw [q_lt] at h; rw [q_le, q_le] at q; omega
  · rw [q_lt] at h2; rw [q_le, q_le] at q; omega
  · rw [q_lt] at h h2; rw [q_le, q_le]; omega
theorem c_isHouse {x : Int32} (h1 : vp_in x 5 → K (some (.int 1)) hi hl) (h0 : ¬ vp_in x 5 → K (some (.int 0)) hi hl) : Call u 113 [.int x] hi hl K := by
  refine i_E_isHouse ?_
  simp only [b_E_isHouse_0, b_E_isHouse_6]
  refine c_isWithin (fun h => ?_) (fun h => ?_)
  · simp only [b_E_isHouse_0, b_E_isHouse_6, true_and, and_true, true_implies, false_implies, not_true_eq_false, not_false_eq_true, eq_self, or_true, true_or, false_or, or_false, false_and, and_false, Option.toList_some, Option.toList_none, List.cons_append, List.nil_append, n10, n01, e10, e01, e08, e18, e28, e38, e48, e58, e68, e78]; exact h1 ((q_iff (n := 4) (by omega)).mpr h)
  · simp only [b_E_isHouse_0, b_E_isHouse_6, true_and, and_true, true_implies, false_implies, not_true_eq_false, not_false_eq_true, eq_self, or_true, true_or, false_or, or_false, false_and, and_false, Option.toList_some, Option.toList_none, List.cons_append, List.nil_append, n10, n01, e10, e01, e08, e18, e28, e38, e48, e58, e68, e78]; exact h0 (fun q => h ((q_iff (n := 4) (by omega)).mp q))
theorem c_isKind {x : Int32} (h1 : vp_in x 6 → K (some (.int 1)) hi hl) (h0 : ¬ vp_in x 6 → K (some (.int 0)) hi hl) : Call u 114 [.int x] hi hl K := by
  refine i_E_isKind ?_
  simp only [b_E_isKind_0, b_E_isKind_6]
  refine c_isWithin (fun h => ?_) (fun h => ?_)
  · simp only [b_E_isKind_0, b_E_isKind_6, true_and, and_true, true_implies, false_implies, not_true_eq_false, not_false_eq_true, eq_self, or_true, true_or, false_or, or_false, false_and, and_false, Option.toList_some, Option.toList_none, List.cons_append, List.nil_append, n10, n01, e10, e01, e08, e18, e28, e38, e48, e58, e68, e78]; exact h1 ((q_iff (n := 5) (by omega)).mpr h)
  · simp only [b_E_isKind_0, b_E_isKind_6, true_and, and_true, true_implies, false_implies, not_true_eq_false, not_false_eq_true, eq_self, or_true, true_or, false_or, or_false, false_and, and_false, Option.toList_some, Option.toList_none, List.cons_append, List.nil_append, n10, n01, e10, e01, e08, e18, e28, e38, e48, e58, e68, e78]; exact h0 (fun q => h ((q_iff (n := 5) (by omega)).mp q))
theorem c_isSheet {x : Int32} (h1 : vp_in x 4 → K (some (.int 1)) hi hl) (h0 : ¬ vp_in x 4 → K (some (.int 0)) hi hl) : Call u 115 [.int x] hi hl K := by
  refine i_E_isSheet ?_
  simp only [b_E_isSheet_0, b_E_isSheet_6]
  refine c_isWithin (fun h => ?_) (fun h => ?_)
  · simp only [b_E_isSheet_0, b_E_isSheet_6, true_and, and_true, true_implies, false_implies, not_true_eq_false, not_false_eq_true, eq_self, or_true, true_or, false_or, or_false, false_and, and_false, Option.toList_some, Option.toList_none, List.cons_append, List.nil_append, n10, n01, e10, e01, e08, e18, e28, e38, e48, e58, e68, e78]; exact h1 ((q_iff (n := 3) (by omega)).mpr h)
  · simp only [b_E_isSheet_0, b_E_isSheet_6, true_and, and_true, true_implies, false_implies, not_true_eq_false, not_false_eq_true, eq_self, or_true, true_or, false_or, or_false, false_and, and_false, Option.toList_some, Option.toList_none, List.cons_append, List.nil_append, n10, n01, e10, e01, e08, e18, e28, e38, e48, e58, e68, e78]; exact h0 (fun q => h ((q_iff (n := 3) (by omega)).mp q))
theorem c_misSide {x : Int32} (h1 : vp_in x 8 → K (some (.int 1)) hi hl) (h0 : ¬ vp_in x 8 → K (some (.int 0)) hi hl) : Call u 123 [.int x] hi hl K := by
  refine i_M_isSide ?_
  simp only [b_M_isSide_0, b_M_isSide_7]
  refine c_within (fun h => ?_) (fun h => ?_)
  · simp only [b_M_isSide_0, b_M_isSide_7, true_and, and_true, true_implies, false_implies, not_true_eq_false, not_false_eq_true, eq_self, or_true, true_or, false_or, or_false, false_and, and_false, Option.toList_some, Option.toList_none, List.cons_append, List.nil_append, n10, n01, e10, e01, e08, e18, e28, e38, e48, e58, e68, e78]; exact h1 ((q_iff (n := 7) (by omega)).mpr h)
  · simp only [b_M_isSide_0, b_M_isSide_7, true_and, and_true, true_implies, false_implies, not_true_eq_false, not_false_eq_true, eq_self, or_true, true_or, false_or, or_false, false_and, and_false, Option.toList_some, Option.toList_none, List.cons_append, List.nil_append, n10, n01, e10, e01, e08, e18, e28, e38, e48, e58, e68, e78]; exact h0 (fun q => h ((q_iff (n := 7) (by omega)).mp q))
theorem c_misHouse {x : Int32} (h1 : vp_in x 5 → K (some (.int 1)) hi hl) (h0 : ¬ vp_in x 5 → K (some (.int 0)) hi hl) : Call u 135 [.int x] hi hl K := by
  refine i_M_isHouse ?_
  simp only [b_M_isHouse_0, b_M_isHouse_6]
  refine c_within (fun h => ?_) (fun h => ?_)
  · simp only [b_M_isHouse_0, b_M_isHouse_6, true_and, and_true, true_implies, false_implies, not_true_eq_false, not_false_eq_true, eq_self, or_true, true_or, false_or, or_false, false_and, and_false, Option.toList_some, Option.toList_none, List.cons_append, List.nil_append, n10, n01, e10, e01, e08, e18, e28, e38, e48, e58, e68, e78]; exact h1 ((q_iff (n := 4) (by omega)).mpr h)
  · simp only [b_M_isHouse_0, b_M_isHouse_6, true_and, and_true, true_implies, false_implies, not_true_eq_false, not_false_eq_true, eq_self, or_true, true_or, false_or, or_false, false_and, and_false, Option.toList_some, Option.toList_none, List.cons_append, List.nil_append, n10, n01, e10, e01, e08, e18, e28, e38, e48, e58, e68, e78]; exact h0 (fun q => h ((q_iff (n := 4) (by omega)).mp q))
theorem c_misKind {x : Int32} (h1 : vp_in x 6 → K (some (.int 1)) hi hl) (h0 : ¬ vp_in x 6 → K (some (.int 0)) hi hl) : Call u 134 [.int x] hi hl K := by
  refine i_M_isKind ?_
  simp only [b_M_isKind_0, b_M_isKind_6]
  refine c_within (fun h => ?_) (fun h => ?_)
  · simp only [b_M_isKind_0, b_M_isKind_6, true_and, and_true, true_implies, false_implies, not_true_eq_false, not_false_eq_true, eq_self, or_true, true_or, false_or, or_false, false_and, and_false, Option.toList_some, Option.toList_none, List.cons_append, List.nil_append, n10, n01, e10, e01, e08, e18, e28, e38, e48, e58, e68, e78]; exact h1 ((q_iff (n := 5) (by omega)).mpr h)
  · simp only [b_M_isKind_0, b_M_isKind_6, true_and, and_true, true_implies, false_implies, not_true_eq_false, not_false_eq_true, eq_self, or_true, true_or, false_or, or_false, false_and, and_false, Option.toList_some, Option.toList_none, List.cons_append, List.nil_append, n10, n01, e10, e01, e08, e18, e28, e38, e48, e58, e68, e78]; exact h0 (fun q => h ((q_iff (n := 5) (by omega)).mp q))
theorem c_misSheet {x : Int32} (h1 : vp_in x 4 → K (some (.int 1)) hi hl) (h0 : ¬ vp_in x 4 → K (some (.int 0)) hi hl) : Call u 200 [.int x] hi hl K := by
  refine i_M_isSheet ?_
  simp only [b_M_isSheet_0, b_M_isSheet_6]
  refine c_within (fun h => ?_) (fun h => ?_)
  · simp only [b_M_isSheet_0, b_M_isSheet_6, true_and, and_true, true_implies, false_implies, not_true_eq_false, not_false_eq_true, eq_self, or_true, true_or, false_or, or_false, false_and, and_false, Option.toList_some, Option.toList_none, List.cons_append, List.nil_append, n10, n01, e10, e01, e08, e18, e28, e38, e48, e58, e68, e78]; exact h1 ((q_iff (n := 3) (by omega)).mpr h)
  · simp only [b_M_isSheet_0, b_M_isSheet_6, true_and, and_true, true_implies, false_implies, not_true_eq_false, not_false_eq_true, eq_self, or_true, true_or, false_or, or_false, false_and, and_false, Option.toList_some, Option.toList_none, List.cons_append, List.nil_append, n10, n01, e10, e01, e08, e18, e28, e38, e48, e58, e68, e78]; exact h0 (fun q => h ((q_iff (n := 3) (by omega)).mp q))
end B
/-! 31.model -/
/-- the reference's row: its numbers as far as there are gleaners -/
def Mr (hi : HI) (A : Nat → Nat) : Prop := ∀ k, k < 69 + 8 * A 68 → hi 52 k = nI (A k)
def up (A : Nat → Nat) (k v : Nat) : Nat → Nat := fun j => if j = k then v else A j
theorem up_eq (A : Nat → Nat) (k v : Nat) : up A k v k = v := by simp [up]
theorem up_ne (A : Nat → Nat) {k v j : Nat} (h : j ≠ k) : up A k v j = A j := by simp [up, h]
theorem u2_eq {hi : HI} {h k : Nat} {v : Int32} : up2 hi h k v h k = v := by simp [up2, upd]
theorem u2_nk {hi : HI} {h k j : Nat} {v : Int32} (q : j ≠ k) : up2 hi h k v h j = hi h j := by simp [up2, upd, q]
theorem u2_nh {hi : HI} {h k o j : Nat} {v : Int32} (q : o ≠ h) : up2 hi h k v o j = hi o j := by simp [up2, q]
theorem Mr.up {hi : HI} {A : Nat → Nat} {k v : Nat} (h : Mr hi A) (hk : k ≠ 68) : Mr (up2 hi 52 k (nI v)) (up A k v) := by
  intro j hj
  rw [up_ne A (show (68 : Nat) ≠ k from fun q => hk q.symm)] at hj
  by_cases q : j = k
  · subst q; rw [u2_eq, up_eq]
  · rw [u2_nk q, up_ne A q]; exact h j hj
section M
variable {u : UV} {hi : HI} {hl : HL} {K : Option Value → HI → HL → Prop} {A : Nat → Nat}
theorem c_at {g f : Nat} (hg : g < 1000) (hf : f < 1000) (h : K (some (.int (nI (69 + 8 * g + f)))) hi hl) : Call u 132 [.int (nI g), .int (nI f)] hi hl K := by
  refine i_M_at ?_
  simp (disch := omega) only [b_M_at_0, true_and, and_true, true_implies, false_implies, not_true_eq_false, not_false_eq_true, eq_self, or_true, true_or, false_or, or_false, false_and, and_false, Option.toList_some, Option.toList_none, List.cons_append, List.nil_append, n10, n01, e10, e01, e08, e18, e28, e38, e48, e58, e68, e78, lt_lit, nI_add, pk_mul, n_le, n_lt, n_eq, n_cl, n_in, n_sub, n_div, n_rem, n_ite, Nat.zero_add]
  exact h
theorem c_gleanerIs {g f : Nat} (hr : Mr hi A) (hn : A 68 ≤ 9) (hg : g < A 68) (hf : f < 8) (h : K (some (.int (nI (A (69 + 8 * g + f))))) hi hl) : Call u 133 [.ref 51, .int (nI g), .int (nI f)] hi hl K := by
  refine i_M_gleanerIs ?_
  simp (disch := omega) only [b_M_gleanerIs_0, b_M_gleanerIs_9, true_and, and_true, true_implies, false_implies, not_true_eq_false, not_false_eq_true, eq_self, or_true, true_or, false_or, or_false, false_and, and_false, Option.toList_some, Option.toList_none, List.cons_append, List.nil_append, n10, n01, e10, e01, e08, e18, e28, e38, e48, e58, e68, e78, lt_lit, nI_add, pk_mul, n_le, n_lt, n_eq, n_cl, n_in, n_sub, n_div, n_rem, n_ite, Nat.zero_add, r_51_0, r_51_1, r_51_2, r_51_4, r_51_6, r_51_13, r_51_14, r_51_18, r_51_19, r_51_20, r_51_21, k_51, k_52, k_53, k_54, k_55, k_56, k_57, k_58, k_59, k_60, k_61, k_62, n_52, n_53, n_54, n_55, n_56, n_57, n_58, n_59, n_60, n_61, n_62]
  refine c_at (by omega) (by omega) ?_
  simp (disch := omega) only [b_M_gleanerIs_0, b_M_gleanerIs_9, true_and, and_true, true_implies, false_implies, not_true_eq_false, not_false_eq_true, eq_self, or_true, true_or, false_or, or_false, false_and, and_false, Option.toList_some, Option.toList_none, List.cons_append, List.nil_append, n10, n01, e10, e01, e08, e18, e28, e38, e48, e58, e68, e78, lt_lit, nI_add, pk_mul, n_le, n_lt, n_eq, n_cl, n_in, n_sub, n_div, n_rem, n_ite, Nat.zero_add, r_51_0, r_51_1, r_51_2, r_51_4, r_51_6, r_51_13, r_51_14, r_51_18, r_51_19, r_51_20, r_51_21, k_51, k_52, k_53, k_54, k_55, k_56, k_57, k_58, k_59, k_60, k_61, k_62, n_52, n_53, n_54, n_55, n_56, n_57, n_58, n_59, n_60, n_61, n_62]
  rw [hr _ (by omega)]
  exact h
theorem c_mfinding {w : Int32} {j : Nat} (hj : j < 7) (e : (-1000000001 : Int32) - w = nI j) (h : K (some (.int w)) (up2 (up2 hi 55 (j + 1) (hi 55 (j + 1) + nI 1)) 55 0 (hi 55 0 + nI 1)) hl) : Call u 118 [.ref 51, .int w] hi hl K := by
  refine i_M_finding ?_
  have e1 : (1 : Int32) = nI 1 := rfl
  have e0 : (0 : Int32) = nI 0 := rfl
  simp only [b_M_finding_0, true_and, and_true, true_implies, false_implies, not_true_eq_false, not_false_eq_true, eq_self, or_true, true_or, false_or, or_false, false_and, and_false, Option.toList_some, Option.toList_none, List.cons_append, List.nil_append, n10, n01, e10, e01, e08, e18, e28, e38, e48, e58, e68, e78, r_51_0, r_51_1, r_51_2, r_51_4, r_51_6, r_51_13, r_51_14, r_51_18, r_51_19, r_51_20, r_51_21, k_51, k_52, k_53, k_54, k_55, k_56, k_57, k_58, k_59, k_60, k_61, k_62, n_52, n_53, n_54, n_55, n_56, n_57, n_58, n_59, n_60, n_61, n_62, e]
  simp (disch := omega) only [e1, e0, nI_add, n_cl, n_in, true_and, and_true, true_implies, false_implies, not_true_eq_false, not_false_eq_true, eq_self, or_true, true_or, false_or, or_false, false_and, and_false, Option.toList_some, Option.toList_none, List.cons_append, List.nil_append, n10, n01, e10, e01, e08, e18, e28, e38, e48, e58, e68, e78, u2_nk]
  exact h
theorem c_misGleaner {x : Int32} (hr : Mr hi A) (hn : A 68 ≤ 9) (h1 : vp_in x (A 68) → K (some (.int 1)) hi hl) (h0 : ¬ vp_in x (A 68) → K (some (.int 0)) hi hl) : Call u 131 [.ref 51, .int x] hi hl K := by
  refine i_M_isGleaner ?_
  simp (disch := omega) only [b_M_isGleaner_0, b_M_isGleaner_14, true_and, and_true, true_implies, false_implies, not_true_eq_false, not_false_eq_true, eq_self, or_true, true_or, false_or, or_false, false_and, and_false, Option.toList_some, Option.toList_none, List.cons_append, List.nil_append, n10, n01, e10, e01, e08, e18, e28, e38, e48, e58, e68, e78, lt_lit, nI_add, pk_mul, n_le, n_lt, n_eq, n_cl, n_in, n_sub, n_div, n_rem, n_ite, Nat.zero_add, r_51_0, r_51_1, r_51_2, r_51_4, r_51_6, r_51_13, r_51_14, r_51_18, r_51_19, r_51_20, r_51_21, k_51, k_52, k_53, k_54, k_55, k_56, k_57, k_58, k_59, k_60, k_61, k_62, n_52, n_53, n_54, n_55, n_56, n_57, n_58, n_59, n_60, n_61, n_62, hr 68 (by omega)]
  refine c_within (fun h => ?_) (fun h => ?_)
  · simp only [b_M_isGleaner_0, b_M_isGleaner_14, true_and, and_true, true_implies, false_implies, not_true_eq_false, not_false_eq_true, eq_self, or_true, true_or, false_or, or_false, false_and, and_false, Option.toList_some, Option.toList_none, List.cons_append, List.nil_append, n10, n01, e10, e01, e08, e18, e28, e38, e48, e58, e68, e78]; exact h1 ((q_iff2 (by omega)).mpr h)
  · simp only [b_M_isGleaner_0, b_M_isGleaner_14, true_and, and_true, true_implies, false_implies, not_true_eq_false, not_false_eq_true, eq_self, or_true, true_or, false_or, or_false, false_and, and_false, Option.toList_some, Option.toList_none, List.cons_append, List.nil_append, n10, n01, e10, e01, e08, e18, e28, e38, e48, e58, e68, e78]; exact h0 (fun q => h ((q_iff2 (by omega)).mp q))
theorem c_become {k v : Nat} (hr : Mr hi A) (hk : k < 69 + 8 * A 68) (hn : A 68 ≤ 9) (h : K (some (.int (nI (A k)))) (up2 hi 52 k (nI v)) hl) : Call u 120 [.ref 51, .int (nI k), .int (nI v)] hi hl K := by
  refine i_M_become ?_
  simp (disch := omega) only [b_M_become_0, true_and, and_true, true_implies, false_implies, not_true_eq_false, not_false_eq_true, eq_self, or_true, true_or, false_or, or_false, false_and, and_false, Option.toList_some, Option.toList_none, List.cons_append, List.nil_append, n10, n01, e10, e01, e08, e18, e28, e38, e48, e58, e68, e78, lt_lit, nI_add, pk_mul, n_le, n_lt, n_eq, n_cl, n_in, n_sub, n_div, n_rem, n_ite, Nat.zero_add, r_51_0, r_51_1, r_51_2, r_51_4, r_51_6, r_51_13, r_51_14, r_51_18, r_51_19, r_51_20, r_51_21, k_51, k_52, k_53, k_54, k_55, k_56, k_57, k_58, k_59, k_60, k_61, k_62, n_52, n_53, n_54, n_55, n_56, n_57, n_58, n_59, n_60, n_61, n_62, hr k hk]
  exact h
/-- a sum over a stretch -/
def smN (f : Nat → Nat) : Nat → Nat → Nat
  | _, 0 => 0
  | a, n + 1 => f a + smN f (a + 1) n
theorem c_earsOf {a b : Nat} (hr : Mr hi A) (hok : ∀ k, k < 64 → A k ≤ 99) (hab : a ≤ b) (hb : b ≤ 64) (h : K (some (.int (nI (smN A a (b - a))))) hi hl) : Call u 126 [.ref 51, .int (nI a), .int (nI b)] hi hl K := by
  have loop : ∀ n a s, a + n = b → s ≤ 100 * a → K (some (.int (nI (s + smN A a n)))) hi hl → ∀ x1, Wp u 126 5 [.ref 51, .int x1, .int (nI b), .int (nI s), .int (nI a)] [] hi hl K := by
    intro n
    induction n with
    | zero =>
      intro a s e hs h x1
      refine wv (by decide) ?_
      simp (disch := omega) only [b_M_earsOf_0, b_M_earsOf_5, b_M_earsOf_11, b_M_earsOf_29, true_and, and_true, true_implies, false_implies, not_true_eq_false, not_false_eq_true, eq_self, or_true, true_or, false_or, or_false, false_and, and_false, Option.toList_some, Option.toList_none, List.cons_append, List.nil_append, n10, n01, e10, e01, e08, e18, e28, e38, e48, e58, e68, e78, lt_lit, nI_add, pk_mul, n_le, n_lt, n_eq, n_cl, n_in, n_sub, n_div, n_rem, n_ite, Nat.zero_add, r_51_0, r_51_1, r_51_2, r_51_4, r_51_6, r_51_13, r_51_14, r_51_18, r_51_19, r_51_20, r_51_21, k_51, k_52, k_53, k_54, k_55, k_56, k_57, k_58, k_59, k_60, k_61, k_62, n_52, n_53, n_54, n_55, n_56, n_57, n_58, n_59, n_60, n_61, n_62]
      refine ⟨fun _ => ?_, fun q => absurd (by omega) q⟩
      simpa [smN] using h
    | succ n ih =>
      intro a s e hs h x1
      refine wv (by decide) ?_
      have hr' : ∀ k, k < 69 + 8 * A 68 → hi 52 k = nI (A k) := hr
      simp (disch := omega) only [b_M_earsOf_0, b_M_earsOf_5, b_M_earsOf_11, b_M_earsOf_29, true_and, and_true, true_implies, false_implies, not_true_eq_false, not_false_eq_true, eq_self, or_true, true_or, false_or, or_false, false_and, and_false, Option.toList_some, Option.toList_none, List.cons_append, List.nil_append, n10, n01, e10, e01, e08, e18, e28, e38, e48, e58, e68, e78, lt_lit, nI_add, pk_mul, n_le, n_lt, n_eq, n_cl, n_in, n_sub, n_div, n_rem, n_ite, Nat.zero_add, r_51_0, r_51_1, r_51_2, r_51_4, r_51_6, r_51_13, r_51_14, r_51_18, r_51_19, r_51_20, r_51_21, k_51, k_52, k_53, k_54, k_55, k_56, k_57, k_58, k_59, k_60, k_61, k_62, n_52, n_53, n_54, n_55, n_56, n_57, n_58, n_59, n_60, n_61, n_62, hr']
      refine ⟨fun q => absurd q (by omega), fun _ => ?_⟩
      have := hok a (by omega)
      exact ih (a + 1) (s + A a) (by omega) (by omega) (by rw [smN, ← Nat.add_assoc] at h; exact h) x1
  refine i_M_earsOf ?_
  simp (disch := omega) only [b_M_earsOf_0, b_M_earsOf_5, b_M_earsOf_11, b_M_earsOf_29, true_and, and_true, true_implies, false_implies, not_true_eq_false, not_false_eq_true, eq_self, or_true, true_or, false_or, or_false, false_and, and_false, Option.toList_some, Option.toList_none, List.cons_append, List.nil_append, n10, n01, e10, e01, e08, e18, e28, e38, e48, e58, e68, e78, lt_lit, nI_add, pk_mul, n_le, n_lt, n_eq, n_cl, n_in, n_sub, n_div, n_rem, n_ite, Nat.zero_add, r_51_0, r_51_1, r_51_2, r_51_4, r_51_6, r_51_13, r_51_14, r_51_18, r_51_19, r_51_20, r_51_21, k_51, k_52, k_53, k_54, k_55, k_56, k_57, k_58, k_59, k_60, k_61, k_62, n_52, n_53, n_54, n_55, n_56, n_57, n_58, n_59, n_60, n_61, n_62]
  exact loop (b - a) a 0 (by omega) (by omega) (by simpa using h) _
end M
/-! 32.row -/
/-! a field as a row of numbers, and what a minute does to it -/
def glOk (B : Nat) (A : Nat → Nat) (g : Nat) : Prop := A (69 + 8 * g) ≤ 5 ∧ A (70 + 8 * g) ≤ 7 ∧ A (71 + 8 * g) ≤ 7 ∧ A (72 + 8 * g) ≤ 4 ∧ A (73 + 8 * g) ≤ B ∧ A (74 + 8 * g) ≤ A (73 + 8 * g) ∧ A (75 + 8 * g) ≤ 1 ∧ A (76 + 8 * g) ≤ 1
def rowOk (B : Nat) (A : Nat → Nat) : Prop := (∀ k, k < 64 → A k ≤ 99) ∧ A 64 ≤ 10200 ∧ A 65 ≤ 999 ∧ A 66 ≤ 9999 ∧ A 67 ≤ 9999 ∧ A 68 ≤ 9 ∧ ∀ g, g < A 68 → glOk B A g
def atN (A : Nat → Nat) (g : Nat) : Nat := 8 * A (70 + 8 * g) + A (71 + 8 * g)
def tk1 (A : Nat → Nat) (g : Nat) : Nat := shareN (A (69 + 8 * g)) (A (atN A g))
def dr1 (A : Nat → Nat) (g : Nat) : Nat := min (pullN (A (69 + 8 * g)) (A 64)) (A 67)
def take (A : Nat → Nat) (g : Nat) : Nat → Nat := up (up (up (up A (atN A g) (A (atN A g) - tk1 A g)) 67 (A 67 - dr1 A g)) (73 + 8 * g) (A (73 + 8 * g) + (tk1 A g + dr1 A g))) (74 + 8 * g) (A (74 + 8 * g) + dr1 A g)
theorem share_le (k n : Nat) : shareN k n ≤ n := by
  unfold shareN
  repeat' split
  all_goals omega
theorem pull_le (k m : Nat) : pullN k m ≤ 2 := by
  unfold pullN
  split <;> omega
/-- a step of gleaner g -/
def stepN (A : Nat → Nat) (g : Nat) : Nat → Nat :=
  if A (75 + 8 * g) = 1 then (if A (71 + 8 * g) = 0 then (if A (70 + 8 * g) = 7 then up A (76 + 8 * g) 1 else up (up A (70 + 8 * g) (A (70 + 8 * g) + 1)) (75 + 8 * g) 0) else up A (71 + 8 * g) (A (71 + 8 * g) - 1))
  else (if A (71 + 8 * g) = 7 then (if A (70 + 8 * g) = 7 then up A (76 + 8 * g) 1 else up (up A (70 + 8 * g) (A (70 + 8 * g) + 1)) (75 + 8 * g) 1) else up A (71 + 8 * g) (A (71 + 8 * g) + 1))
section M2
variable {u : UV} {hi : HI} {hl : HL} {K : Option Value → HI → HL → Prop} {A : Nat → Nat} {B : Nat}
theorem c_under {g : Nat} (hr : Mr hi A) (ok : rowOk B A) (hg : g < A 68) (h : K (some (.int (nI (atN A g)))) hi hl) : Call u 140 [.ref 51, .int (nI g)] hi hl K := by
  obtain ⟨o1, o2, o3, o4, o5, o6, o7⟩ := ok
  obtain ⟨g1, g2, g3, g4, g5, g6, g7, g8⟩ := o7 g hg
  refine i_M_under ?_
  simp (disch := omega) only [b_M_under_0, b_M_under_9, b_M_under_17, true_and, and_true, true_implies, false_implies, not_true_eq_false, not_false_eq_true, eq_self, or_true, true_or, false_or, or_false, false_and, and_false, Option.toList_some, Option.toList_none, List.cons_append, List.nil_append, n10, n01, e10, e01, e08, e18, e28, e38, e48, e58, e68, e78, lt_lit, nI_add, pk_mul, n_le, n_lt, n_eq, n_cl, n_in, n_sub, n_div, n_rem, n_ite, Nat.zero_add, r_51_0, r_51_1, r_51_2, r_51_4, r_51_6, r_51_13, r_51_14, r_51_18, r_51_19, r_51_20, r_51_21, k_51, k_52, k_53, k_54, k_55, k_56, k_57, k_58, k_59, k_60, k_61, k_62, n_52, n_53, n_54, n_55, n_56, n_57, n_58, n_59, n_60, n_61, n_62]
  refine c_gleanerIs hr o6 hg (by omega) ?_
  simp (disch := omega) only [b_M_under_0, b_M_under_9, b_M_under_17, true_and, and_true, true_implies, false_implies, not_true_eq_false, not_false_eq_true, eq_self, or_true, true_or, false_or, or_false, false_and, and_false, Option.toList_some, Option.toList_none, List.cons_append, List.nil_append, n10, n01, e10, e01, e08, e18, e28, e38, e48, e58, e68, e78, lt_lit, nI_add, pk_mul, n_le, n_lt, n_eq, n_cl, n_in, n_sub, n_div, n_rem, n_ite, Nat.zero_add, r_51_0, r_51_1, r_51_2, r_51_4, r_51_6, r_51_13, r_51_14, r_51_18, r_51_19, r_51_20, r_51_21, k_51, k_52, k_53, k_54, k_55, k_56, k_57, k_58, k_59, k_60, k_61, k_62, n_52, n_53, n_54, n_55, n_56, n_57, n_58, n_59, n_60, n_61, n_62]
  refine c_gleanerIs hr o6 hg (by omega) ?_
  simp (disch := omega) only [b_M_under_0, b_M_under_9, b_M_under_17, true_and, and_true, true_implies, false_implies, not_true_eq_false, not_false_eq_true, eq_self, or_true, true_or, false_or, or_false, false_and, and_false, Option.toList_some, Option.toList_none, List.cons_append, List.nil_append, n10, n01, e10, e01, e08, e18, e28, e38, e48, e58, e68, e78, lt_lit, nI_add, pk_mul, n_le, n_lt, n_eq, n_cl, n_in, n_sub, n_div, n_rem, n_ite, Nat.zero_add, r_51_0, r_51_1, r_51_2, r_51_4, r_51_6, r_51_13, r_51_14, r_51_18, r_51_19, r_51_20, r_51_21, k_51, k_52, k_53, k_54, k_55, k_56, k_57, k_58, k_59, k_60, k_61, k_62, n_52, n_53, n_54, n_55, n_56, n_57, n_58, n_59, n_60, n_61, n_62]
  rw [show 69 + 8 * g + 1 = 70 + 8 * g by omega, show 69 + 8 * g + 2 = 71 + 8 * g by omega]
  exact h
theorem c_goes {g : Nat} (hr : Mr hi A) (ok : rowOk B A) (hg : g < A 68) (h : K (some (.int (nI (paceN (A (69 + 8 * g)) (A 64))))) hi hl) : Call u 139 [.ref 51, .int (nI g)] hi hl K := by
  obtain ⟨o1, o2, o3, o4, o5, o6, o7⟩ := ok
  obtain ⟨g1, g2, g3, g4, g5, g6, g7, g8⟩ := o7 g hg
  have hr' : ∀ k, k < 69 + 8 * A 68 → hi 52 k = nI (A k) := hr
  refine i_M_goes ?_
  simp (disch := omega) only [b_M_goes_0, b_M_goes_6, b_M_goes_12, b_M_goes_17, b_M_goes_21, b_M_goes_26, b_M_goes_31, b_M_goes_45, b_M_goes_46, true_and, and_true, true_implies, false_implies, not_true_eq_false, not_false_eq_true, eq_self, or_true, true_or, false_or, or_false, false_and, and_false, Option.toList_some, Option.toList_none, List.cons_append, List.nil_append, n10, n01, e10, e01, e08, e18, e28, e38, e48, e58, e68, e78, lt_lit, nI_add, pk_mul, n_le, n_lt, n_eq, n_cl, n_in, n_sub, n_div, n_rem, n_ite, Nat.zero_add, r_51_0, r_51_1, r_51_2, r_51_4, r_51_6, r_51_13, r_51_14, r_51_18, r_51_19, r_51_20, r_51_21, k_51, k_52, k_53, k_54, k_55, k_56, k_57, k_58, k_59, k_60, k_61, k_62, n_52, n_53, n_54, n_55, n_56, n_57, n_58, n_59, n_60, n_61, n_62]
  refine c_gleanerIs hr o6 hg (by omega) ?_
  simp (disch := omega) only [b_M_goes_0, b_M_goes_6, b_M_goes_12, b_M_goes_17, b_M_goes_21, b_M_goes_26, b_M_goes_31, b_M_goes_45, b_M_goes_46, true_and, and_true, true_implies, false_implies, not_true_eq_false, not_false_eq_true, eq_self, or_true, true_or, false_or, or_false, false_and, and_false, Option.toList_some, Option.toList_none, List.cons_append, List.nil_append, n10, n01, e10, e01, e08, e18, e28, e38, e48, e58, e68, e78, lt_lit, nI_add, pk_mul, n_le, n_lt, n_eq, n_cl, n_in, n_sub, n_div, n_rem, n_ite, Nat.zero_add, r_51_0, r_51_1, r_51_2, r_51_4, r_51_6, r_51_13, r_51_14, r_51_18, r_51_19, r_51_20, r_51_21, k_51, k_52, k_53, k_54, k_55, k_56, k_57, k_58, k_59, k_60, k_61, k_62, n_52, n_53, n_54, n_55, n_56, n_57, n_58, n_59, n_60, n_61, n_62, hr', Nat.add_zero]
  have h2 : ∀ v, v = paceN (A (69 + 8 * g)) (A 64) → K (some (.int (nI v))) hi hl := fun v e => by rw [e]; exact h
  repeat' (first | apply And.intro | intro _)
  all_goals first | omega | exact h2 _ (by unfold paceN; (repeat' split) <;> omega)
theorem take_68 (A : Nat → Nat) (g : Nat) (hg : g < 9) (hat : atN A g < 64) : take A g 68 = A 68 := by
  unfold take
  rw [up_ne _ (by omega), up_ne _ (by omega), up_ne _ (by omega), up_ne _ (by omega)]
theorem c_takesNow {g : Nat} (hr : Mr hi A) (ok : rowOk B A) (hB : B < 100000000) (hg : g < A 68) (h : ∀ hi', Mr hi' (take A g) → (∀ o, o ≠ 52 → hi' o = hi o) → K (some (.int (nI (tk1 A g + dr1 A g)))) hi' hl) : Call u 148 [.ref 51, .int (nI g)] hi hl K := by
  have ok' := ok
  obtain ⟨o1, o2, o3, o4, o5, o6, o7⟩ := ok
  obtain ⟨g1, g2, g3, g4, g5, g6, g7, g8⟩ := o7 g hg
  have hat : atN A g < 64 := by unfold atN; omega
  have ha99 := o1 _ hat
  have hr' : ∀ k, k < 69 + 8 * A 68 → hi 52 k = nI (A k) := hr
  have hsh : tk1 A g ≤ A (atN A g) := share_le _ _
  have hdr : dr1 A g ≤ 2 ∧ dr1 A g ≤ A 67 := by
    have := pull_le (A (69 + 8 * g)) (A 64)
    unfold dr1; omega
  have J : ∀ n c l3, c = dr1 A g → vc u (n + 100) 148 57 [.ref 51, .int (nI g), .int (nI (tk1 A g)), l3] [.int (nI c)] hi hl K := by
    intro n c l3 e
    subst e
    simp (disch := omega) only [b_M_takesNow_0, b_M_takesNow_6, b_M_takesNow_15, b_M_takesNow_19, b_M_takesNow_26, b_M_takesNow_30, b_M_takesNow_42, b_M_takesNow_56, b_M_takesNow_57, b_M_takesNow_67, b_M_takesNow_92, b_M_takesNow_108, true_and, and_true, true_implies, false_implies, not_true_eq_false, not_false_eq_true, eq_self, or_true, true_or, false_or, or_false, false_and, and_false, Option.toList_some, Option.toList_none, List.cons_append, List.nil_append, n10, n01, e10, e01, e08, e18, e28, e38, e48, e58, e68, e78, lt_lit, nI_add, pk_mul, n_le, n_lt, n_eq, n_cl, n_in, n_sub, n_div, n_rem, n_ite, Nat.zero_add, r_51_0, r_51_1, r_51_2, r_51_4, r_51_6, r_51_13, r_51_14, r_51_18, r_51_19, r_51_20, r_51_21, k_51, k_52, k_53, k_54, k_55, k_56, k_57, k_58, k_59, k_60, k_61, k_62, n_52, n_53, n_54, n_55, n_56, n_57, n_58, n_59, n_60, n_61, n_62]
    refine c_under hr ok' hg ?_
    simp (disch := omega) only [b_M_takesNow_0, b_M_takesNow_6, b_M_takesNow_15, b_M_takesNow_19, b_M_takesNow_26, b_M_takesNow_30, b_M_takesNow_42, b_M_takesNow_56, b_M_takesNow_57, b_M_takesNow_67, b_M_takesNow_92, b_M_takesNow_108, true_and, and_true, true_implies, false_implies, not_true_eq_false, not_false_eq_true, eq_self, or_true, true_or, false_or, or_false, false_and, and_false, Option.toList_some, Option.toList_none, List.cons_append, List.nil_append, n10, n01, e10, e01, e08, e18, e28, e38, e48, e58, e68, e78, lt_lit, nI_add, pk_mul, n_le, n_lt, n_eq, n_cl, n_in, n_sub, n_div, n_rem, n_ite, Nat.zero_add, r_51_0, r_51_1, r_51_2, r_51_4, r_51_6, r_51_13, r_51_14, r_51_18, r_51_19, r_51_20, r_51_21, k_51, k_52, k_53, k_54, k_55, k_56, k_57, k_58, k_59, k_60, k_61, k_62, n_52, n_53, n_54, n_55, n_56, n_57, n_58, n_59, n_60, n_61, n_62, hr', u2_nk]
    refine c_at (by omega) (by omega) ?_
    have hm1 := (hr.up (k := atN A g) (v := A (atN A g) - tk1 A g) (by omega)).up (k := 67) (v := A 67 - dr1 A g) (by omega)
    have hq : ∀ o, o ≠ 52 → up2 (up2 hi 52 (atN A g) (nI (A (atN A g) - tk1 A g))) 52 67 (nI (A 67 - dr1 A g)) o = hi o := fun o ho => by funext j; rw [u2_nh ho, u2_nh ho]
    generalize up2 (up2 hi 52 (atN A g) (nI (A (atN A g) - tk1 A g))) 52 67 (nI (A 67 - dr1 A g)) = h1 at hm1 hq ⊢
    have hm2 := hm1.up (k := 73 + 8 * g) (v := A (73 + 8 * g) + (tk1 A g + dr1 A g)) (by omega)
    have hm3 := hm2.up (k := 74 + 8 * g) (v := A (74 + 8 * g) + dr1 A g) (by omega)
    have r4 : h1 52 (73 + 8 * g) = nI (A (73 + 8 * g)) := by
      rw [hm1 _ (by rw [up_ne _ (by omega), up_ne _ (by omega)]; omega), up_ne _ (by omega), up_ne _ (by omega)]
    have r5 : h1 52 (74 + 8 * g) = nI (A (74 + 8 * g)) := by
      rw [hm1 _ (by rw [up_ne _ (by omega), up_ne _ (by omega)]; omega), up_ne _ (by omega), up_ne _ (by omega)]
    simp (disch := omega) only [b_M_takesNow_0, b_M_takesNow_6, b_M_takesNow_15, b_M_takesNow_19, b_M_takesNow_26, b_M_takesNow_30, b_M_takesNow_42, b_M_takesNow_56, b_M_takesNow_57, b_M_takesNow_67, b_M_takesNow_92, b_M_takesNow_108, true_and, and_true, true_implies, false_implies, not_true_eq_false, not_false_eq_true, eq_self, or_true, true_or, false_or, or_false, false_and, and_false, Option.toList_some, Option.toList_none, List.cons_append, List.nil_append, n10, n01, e10, e01, e08, e18, e28, e38, e48, e58, e68, e78, lt_lit, nI_add, pk_mul, n_le, n_lt, n_eq, n_cl, n_in, n_sub, n_div, n_rem, n_ite, Nat.zero_add, r_51_0, r_51_1, r_51_2, r_51_4, r_51_6, r_51_13, r_51_14, r_51_18, r_51_19, r_51_20, r_51_21, k_51, k_52, k_53, k_54, k_55, k_56, k_57, k_58, k_59, k_60, k_61, k_62, n_52, n_53, n_54, n_55, n_56, n_57, n_58, n_59, n_60, n_61, n_62, show 69 + 8 * g + 4 = 73 + 8 * g by omega, r4, List.cons_append, List.nil_append, Option.toList]
    refine c_at (by omega) (by omega) ?_
    simp (disch := omega) only [b_M_takesNow_0, b_M_takesNow_6, b_M_takesNow_15, b_M_takesNow_19, b_M_takesNow_26, b_M_takesNow_30, b_M_takesNow_42, b_M_takesNow_56, b_M_takesNow_57, b_M_takesNow_67, b_M_takesNow_92, b_M_takesNow_108, true_and, and_true, true_implies, false_implies, not_true_eq_false, not_false_eq_true, eq_self, or_true, true_or, false_or, or_false, false_and, and_false, Option.toList_some, Option.toList_none, List.cons_append, List.nil_append, n10, n01, e10, e01, e08, e18, e28, e38, e48, e58, e68, e78, lt_lit, nI_add, pk_mul, n_le, n_lt, n_eq, n_cl, n_in, n_sub, n_div, n_rem, n_ite, Nat.zero_add, r_51_0, r_51_1, r_51_2, r_51_4, r_51_6, r_51_13, r_51_14, r_51_18, r_51_19, r_51_20, r_51_21, k_51, k_52, k_53, k_54, k_55, k_56, k_57, k_58, k_59, k_60, k_61, k_62, n_52, n_53, n_54, n_55, n_56, n_57, n_58, n_59, n_60, n_61, n_62, show 69 + 8 * g + 5 = 74 + 8 * g by omega, r5, u2_nk]
    exact h _ hm3 (fun o ho => by funext j; rw [u2_nh ho, u2_nh ho, hq _ ho])
  refine i_M_takesNow ?_
  simp (disch := omega) only [b_M_takesNow_0, b_M_takesNow_6, b_M_takesNow_15, b_M_takesNow_19, b_M_takesNow_26, b_M_takesNow_30, b_M_takesNow_42, b_M_takesNow_56, b_M_takesNow_67, b_M_takesNow_92, b_M_takesNow_108, true_and, and_true, true_implies, false_implies, not_true_eq_false, not_false_eq_true, eq_self, or_true, true_or, false_or, or_false, false_and, and_false, Option.toList_some, Option.toList_none, List.cons_append, List.nil_append, n10, n01, e10, e01, e08, e18, e28, e38, e48, e58, e68, e78, lt_lit, nI_add, pk_mul, n_le, n_lt, n_eq, n_cl, n_in, n_sub, n_div, n_rem, n_ite, Nat.zero_add, r_51_0, r_51_1, r_51_2, r_51_4, r_51_6, r_51_13, r_51_14, r_51_18, r_51_19, r_51_20, r_51_21, k_51, k_52, k_53, k_54, k_55, k_56, k_57, k_58, k_59, k_60, k_61, k_62, n_52, n_53, n_54, n_55, n_56, n_57, n_58, n_59, n_60, n_61, n_62]
  refine c_gleanerIs hr o6 hg (by omega) ?_
  simp (disch := omega) only [b_M_takesNow_0, b_M_takesNow_6, b_M_takesNow_15, b_M_takesNow_19, b_M_takesNow_26, b_M_takesNow_30, b_M_takesNow_42, b_M_takesNow_56, b_M_takesNow_67, b_M_takesNow_92, b_M_takesNow_108, true_and, and_true, true_implies, false_implies, not_true_eq_false, not_false_eq_true, eq_self, or_true, true_or, false_or, or_false, false_and, and_false, Option.toList_some, Option.toList_none, List.cons_append, List.nil_append, n10, n01, e10, e01, e08, e18, e28, e38, e48, e58, e68, e78, lt_lit, nI_add, pk_mul, n_le, n_lt, n_eq, n_cl, n_in, n_sub, n_div, n_rem, n_ite, Nat.zero_add, r_51_0, r_51_1, r_51_2, r_51_4, r_51_6, r_51_13, r_51_14, r_51_18, r_51_19, r_51_20, r_51_21, k_51, k_52, k_53, k_54, k_55, k_56, k_57, k_58, k_59, k_60, k_61, k_62, n_52, n_53, n_54, n_55, n_56, n_57, n_58, n_59, n_60, n_61, n_62, Nat.add_zero]
  refine c_under hr ok' hg ?_
  simp (disch := omega) only [b_M_takesNow_0, b_M_takesNow_6, b_M_takesNow_15, b_M_takesNow_19, b_M_takesNow_26, b_M_takesNow_30, b_M_takesNow_42, b_M_takesNow_56, b_M_takesNow_67, b_M_takesNow_92, b_M_takesNow_108, true_and, and_true, true_implies, false_implies, not_true_eq_false, not_false_eq_true, eq_self, or_true, true_or, false_or, or_false, false_and, and_false, Option.toList_some, Option.toList_none, List.cons_append, List.nil_append, n10, n01, e10, e01, e08, e18, e28, e38, e48, e58, e68, e78, lt_lit, nI_add, pk_mul, n_le, n_lt, n_eq, n_cl, n_in, n_sub, n_div, n_rem, n_ite, Nat.zero_add, r_51_0, r_51_1, r_51_2, r_51_4, r_51_6, r_51_13, r_51_14, r_51_18, r_51_19, r_51_20, r_51_21, k_51, k_52, k_53, k_54, k_55, k_56, k_57, k_58, k_59, k_60, k_61, k_62, n_52, n_53, n_54, n_55, n_56, n_57, n_58, n_59, n_60, n_61, n_62, hr', Nat.add_zero]
  refine c_takesOf (by omega) (by omega) ?_
  simp (disch := omega) only [b_M_takesNow_0, b_M_takesNow_6, b_M_takesNow_15, b_M_takesNow_19, b_M_takesNow_26, b_M_takesNow_30, b_M_takesNow_42, b_M_takesNow_56, b_M_takesNow_67, b_M_takesNow_92, b_M_takesNow_108, true_and, and_true, true_implies, false_implies, not_true_eq_false, not_false_eq_true, eq_self, or_true, true_or, false_or, or_false, false_and, and_false, Option.toList_some, Option.toList_none, List.cons_append, List.nil_append, n10, n01, e10, e01, e08, e18, e28, e38, e48, e58, e68, e78, lt_lit, nI_add, pk_mul, n_le, n_lt, n_eq, n_cl, n_in, n_sub, n_div, n_rem, n_ite, Nat.zero_add, r_51_0, r_51_1, r_51_2, r_51_4, r_51_6, r_51_13, r_51_14, r_51_18, r_51_19, r_51_20, r_51_21, k_51, k_52, k_53, k_54, k_55, k_56, k_57, k_58, k_59, k_60, k_61, k_62, n_52, n_53, n_54, n_55, n_56, n_57, n_58, n_59, n_60, n_61, n_62, hr', Nat.add_zero]
  refine c_gleanerIs hr o6 hg (by omega) ?_
  simp (disch := omega) only [b_M_takesNow_0, b_M_takesNow_6, b_M_takesNow_15, b_M_takesNow_19, b_M_takesNow_26, b_M_takesNow_30, b_M_takesNow_42, b_M_takesNow_56, b_M_takesNow_67, b_M_takesNow_92, b_M_takesNow_108, true_and, and_true, true_implies, false_implies, not_true_eq_false, not_false_eq_true, eq_self, or_true, true_or, false_or, or_false, false_and, and_false, Option.toList_some, Option.toList_none, List.cons_append, List.nil_append, n10, n01, e10, e01, e08, e18, e28, e38, e48, e58, e68, e78, lt_lit, nI_add, pk_mul, n_le, n_lt, n_eq, n_cl, n_in, n_sub, n_div, n_rem, n_ite, Nat.zero_add, r_51_0, r_51_1, r_51_2, r_51_4, r_51_6, r_51_13, r_51_14, r_51_18, r_51_19, r_51_20, r_51_21, k_51, k_52, k_53, k_54, k_55, k_56, k_57, k_58, k_59, k_60, k_61, k_62, n_52, n_53, n_54, n_55, n_56, n_57, n_58, n_59, n_60, n_61, n_62, hr', Nat.add_zero]
  refine ⟨fun q => J _ _ _ (by unfold dr1 pullN; split <;> omega), fun q => ⟨by omega, fun q2 => J _ _ _ (by unfold dr1 pullN; split <;> omega), fun q2 => J _ _ _ (by unfold dr1 pullN; split <;> split <;> omega)⟩⟩
end M2
/-! 33.minute -/
theorem n_neg1 {a : Nat} (h : 1 ≤ a) (ha : a < 2147483648) : nI a + -nI 1 = nI (a - 1) := by
  rw [← Int32.sub_eq_add_neg]; exact n_sub h
section M3
variable {u : UV} {hi : HI} {hl : HL} {K : Option Value → HI → HL → Prop} {A : Nat → Nat} {B : Nat}
theorem c_step {g : Nat} (hr : Mr hi A) (ok : rowOk B A) (hg : g < A 68) (h : ∀ hi', Mr hi' (stepN A g) → (∀ o, o ≠ 52 → hi' o = hi o) → K none hi' hl) : Call u 149 [.ref 51, .int (nI g)] hi hl K := by
  obtain ⟨o1, o2, o3, o4, o5, o6, o7⟩ := ok
  obtain ⟨g1, g2, g3, g4, g5, g6, g7, g8⟩ := o7 g hg
  have hr' : ∀ k, k < 69 + 8 * A 68 → hi 52 k = nI (A k) := hr
  have fr : ∀ k v o, o ≠ 52 → up2 hi 52 k v o = hi o := fun k v o ho => by funext j; rw [u2_nh ho]
  have fr2 : ∀ k v k2 v2 o, o ≠ 52 → up2 (up2 hi 52 k v) 52 k2 v2 o = hi o := fun k v k2 v2 o ho => by funext j; rw [u2_nh ho, u2_nh ho]
  refine i_M_step ?_
  simp (disch := omega) only [b_M_step_0, b_M_step_7, b_M_step_14, b_M_step_21, b_M_step_25, b_M_step_27, b_M_step_30, b_M_step_39, b_M_step_46, b_M_step_50, b_M_step_51, b_M_step_56, b_M_step_62, b_M_step_67, b_M_step_77, b_M_step_82, b_M_step_91, b_M_step_106, b_M_step_110, true_and, and_true, true_implies, false_implies, not_true_eq_false, not_false_eq_true, eq_self, or_true, true_or, false_or, or_false, false_and, and_false, Option.toList_some, Option.toList_none, List.cons_append, List.nil_append, n10, n01, e10, e01, e08, e18, e28, e38, e48, e58, e68, e78, lt_lit, nI_add, pk_mul, n_le, n_lt, n_eq, n_cl, n_in, n_sub, n_div, n_rem, n_ite, Nat.zero_add, r_51_0, r_51_1, r_51_2, r_51_4, r_51_6, r_51_13, r_51_14, r_51_18, r_51_19, r_51_20, r_51_21, k_51, k_52, k_53, k_54, k_55, k_56, k_57, k_58, k_59, k_60, k_61, k_62, n_52, n_53, n_54, n_55, n_56, n_57, n_58, n_59, n_60, n_61, n_62]
  refine c_gleanerIs hr o6 hg (by omega) ?_
  simp (disch := omega) only [b_M_step_0, b_M_step_7, b_M_step_14, b_M_step_21, b_M_step_25, b_M_step_27, b_M_step_30, b_M_step_39, b_M_step_46, b_M_step_50, b_M_step_51, b_M_step_56, b_M_step_62, b_M_step_67, b_M_step_77, b_M_step_82, b_M_step_91, b_M_step_106, b_M_step_110, true_and, and_true, true_implies, false_implies, not_true_eq_false, not_false_eq_true, eq_self, or_true, true_or, false_or, or_false, false_and, and_false, Option.toList_some, Option.toList_none, List.cons_append, List.nil_append, n10, n01, e10, e01, e08, e18, e28, e38, e48, e58, e68, e78, lt_lit, nI_add, pk_mul, n_le, n_lt, n_eq, n_cl, n_in, n_sub, n_div, n_rem, n_ite, Nat.zero_add, r_51_0, r_51_1, r_51_2, r_51_4, r_51_6, r_51_13, r_51_14, r_51_18, r_51_19, r_51_20, r_51_21, k_51, k_52, k_53, k_54, k_55, k_56, k_57, k_58, k_59, k_60, k_61, k_62, n_52, n_53, n_54, n_55, n_56, n_57, n_58, n_59, n_60, n_61, n_62]
  refine c_gleanerIs hr o6 hg (by omega) ?_
  simp (disch := omega) only [b_M_step_0, b_M_step_7, b_M_step_14, b_M_step_21, b_M_step_25, b_M_step_27, b_M_step_30, b_M_step_39, b_M_step_46, b_M_step_50, b_M_step_51, b_M_step_56, b_M_step_62, b_M_step_67, b_M_step_77, b_M_step_82, b_M_step_91, b_M_step_106, b_M_step_110, true_and, and_true, true_implies, false_implies, not_true_eq_false, not_false_eq_true, eq_self, or_true, true_or, false_or, or_false, false_and, and_false, Option.toList_some, Option.toList_none, List.cons_append, List.nil_append, n10, n01, e10, e01, e08, e18, e28, e38, e48, e58, e68, e78, lt_lit, nI_add, pk_mul, n_le, n_lt, n_eq, n_cl, n_in, n_sub, n_div, n_rem, n_ite, Nat.zero_add, r_51_0, r_51_1, r_51_2, r_51_4, r_51_6, r_51_13, r_51_14, r_51_18, r_51_19, r_51_20, r_51_21, k_51, k_52, k_53, k_54, k_55, k_56, k_57, k_58, k_59, k_60, k_61, k_62, n_52, n_53, n_54, n_55, n_56, n_57, n_58, n_59, n_60, n_61, n_62, show 69 + 8 * g + 6 = 75 + 8 * g by omega, show 69 + 8 * g + 2 = 71 + 8 * g by omega]
  have fin : ∀ hi' A', Mr hi' A' → A' = stepN A g → (∀ o, o ≠ 52 → hi' o = hi o) → (mR 149 = none ∧ K none hi' hl) := fun hi' A' a b c => ⟨rfl, h hi' (b ▸ a) c⟩
  have J1 : ∀ n, (A (75 + 8 * g) = 1 ∧ A (71 + 8 * g) = 0 ∨ ¬ A (75 + 8 * g) = 1 ∧ A (71 + 8 * g) = 7) → Call u 133 [.ref 51, .int (nI g), .int (nI 1)] hi hl fun r hi2 hl2 => vc u (n + 100) 149 62 [.ref 51, .int (nI g), .int (nI (A (75 + 8 * g))), .int (nI (A (71 + 8 * g)))] (r.toList ++ []) hi2 hl2 K := by
    intro n hc
    refine c_gleanerIs hr o6 hg (by omega) ?_
    simp (disch := omega) only [b_M_step_0, b_M_step_7, b_M_step_14, b_M_step_21, b_M_step_25, b_M_step_27, b_M_step_30, b_M_step_39, b_M_step_46, b_M_step_50, b_M_step_51, b_M_step_56, b_M_step_62, b_M_step_67, b_M_step_77, b_M_step_82, b_M_step_91, b_M_step_106, b_M_step_110, true_and, and_true, true_implies, false_implies, not_true_eq_false, not_false_eq_true, eq_self, or_true, true_or, false_or, or_false, false_and, and_false, Option.toList_some, Option.toList_none, List.cons_append, List.nil_append, n10, n01, e10, e01, e08, e18, e28, e38, e48, e58, e68, e78, lt_lit, nI_add, pk_mul, n_le, n_lt, n_eq, n_cl, n_in, n_sub, n_div, n_rem, n_ite, Nat.zero_add, r_51_0, r_51_1, r_51_2, r_51_4, r_51_6, r_51_13, r_51_14, r_51_18, r_51_19, r_51_20, r_51_21, k_51, k_52, k_53, k_54, k_55, k_56, k_57, k_58, k_59, k_60, k_61, k_62, n_52, n_53, n_54, n_55, n_56, n_57, n_58, n_59, n_60, n_61, n_62, show 69 + 8 * g + 1 = 70 + 8 * g by omega]
    refine ⟨fun q => ?_, fun q => ?_⟩
    · refine c_at (by omega) (by omega) ?_
      simp (disch := omega) only [b_M_step_0, b_M_step_7, b_M_step_14, b_M_step_21, b_M_step_25, b_M_step_27, b_M_step_30, b_M_step_39, b_M_step_46, b_M_step_50, b_M_step_51, b_M_step_56, b_M_step_62, b_M_step_67, b_M_step_77, b_M_step_82, b_M_step_91, b_M_step_106, b_M_step_110, true_and, and_true, true_implies, false_implies, not_true_eq_false, not_false_eq_true, eq_self, or_true, true_or, false_or, or_false, false_and, and_false, Option.toList_some, Option.toList_none, List.cons_append, List.nil_append, n10, n01, e10, e01, e08, e18, e28, e38, e48, e58, e68, e78, lt_lit, nI_add, pk_mul, n_le, n_lt, n_eq, n_cl, n_in, n_sub, n_div, n_rem, n_ite, Nat.zero_add, r_51_0, r_51_1, r_51_2, r_51_4, r_51_6, r_51_13, r_51_14, r_51_18, r_51_19, r_51_20, r_51_21, k_51, k_52, k_53, k_54, k_55, k_56, k_57, k_58, k_59, k_60, k_61, k_62, n_52, n_53, n_54, n_55, n_56, n_57, n_58, n_59, n_60, n_61, n_62, show 69 + 8 * g + 1 = 70 + 8 * g by omega, hr']
      refine c_at (by omega) (by omega) ?_
      simp (disch := omega) only [b_M_step_0, b_M_step_7, b_M_step_14, b_M_step_21, b_M_step_25, b_M_step_27, b_M_step_30, b_M_step_39, b_M_step_46, b_M_step_50, b_M_step_51, b_M_step_56, b_M_step_62, b_M_step_67, b_M_step_77, b_M_step_82, b_M_step_91, b_M_step_106, b_M_step_110, true_and, and_true, true_implies, false_implies, not_true_eq_false, not_false_eq_true, eq_self, or_true, true_or, false_or, or_false, false_and, and_false, Option.toList_some, Option.toList_none, List.cons_append, List.nil_append, n10, n01, e10, e01, e08, e18, e28, e38, e48, e58, e68, e78, lt_lit, nI_add, pk_mul, n_le, n_lt, n_eq, n_cl, n_in, n_sub, n_div, n_rem, n_ite, Nat.zero_add, r_51_0, r_51_1, r_51_2, r_51_4, r_51_6, r_51_13, r_51_14, r_51_18, r_51_19, r_51_20, r_51_21, k_51, k_52, k_53, k_54, k_55, k_56, k_57, k_58, k_59, k_60, k_61, k_62, n_52, n_53, n_54, n_55, n_56, n_57, n_58, n_59, n_60, n_61, n_62, show 69 + 8 * g + 6 = 75 + 8 * g by omega, hr']
      refine fin _ _ ((hr.up (k := 70 + 8 * g) (by omega)).up (k := 75 + 8 * g) (by omega)) ?_ (fr2 _ _ _ _)
      unfold stepN
      rcases hc with ⟨c1, c2⟩ | ⟨c1, c2⟩
      · rw [if_pos c1, if_pos c2, if_neg q, c1]
      · rw [if_neg c1, if_pos c2, if_neg q, show 1 - A (75 + 8 * g) = 1 by omega]
    · refine c_at (by omega) (by omega) ?_
      simp (disch := omega) only [b_M_step_0, b_M_step_7, b_M_step_14, b_M_step_21, b_M_step_25, b_M_step_27, b_M_step_30, b_M_step_39, b_M_step_46, b_M_step_50, b_M_step_51, b_M_step_56, b_M_step_62, b_M_step_67, b_M_step_77, b_M_step_82, b_M_step_91, b_M_step_106, b_M_step_110, true_and, and_true, true_implies, false_implies, not_true_eq_false, not_false_eq_true, eq_self, or_true, true_or, false_or, or_false, false_and, and_false, Option.toList_some, Option.toList_none, List.cons_append, List.nil_append, n10, n01, e10, e01, e08, e18, e28, e38, e48, e58, e68, e78, lt_lit, nI_add, pk_mul, n_le, n_lt, n_eq, n_cl, n_in, n_sub, n_div, n_rem, n_ite, Nat.zero_add, r_51_0, r_51_1, r_51_2, r_51_4, r_51_6, r_51_13, r_51_14, r_51_18, r_51_19, r_51_20, r_51_21, k_51, k_52, k_53, k_54, k_55, k_56, k_57, k_58, k_59, k_60, k_61, k_62, n_52, n_53, n_54, n_55, n_56, n_57, n_58, n_59, n_60, n_61, n_62, show 69 + 8 * g + 7 = 76 + 8 * g by omega, hr']
      refine fin _ _ (hr.up (k := 76 + 8 * g) (by omega)) ?_ (fr _ _)
      unfold stepN
      rcases hc with ⟨c1, c2⟩ | ⟨c1, c2⟩
      · rw [if_pos c1, if_pos c2, if_pos q]
      · rw [if_neg c1, if_pos c2, if_pos q]
  refine ⟨fun q => ⟨fun q2 => J1 _ (.inr ⟨q, q2⟩), fun q2 => ?_⟩, fun q => ⟨fun q2 => J1 _ (.inl ⟨q, q2⟩), fun q2 => ?_⟩⟩
  · refine c_at (by omega) (by omega) ?_
    simp (disch := omega) only [b_M_step_0, b_M_step_7, b_M_step_14, b_M_step_21, b_M_step_25, b_M_step_27, b_M_step_30, b_M_step_39, b_M_step_46, b_M_step_50, b_M_step_51, b_M_step_56, b_M_step_62, b_M_step_67, b_M_step_77, b_M_step_82, b_M_step_91, b_M_step_106, b_M_step_110, true_and, and_true, true_implies, false_implies, not_true_eq_false, not_false_eq_true, eq_self, or_true, true_or, false_or, or_false, false_and, and_false, Option.toList_some, Option.toList_none, List.cons_append, List.nil_append, n10, n01, e10, e01, e08, e18, e28, e38, e48, e58, e68, e78, lt_lit, nI_add, pk_mul, n_le, n_lt, n_eq, n_cl, n_in, n_sub, n_div, n_rem, n_ite, Nat.zero_add, r_51_0, r_51_1, r_51_2, r_51_4, r_51_6, r_51_13, r_51_14, r_51_18, r_51_19, r_51_20, r_51_21, k_51, k_52, k_53, k_54, k_55, k_56, k_57, k_58, k_59, k_60, k_61, k_62, n_52, n_53, n_54, n_55, n_56, n_57, n_58, n_59, n_60, n_61, n_62, show 69 + 8 * g + 2 = 71 + 8 * g by omega, hr']
    refine ⟨fun _ => ?_, fun q3 => absurd q3 q⟩
    refine fin _ _ (hr.up (k := 71 + 8 * g) (by omega)) ?_ (fr _ _)
    unfold stepN
    rw [if_neg q, if_neg q2]
  · refine c_at (by omega) (by omega) ?_
    simp (disch := omega) only [b_M_step_0, b_M_step_7, b_M_step_14, b_M_step_21, b_M_step_25, b_M_step_27, b_M_step_30, b_M_step_39, b_M_step_46, b_M_step_50, b_M_step_51, b_M_step_56, b_M_step_62, b_M_step_67, b_M_step_77, b_M_step_82, b_M_step_91, b_M_step_106, b_M_step_110, true_and, and_true, true_implies, false_implies, not_true_eq_false, not_false_eq_true, eq_self, or_true, true_or, false_or, or_false, false_and, and_false, Option.toList_some, Option.toList_none, List.cons_append, List.nil_append, n10, n01, e10, e01, e08, e18, e28, e38, e48, e58, e68, e78, lt_lit, nI_add, pk_mul, n_le, n_lt, n_eq, n_cl, n_in, n_sub, n_div, n_rem, n_ite, Nat.zero_add, r_51_0, r_51_1, r_51_2, r_51_4, r_51_6, r_51_13, r_51_14, r_51_18, r_51_19, r_51_20, r_51_21, k_51, k_52, k_53, k_54, k_55, k_56, k_57, k_58, k_59, k_60, k_61, k_62, n_52, n_53, n_54, n_55, n_56, n_57, n_58, n_59, n_60, n_61, n_62, show 69 + 8 * g + 2 = 71 + 8 * g by omega, hr', n_neg1]
    refine ⟨fun q3 => absurd q q3, fun _ => ?_⟩
    refine fin _ _ (hr.up (k := 71 + 8 * g) (by omega)) ?_ (fr _ _)
    unfold stepN
    rw [if_pos q, if_neg q2]
/-- who is here, as bits -/
def hereIs (e : Int32) (w : Nat → Bool) : Prop := ∀ g, g < 9 → (((e >>> (nI g &&& 31)) &&& 1 = 1) ↔ w g = true)
theorem c_isAtWork {g : Nat} {e : Int32} {w : Nat → Bool} (hw : hereIs e w) (hr : Mr hi A) (ok : rowOk B A) (hg : g < A 68) (h1 : w g = true ∧ A (76 + 8 * g) = 0 → K (some (.int 1)) hi hl) (h0 : ¬ (w g = true ∧ A (76 + 8 * g) = 0) → K (some (.int 0)) hi hl) : Call u 150 [.ref 51, .int (nI g), .int e] hi hl K := by
  obtain ⟨o1, o2, o3, o4, o5, o6, o7⟩ := ok
  have hwg := hw g (by omega)
  refine i_M_isAtWork ?_
  simp only [b_M_isAtWork_0, b_M_isAtWork_9, b_M_isAtWork_16, b_M_isAtWork_19, b_M_isAtWork_23, b_M_isAtWork_24, true_and, and_true, true_implies, false_implies, not_true_eq_false, not_false_eq_true, eq_self, or_true, true_or, false_or, or_false, false_and, and_false, Option.toList_some, Option.toList_none, List.cons_append, List.nil_append, n10, n01, e10, e01, e08, e18, e28, e38, e48, e58, e68, e78, r_51_0, r_51_1, r_51_2, r_51_4, r_51_6, r_51_13, r_51_14, r_51_18, r_51_19, r_51_20, r_51_21, k_51, k_52, k_53, k_54, k_55, k_56, k_57, k_58, k_59, k_60, k_61, k_62, n_52, n_53, n_54, n_55, n_56, n_57, n_58, n_59, n_60, n_61, n_62, hwg]
  refine ⟨fun q => h0 (fun z => q z.1), fun q => ?_⟩
  refine c_gleanerIs hr o6 hg (f := 7) (by omega) ?_
  simp only [b_M_isAtWork_0, b_M_isAtWork_9, b_M_isAtWork_16, b_M_isAtWork_19, b_M_isAtWork_23, b_M_isAtWork_24, true_and, and_true, true_implies, false_implies, not_true_eq_false, not_false_eq_true, eq_self, or_true, true_or, false_or, or_false, false_and, and_false, Option.toList_some, Option.toList_none, List.cons_append, List.nil_append, n10, n01, e10, e01, e08, e18, e28, e38, e48, e58, e68, e78, r_51_0, r_51_1, r_51_2, r_51_4, r_51_6, r_51_13, r_51_14, r_51_18, r_51_19, r_51_20, r_51_21, k_51, k_52, k_53, k_54, k_55, k_56, k_57, k_58, k_59, k_60, k_61, k_62, n_52, n_53, n_54, n_55, n_56, n_57, n_58, n_59, n_60, n_61, n_62]
  rw [show (0 : Int32) = nI 0 from rfl, n_eq (by have := (o7 g hg).2.2.2.2.2.2.2; rw [show 69 + 8 * g + 7 = 76 + 8 * g by omega]; omega) (by omega), show 69 + 8 * g + 7 = 76 + 8 * g by omega]
  exact ⟨fun q2 => h0 (fun z => q2 z.2), fun q2 => h1 ⟨q, q2⟩⟩
end M3
/-! 34.raked -/
/-- a row of places is raked, from place a on, n of them -/
def wipeN (A : Nat → Nat) : Nat → Nat → (Nat → Nat)
  | _, 0 => A
  | k, n + 1 => wipeN (up A k 0) (k + 1) n
theorem wipe_ne (n : Nat) : ∀ (A : Nat → Nat) (k j : Nat), (j < k ∨ k + n ≤ j) → wipeN A k n j = A j := by
  induction n with
  | zero => intro A k j _; rfl
  | succ n ih => intro A k j h; rw [wipeN, ih _ _ _ (by omega), up_ne _ (by omega)]
theorem wipe_eq (n : Nat) : ∀ (A : Nat → Nat) (k j : Nat), k ≤ j → j < k + n → wipeN A k n j = 0 := by
  induction n with
  | zero => intro A k j _ _; omega
  | succ n ih =>
    intro A k j h h2
    rw [wipeN]
    by_cases q : j = k
    · subst q; rw [wipe_ne _ _ _ _ (by omega), up_eq]
    · exact ih _ _ _ (by omega) (by omega)
section M4
variable {u : UV} {hi : HI} {hl : HL} {K : Option Value → HI → HL → Prop} {A : Nat → Nat} {B : Nat}
theorem c_raked {r : Nat} (hr : Mr hi A) (ok : rowOk B A) (hr8 : r < 8) (h : ∀ hi', Mr hi' (wipeN A (8 * r) 8) → (∀ o, o ≠ 52 → hi' o = hi o) → K (some (.int (nI (smN A (8 * r) 8)))) hi' hl) : Call u 128 [.ref 51, .int (nI r)] hi hl K := by
  have loop : ∀ n k hi' A' v, k + n = 8 → Mr hi' A' → (∀ o, o ≠ 52 → hi' o = hi o) → (∀ hi2, Mr hi2 (wipeN A' (8 * r + k) n) → (∀ o, o ≠ 52 → hi2 o = hi o) → K (some (.int v)) hi2 hl) → Wp u 128 18 [.ref 51, .int (nI r), .int v, .int (nI k)] [] hi' hl K := by
    intro n
    induction n with
    | zero =>
      intro k hi' A' v e hm fr h
      refine wv (by decide) ?_
      simp (disch := omega) only [b_M_raked_0, b_M_raked_15, b_M_raked_18, b_M_raked_24, b_M_raked_44, true_and, and_true, true_implies, false_implies, not_true_eq_false, not_false_eq_true, eq_self, or_true, true_or, false_or, or_false, false_and, and_false, Option.toList_some, Option.toList_none, List.cons_append, List.nil_append, n10, n01, e10, e01, e08, e18, e28, e38, e48, e58, e68, e78, lt_lit, nI_add, pk_mul, n_le, n_lt, n_eq, n_cl, n_in, n_sub, n_div, n_rem, n_ite, Nat.zero_add, r_51_0, r_51_1, r_51_2, r_51_4, r_51_6, r_51_13, r_51_14, r_51_18, r_51_19, r_51_20, r_51_21, k_51, k_52, k_53, k_54, k_55, k_56, k_57, k_58, k_59, k_60, k_61, k_62, n_52, n_53, n_54, n_55, n_56, n_57, n_58, n_59, n_60, n_61, n_62]
      exact ⟨fun _ => h _ hm fr, fun q => absurd (by omega) q⟩
    | succ n ih =>
      intro k hi' A' v e hm fr h
      refine wv (by decide) ?_
      simp (disch := omega) only [b_M_raked_0, b_M_raked_15, b_M_raked_18, b_M_raked_24, b_M_raked_44, true_and, and_true, true_implies, false_implies, not_true_eq_false, not_false_eq_true, eq_self, or_true, true_or, false_or, or_false, false_and, and_false, Option.toList_some, Option.toList_none, List.cons_append, List.nil_append, n10, n01, e10, e01, e08, e18, e28, e38, e48, e58, e68, e78, lt_lit, nI_add, pk_mul, n_le, n_lt, n_eq, n_cl, n_in, n_sub, n_div, n_rem, n_ite, Nat.zero_add, r_51_0, r_51_1, r_51_2, r_51_4, r_51_6, r_51_13, r_51_14, r_51_18, r_51_19, r_51_20, r_51_21, k_51, k_52, k_53, k_54, k_55, k_56, k_57, k_58, k_59, k_60, k_61, k_62, n_52, n_53, n_54, n_55, n_56, n_57, n_58, n_59, n_60, n_61, n_62]
      refine ⟨fun q => absurd q (by omega), fun _ => ?_⟩
      exact ih (k + 1) _ _ v (by omega) (hm.up (k := 8 * r + k) (by omega)) (fun o ho => by rw [← fr o ho]; funext j; rw [u2_nh ho]) (fun hi2 a b => h hi2 a b)
  refine i_M_raked ?_
  simp (disch := omega) only [b_M_raked_0, b_M_raked_15, b_M_raked_18, b_M_raked_24, b_M_raked_44, true_and, and_true, true_implies, false_implies, not_true_eq_false, not_false_eq_true, eq_self, or_true, true_or, false_or, or_false, false_and, and_false, Option.toList_some, Option.toList_none, List.cons_append, List.nil_append, n10, n01, e10, e01, e08, e18, e28, e38, e48, e58, e68, e78, lt_lit, nI_add, pk_mul, n_le, n_lt, n_eq, n_cl, n_in, n_sub, n_div, n_rem, n_ite, Nat.zero_add, r_51_0, r_51_1, r_51_2, r_51_4, r_51_6, r_51_13, r_51_14, r_51_18, r_51_19, r_51_20, r_51_21, k_51, k_52, k_53, k_54, k_55, k_56, k_57, k_58, k_59, k_60, k_61, k_62, n_52, n_53, n_54, n_55, n_56, n_57, n_58, n_59, n_60, n_61, n_62]
  refine c_earsOf hr ok.1 (by omega) (by omega) ?_
  simp (disch := omega) only [b_M_raked_0, b_M_raked_15, b_M_raked_18, b_M_raked_24, b_M_raked_44, true_and, and_true, true_implies, false_implies, not_true_eq_false, not_false_eq_true, eq_self, or_true, true_or, false_or, or_false, false_and, and_false, Option.toList_some, Option.toList_none, List.cons_append, List.nil_append, n10, n01, e10, e01, e08, e18, e28, e38, e48, e58, e68, e78, lt_lit, nI_add, pk_mul, n_le, n_lt, n_eq, n_cl, n_in, n_sub, n_div, n_rem, n_ite, Nat.zero_add, r_51_0, r_51_1, r_51_2, r_51_4, r_51_6, r_51_13, r_51_14, r_51_18, r_51_19, r_51_20, r_51_21, k_51, k_52, k_53, k_54, k_55, k_56, k_57, k_58, k_59, k_60, k_61, k_62, n_52, n_53, n_54, n_55, n_56, n_57, n_58, n_59, n_60, n_61, n_62]
  refine loop 8 0 hi A _ (by omega) hr (fun _ _ => rfl) ?_
  rw [show 8 * r + 8 - 8 * r = 8 by omega]
  exact h
end M4
/-! 35.pure -/
/-! what a minute does, as functions of rows -/
theorem take_lo {A : Nat → Nat} {g k : Nat} (hk : k < 64) : take A g k = if k = atN A g then A k - tk1 A g else A k := by
  unfold take
  rw [up_ne _ (by omega), up_ne _ (by omega), up_ne _ (by omega)]
  split
  · rename_i q; rw [q, up_eq]
  · rename_i q; rw [up_ne _ q]
theorem take_67 {A : Nat → Nat} {g : Nat} (_hat : atN A g < 64) : take A g 67 = A 67 - dr1 A g := by
  unfold take
  rw [up_ne _ (by omega), up_ne _ (by omega), up_eq]
theorem take_hi {A : Nat → Nat} {g k : Nat} (hat : atN A g < 64) (hk : 64 ≤ k) (h67 : k ≠ 67) : take A g k = if k = 73 + 8 * g then A k + (tk1 A g + dr1 A g) else if k = 74 + 8 * g then A k + dr1 A g else A k := by
  unfold take
  split
  · rename_i q; rw [up_ne _ (by omega), q, up_eq]
  · split
    · rename_i q; rw [q, up_eq]
    · rw [up_ne _ (by omega), up_ne _ (by omega), up_ne _ (by omega), up_ne _ (by omega)]
theorem rowOk.at {A : Nat → Nat} {B g : Nat} (ok : rowOk B A) (hg : g < A 68) : atN A g < 64 := by
  obtain ⟨o1, o2, o3, o4, o5, o6, o7⟩ := ok
  obtain ⟨g1, g2, g3, g4, g5, g6, g7, g8⟩ := o7 g hg
  unfold atN; omega
theorem tk1_le {A : Nat → Nat} {B g : Nat} (ok : rowOk B A) (hg : g < A 68) : tk1 A g ≤ 99 := by
  have := ok.1 _ (ok.at hg)
  have := share_le (A (69 + 8 * g)) (A (atN A g))
  unfold tk1; omega
theorem dr1_le (A : Nat → Nat) (g : Nat) : dr1 A g ≤ 2 := by
  have := pull_le (A (69 + 8 * g)) (A 64)
  unfold dr1; omega
theorem rowOk.take {A : Nat → Nat} {B g : Nat} (ok : rowOk B A) (hg : g < A 68) : rowOk (B + 101) (take A g) := by
  have hat := ok.at hg
  have ht := tk1_le ok hg
  have hd := dr1_le A g
  obtain ⟨o1, o2, o3, o4, o5, o6, o7⟩ := ok
  refine ⟨fun k hk => ?_, ?_, ?_, ?_, ?_, ?_, fun j hj => ?_⟩
  · rw [take_lo hk]; have := o1 k hk; split <;> omega
  · rw [take_hi hat (by omega) (by omega), if_neg (by omega), if_neg (by omega)]; exact o2
  · rw [take_hi hat (by omega) (by omega), if_neg (by omega), if_neg (by omega)]; exact o3
  · rw [take_hi hat (by omega) (by omega), if_neg (by omega), if_neg (by omega)]; exact o4
  · rw [take_67 hat]; omega
  · rw [take_hi hat (by omega) (by omega), if_neg (by omega), if_neg (by omega)]; exact o6
  · rw [take_hi hat (by omega) (by omega), if_neg (by omega), if_neg (by omega)] at hj
    obtain ⟨g1, g2, g3, g4, g5, g6, g7, g8⟩ := o7 j hj
    refine ⟨?_, ?_, ?_, ?_, ?_, ?_, ?_, ?_⟩
    · rw [take_hi hat (by omega) (by omega), if_neg (by omega), if_neg (by omega)]; exact g1
    · rw [take_hi hat (by omega) (by omega), if_neg (by omega), if_neg (by omega)]; exact g2
    · rw [take_hi hat (by omega) (by omega), if_neg (by omega), if_neg (by omega)]; exact g3
    · rw [take_hi hat (by omega) (by omega), if_neg (by omega), if_neg (by omega)]; exact g4
    · rw [take_hi hat (by omega) (by omega)]; split
      · omega
      · rw [if_neg (by omega)]; omega
    · rw [take_hi hat (by omega) (by omega), take_hi hat (by omega) (by omega), if_neg (by omega)]
      by_cases q : j = g
      · subst q; rw [if_pos rfl, if_pos rfl]; omega
      · rw [if_neg (by omega), if_neg (by omega), if_neg (by omega)]; exact g6
    · rw [take_hi hat (by omega) (by omega), if_neg (by omega), if_neg (by omega)]; exact g7
    · rw [take_hi hat (by omega) (by omega), if_neg (by omega), if_neg (by omega)]; exact g8
theorem step_ne {A : Nat → Nat} {g k : Nat} (h1 : k ≠ 70 + 8 * g) (h2 : k ≠ 71 + 8 * g) (h3 : k ≠ 75 + 8 * g) (h4 : k ≠ 76 + 8 * g) : stepN A g k = A k := by
  unfold stepN
  (repeat' split) <;> simp only [up_ne _ h1, up_ne _ h2, up_ne _ h3, up_ne _ h4]
theorem step_ok {A : Nat → Nat} {g : Nat} (h1 : A (70 + 8 * g) ≤ 7) (h2 : A (71 + 8 * g) ≤ 7) (h3 : A (75 + 8 * g) ≤ 1) (h4 : A (76 + 8 * g) ≤ 1) : stepN A g (70 + 8 * g) ≤ 7 ∧ stepN A g (71 + 8 * g) ≤ 7 ∧ stepN A g (75 + 8 * g) ≤ 1 ∧ stepN A g (76 + 8 * g) ≤ 1 := by
  unfold stepN
  (repeat' split) <;> refine ⟨?_, ?_, ?_, ?_⟩ <;> simp only [up] <;> (repeat' split) <;> omega
theorem rowOk.step {A : Nat → Nat} {B g : Nat} (ok : rowOk B A) (hg : g < A 68) : rowOk B (stepN A g) := by
  obtain ⟨o1, o2, o3, o4, o5, o6, o7⟩ := ok
  refine ⟨fun k hk => ?_, ?_, ?_, ?_, ?_, ?_, fun j hj => ?_⟩
  · rw [step_ne (by omega) (by omega) (by omega) (by omega)]; exact o1 k hk
  · rw [step_ne (by omega) (by omega) (by omega) (by omega)]; exact o2
  · rw [step_ne (by omega) (by omega) (by omega) (by omega)]; exact o3
  · rw [step_ne (by omega) (by omega) (by omega) (by omega)]; exact o4
  · rw [step_ne (by omega) (by omega) (by omega) (by omega)]; exact o5
  · rw [step_ne (by omega) (by omega) (by omega) (by omega)]; exact o6
  · rw [step_ne (by omega) (by omega) (by omega) (by omega)] at hj
    obtain ⟨g1, g2, g3, g4, g5, g6, g7, g8⟩ := o7 j hj
    by_cases q : j = g
    · subst q
      obtain ⟨s1, s2, s3, s4⟩ := step_ok g2 g3 g7 g8
      refine ⟨?_, s1, s2, ?_, ?_, ?_, s3, s4⟩
      · rw [step_ne (by omega) (by omega) (by omega) (by omega)]; exact g1
      · rw [step_ne (by omega) (by omega) (by omega) (by omega)]; exact g4
      · rw [step_ne (by omega) (by omega) (by omega) (by omega)]; exact g5
      · rw [step_ne (by omega) (by omega) (by omega) (by omega), step_ne (by omega) (by omega) (by omega) (by omega)]; exact g6
    · refine ⟨?_, ?_, ?_, ?_, ?_, ?_, ?_, ?_⟩
      · rw [step_ne (by omega) (by omega) (by omega) (by omega)]; exact g1
      · rw [step_ne (by omega) (by omega) (by omega) (by omega)]; exact g2
      · rw [step_ne (by omega) (by omega) (by omega) (by omega)]; exact g3
      · rw [step_ne (by omega) (by omega) (by omega) (by omega)]; exact g4
      · rw [step_ne (by omega) (by omega) (by omega) (by omega)]; exact g5
      · rw [step_ne (by omega) (by omega) (by omega) (by omega), step_ne (by omega) (by omega) (by omega) (by omega)]; exact g6
      · rw [step_ne (by omega) (by omega) (by omega) (by omega)]; exact g7
      · rw [step_ne (by omega) (by omega) (by omega) (by omega)]; exact g8
/-- who is at work takes, from g on, n of them; how much -/
def takeAll (w : Nat → Bool) : Nat → Nat → (Nat → Nat) → (Nat → Nat)
  | _, 0, A => A
  | g, n + 1, A => takeAll w (g + 1) n (if w g = true ∧ A (76 + 8 * g) = 0 then take A g else A)
def tookAll (w : Nat → Bool) : Nat → Nat → (Nat → Nat) → Nat
  | _, 0, _ => 0
  | g, n + 1, A => if w g = true ∧ A (76 + 8 * g) = 0 then (tk1 A g + dr1 A g) + tookAll w (g + 1) n (take A g) else tookAll w (g + 1) n A
def steps (w : Nat → Bool) (g : Nat) : Nat → (Nat → Nat) → (Nat → Nat)
  | 0, A => A
  | n + 1, A => if w g = true ∧ A (76 + 8 * g) = 0 then steps w g n (stepN A g) else A
def goAll (w : Nat → Bool) : Nat → Nat → (Nat → Nat) → (Nat → Nat)
  | _, 0, A => A
  | g, n + 1, A => goAll w (g + 1) n (steps w g (paceN (A (69 + 8 * g)) (A 64)) A)
def geeseN (A : Nat → Nat) : Nat → Nat := if A 64 = A 66 then wipeN (wipeN A 0 8) 8 8 else A
def openN (w : Nat → Bool) (A : Nat → Nat) : Nat → Nat := if A 64 < A 65 then A else goAll w 0 (A 68) (takeAll w 0 (A 68) A)
def minN (w : Nat → Bool) (A : Nat → Nat) : Nat → Nat := up (openN w (geeseN A)) 64 (A 64 + 1)
def tookN (w : Nat → Bool) (A : Nat → Nat) : Nat := if A 64 < A 65 then 0 else tookAll w 0 (A 68) (geeseN A)
/-! 36.min -/
theorem rowOk.mono {A : Nat → Nat} {B B' : Nat} (ok : rowOk B A) (h : B ≤ B') : rowOk B' A := by
  obtain ⟨o1, o2, o3, o4, o5, o6, o7⟩ := ok
  refine ⟨o1, o2, o3, o4, o5, o6, fun g hg => ?_⟩
  obtain ⟨g1, g2, g3, g4, g5, g6, g7, g8⟩ := o7 g hg
  exact ⟨g1, g2, g3, g4, by omega, g6, g7, g8⟩
/-- the same but for what minutes change -/
def same4 (A A' : Nat → Nat) : Prop := A' 64 = A 64 ∧ A' 65 = A 65 ∧ A' 66 = A 66 ∧ A' 68 = A 68
theorem same4.refl (A : Nat → Nat) : same4 A A := ⟨rfl, rfl, rfl, rfl⟩
theorem same4.trans {A A' A'' : Nat → Nat} (h : same4 A A') (h2 : same4 A' A'') : same4 A A'' := ⟨h2.1.trans h.1, h2.2.1.trans h.2.1, h2.2.2.1.trans h.2.2.1, h2.2.2.2.trans h.2.2.2⟩
theorem same4_take {A : Nat → Nat} {g : Nat} (hat : atN A g < 64) : same4 A (take A g) := by
  refine ⟨?_, ?_, ?_, ?_⟩ <;> rw [take_hi hat (by omega) (by omega), if_neg (by omega), if_neg (by omega)]
theorem same4_step {A : Nat → Nat} {g : Nat} : same4 A (stepN A g) := by
  refine ⟨?_, ?_, ?_, ?_⟩ <;> exact step_ne (by omega) (by omega) (by omega) (by omega)
theorem takeAll_ok (w : Nat → Bool) (n : Nat) : ∀ {A : Nat → Nat} {B g : Nat}, g + n ≤ A 68 → rowOk B A → rowOk (B + 101 * n) (takeAll w g n A) ∧ same4 A (takeAll w g n A) ∧ tookAll w g n A ≤ 101 * n := by
  induction n with
  | zero => intro A B g _ ok; exact ⟨ok, same4.refl A, Nat.le_refl _⟩
  | succ n ih =>
    intro A B g h ok
    rw [takeAll, tookAll]
    split
    · have s := same4_take (g := g) (ok.at (by omega))
      obtain ⟨a, b, c⟩ := ih (A := take A g) (B := B + 101) (g := g + 1) (by rw [s.2.2.2]; omega) (ok.take (by omega))
      have := tk1_le ok (g := g) (by omega)
      have := dr1_le A g
      exact ⟨a.mono (by omega), s.trans b, by omega⟩
    · obtain ⟨a, b, c⟩ := ih (A := A) (B := B) (g := g + 1) (by omega) ok
      exact ⟨a.mono (by omega), b, by omega⟩
theorem steps_ok (w : Nat → Bool) (g n : Nat) : ∀ {A : Nat → Nat} {B : Nat}, g < A 68 → rowOk B A → rowOk B (steps w g n A) ∧ same4 A (steps w g n A) := by
  induction n with
  | zero => intro A B _ ok; exact ⟨ok, same4.refl A⟩
  | succ n ih =>
    intro A B h ok
    rw [steps]
    split
    · have s := same4_step (A := A) (g := g)
      obtain ⟨a, b⟩ := ih (A := stepN A g) (by rw [s.2.2.2]; omega) (ok.step h)
      exact ⟨a, s.trans b⟩
    · exact ⟨ok, same4.refl A⟩
theorem goAll_ok (w : Nat → Bool) (n : Nat) : ∀ {A : Nat → Nat} {B g : Nat}, g + n ≤ A 68 → rowOk B A → rowOk B (goAll w g n A) ∧ same4 A (goAll w g n A) := by
  induction n with
  | zero => intro A B g _ ok; exact ⟨ok, same4.refl A⟩
  | succ n ih =>
    intro A B g h ok
    rw [goAll]
    obtain ⟨a, s⟩ := steps_ok w g (paceN (A (69 + 8 * g)) (A 64)) (A := A) (by omega) ok
    obtain ⟨b, c⟩ := ih (A := steps w g (paceN (A (69 + 8 * g)) (A 64)) A) (g := g + 1) (by rw [s.2.2.2]; omega) a
    exact ⟨b, s.trans c⟩
theorem wipe_ok {A : Nat → Nat} {B : Nat} (k n : Nat) (h : k + n ≤ 64) (ok : rowOk B A) : rowOk B (wipeN A k n) ∧ same4 A (wipeN A k n) := by
  obtain ⟨o1, o2, o3, o4, o5, o6, o7⟩ := ok
  have ne : ∀ j, 64 ≤ j → wipeN A k n j = A j := fun j hj => wipe_ne n A k j (by omega)
  refine ⟨⟨fun j hj => ?_, ?_, ?_, ?_, ?_, ?_, fun g hg => ?_⟩, ne _ (by omega), ne _ (by omega), ne _ (by omega), ne _ (by omega)⟩
  · by_cases q : k ≤ j ∧ j < k + n
    · rw [wipe_eq n A k j q.1 q.2]; omega
    · rw [wipe_ne n A k j (by omega)]; exact o1 j hj
  · rw [ne _ (by omega)]; exact o2
  · rw [ne _ (by omega)]; exact o3
  · rw [ne _ (by omega)]; exact o4
  · rw [ne _ (by omega)]; exact o5
  · rw [ne _ (by omega)]; exact o6
  · rw [ne _ (by omega)] at hg
    unfold glOk
    simp (disch := omega) only [ne]
    exact o7 g hg
theorem geese_ok {A : Nat → Nat} {B : Nat} (ok : rowOk B A) : rowOk B (geeseN A) ∧ same4 A (geeseN A) := by
  unfold geeseN
  split
  · obtain ⟨a, b⟩ := wipe_ok 0 8 (by omega) ok
    obtain ⟨c, d⟩ := wipe_ok 8 8 (by omega) a
    exact ⟨c, b.trans d⟩
  · exact ⟨ok, same4.refl A⟩
theorem open_ok {A : Nat → Nat} {B : Nat} (w : Nat → Bool) (ok : rowOk B A) : rowOk (B + 909) (openN w A) ∧ same4 A (openN w A) := by
  have h9 := ok.2.2.2.2.2.1
  unfold openN
  split
  · exact ⟨ok.mono (by omega), same4.refl A⟩
  · obtain ⟨a, b, c⟩ := takeAll_ok w (A 68) (A := A) (g := 0) (by omega) ok
    obtain ⟨d, e⟩ := goAll_ok w (A 68) (g := 0) (by rw [b.2.2.2]; omega) a
    exact ⟨d.mono (by omega), b.trans e⟩
theorem min_ok {A : Nat → Nat} {B : Nat} (w : Nat → Bool) (ok : rowOk B A) (hm : A 64 < 10200) : rowOk (B + 909) (minN w A) ∧ minN w A 64 = A 64 + 1 ∧ minN w A 65 = A 65 ∧ minN w A 66 = A 66 ∧ minN w A 68 = A 68 ∧ tookN w A ≤ 909 := by
  obtain ⟨a, b⟩ := geese_ok ok
  obtain ⟨c, d⟩ := open_ok w a
  have e := b.trans d
  have h9 := ok.2.2.2.2.2.1
  obtain ⟨o1, o2, o3, o4, o5, o6, o7⟩ := c
  unfold minN
  refine ⟨⟨fun k hk => ?_, ?_, ?_, ?_, ?_, ?_, fun g hg => ?_⟩, up_eq _ _ _, ?_, ?_, ?_, ?_⟩
  · rw [up_ne _ (by omega)]; exact o1 k hk
  · rw [up_eq]; omega
  · rw [up_ne _ (by omega)]; exact o3
  · rw [up_ne _ (by omega)]; exact o4
  · rw [up_ne _ (by omega)]; exact o5
  · rw [up_ne _ (by omega)]; exact o6
  · rw [up_ne _ (by omega)] at hg
    unfold glOk
    simp (disch := omega) only [up_ne]
    exact o7 g hg
  · rw [up_ne _ (by omega)]; exact e.2.1
  · rw [up_ne _ (by omega)]; exact e.2.2.1
  · rw [up_ne _ (by omega)]; exact e.2.2.2
  · unfold tookN
    split
    · omega
    · have := (takeAll_ok w (A 68) (A := geeseN A) (g := 0) (by rw [b.2.2.2]; omega) a).2.2
      omega
/-- what the reference's minutes change but its row -/
def fM (hi hi' : HI) : Prop := (∀ o, o ≠ 52 → o ≠ 51 → hi' o = hi o) ∧ ∀ k, k ≠ 5 → hi' 51 k = hi 51 k
theorem fM.refl (hi : HI) : fM hi hi := ⟨fun _ _ _ => rfl, fun _ _ => rfl⟩
theorem fM.trans {a b c : HI} (h : fM a b) (h2 : fM b c) : fM a c := ⟨fun o x y => (h2.1 o x y).trans (h.1 o x y), fun k x => (h2.2 k x).trans (h.2 k x)⟩
theorem fM.of {a b : HI} (h : ∀ o, o ≠ 52 → b o = a o) : fM a b := ⟨fun o x _ => h o x, fun k _ => by rw [h 51 (by omega)]⟩
theorem fM.up {a b : HI} (h : fM a b) (k : Nat) (v : Int32) : fM a (up2 b 52 k v) := h.trans (fM.of fun o ho => by funext j; rw [u2_nh ho])
/-! 37.cmin -/
section M5
variable {u : UV} {hl : HL} {K : Option Value → HI → HL → Prop}
theorem c_minute_end {e : Int32} {w : Nat → Bool} (hw : hereIs e w) {t : Nat} {hi0 : HI} {B : Nat} : ∀ (n g : Nat) (A : Nat → Nat) (hi : HI) (l5 l6 : Value), g + n = A 68 → Mr hi A → rowOk B A → fM hi0 hi → (∀ hi', Mr hi' (up (goAll w g n A) 64 (A 64 + 1)) → fM hi0 hi' → K (some (.int (nI t))) hi' hl) → Wp u 151 108 [.ref 51, .int e, .int (nI t), .int (nI 1), .int (nI g), l5, l6] [] hi hl K := by
  intro n
  induction n with
  | zero =>
    intro g A hi l5 l6 e1 hr ok fr h
    have hr' : ∀ k, k < 69 + 8 * A 68 → hi 52 k = nI (A k) := hr
    have o2 := ok.2.1
    have o6 := ok.2.2.2.2.2.1
    refine wv (by decide) ?_
    simp (disch := omega) only [b_M_minute_108, b_M_minute_170, true_and, and_true, true_implies, false_implies, not_true_eq_false, not_false_eq_true, eq_self, or_true, true_or, false_or, or_false, false_and, and_false, Option.toList_some, Option.toList_none, List.cons_append, List.nil_append, n10, n01, e10, e01, e08, e18, e28, e38, e48, e58, e68, e78, lt_lit, nI_add, pk_mul, n_le, n_lt, n_eq, n_cl, n_in, n_sub, n_div, n_rem, n_ite, Nat.zero_add, r_51_0, r_51_1, r_51_2, r_51_4, r_51_6, r_51_13, r_51_14, r_51_18, r_51_19, r_51_20, r_51_21, k_51, k_52, k_53, k_54, k_55, k_56, k_57, k_58, k_59, k_60, k_61, k_62, n_52, n_53, n_54, n_55, n_56, n_57, n_58, n_59, n_60, n_61, n_62, hr']
    refine ⟨fun _ => ?_, fun q => absurd (by omega) q⟩
    exact h _ (hr.up (k := 64) (by omega)) (fr.up _ _)
  | succ n ih =>
    intro g A hi l5 l6 e1 hr ok fr h
    have hr' : ∀ k, k < 69 + 8 * A 68 → hi 52 k = nI (A k) := hr
    have o6 := ok.2.2.2.2.2.1
    have inner : ∀ (m k p : Nat) (A' : Nat → Nat) (hi' : HI), k + m = p → p ≤ 2 → same4 A A' → Mr hi' A' → rowOk B A' → fM hi0 hi' → (∀ hi2 l5 l6, Mr hi2 (steps w g m A') → fM hi0 hi2 → Wp u 151 108 [.ref 51, .int e, .int (nI t), .int (nI 1), .int (nI (g + 1)), l5, l6] [] hi2 hl K) → Wp u 151 135 [.ref 51, .int e, .int (nI t), .int (nI 1), .int (nI g), .int (nI p), .int (nI k)] [] hi' hl K := by
      intro m
      induction m with
      | zero =>
        intro k p A' hi' e2 hp s hr ok fr h
        refine wv (by decide) ?_
        simp (disch := omega) only [b_M_minute_135, b_M_minute_142, b_M_minute_164, true_and, and_true, true_implies, false_implies, not_true_eq_false, not_false_eq_true, eq_self, or_true, true_or, false_or, or_false, false_and, and_false, Option.toList_some, Option.toList_none, List.cons_append, List.nil_append, n10, n01, e10, e01, e08, e18, e28, e38, e48, e58, e68, e78, lt_lit, nI_add, pk_mul, n_le, n_lt, n_eq, n_cl, n_in, n_sub, n_div, n_rem, n_ite, Nat.zero_add, r_51_0, r_51_1, r_51_2, r_51_4, r_51_6, r_51_13, r_51_14, r_51_18, r_51_19, r_51_20, r_51_21, k_51, k_52, k_53, k_54, k_55, k_56, k_57, k_58, k_59, k_60, k_61, k_62, n_52, n_53, n_54, n_55, n_56, n_57, n_58, n_59, n_60, n_61, n_62]
        exact ⟨fun _ => h _ _ _ hr fr, fun q => absurd (by omega) q⟩
      | succ m ihm =>
        intro k p A' hi' e2 hp s hr ok fr h
        have s68 := s.2.2.2
        refine wv (by decide) ?_
        simp (disch := omega) only [b_M_minute_135, b_M_minute_142, b_M_minute_164, true_and, and_true, true_implies, false_implies, not_true_eq_false, not_false_eq_true, eq_self, or_true, true_or, false_or, or_false, false_and, and_false, Option.toList_some, Option.toList_none, List.cons_append, List.nil_append, n10, n01, e10, e01, e08, e18, e28, e38, e48, e58, e68, e78, lt_lit, nI_add, pk_mul, n_le, n_lt, n_eq, n_cl, n_in, n_sub, n_div, n_rem, n_ite, Nat.zero_add, r_51_0, r_51_1, r_51_2, r_51_4, r_51_6, r_51_13, r_51_14, r_51_18, r_51_19, r_51_20, r_51_21, k_51, k_52, k_53, k_54, k_55, k_56, k_57, k_58, k_59, k_60, k_61, k_62, n_52, n_53, n_54, n_55, n_56, n_57, n_58, n_59, n_60, n_61, n_62]
        refine ⟨fun q => absurd q (by omega), fun _ => ?_⟩
        refine c_isAtWork hw hr ok (by omega) (fun q => ?_) (fun q => ?_)
        · simp (disch := omega) only [b_M_minute_149, b_M_minute_152, true_and, and_true, true_implies, false_implies, not_true_eq_false, not_false_eq_true, eq_self, or_true, true_or, false_or, or_false, false_and, and_false, Option.toList_some, Option.toList_none, List.cons_append, List.nil_append, n10, n01, e10, e01, e08, e18, e28, e38, e48, e58, e68, e78, lt_lit, nI_add, pk_mul, n_le, n_lt, n_eq, n_cl, n_in, n_sub, n_div, n_rem, n_ite, Nat.zero_add, r_51_0, r_51_1, r_51_2, r_51_4, r_51_6, r_51_13, r_51_14, r_51_18, r_51_19, r_51_20, r_51_21, k_51, k_52, k_53, k_54, k_55, k_56, k_57, k_58, k_59, k_60, k_61, k_62, n_52, n_53, n_54, n_55, n_56, n_57, n_58, n_59, n_60, n_61, n_62]
          refine c_step (g := g) hr ok (by omega) (fun hi2 hr2 f2 => ?_)
          simp (disch := omega) only [b_M_minute_158, true_and, and_true, true_implies, false_implies, not_true_eq_false, not_false_eq_true, eq_self, or_true, true_or, false_or, or_false, false_and, and_false, Option.toList_some, Option.toList_none, List.cons_append, List.nil_append, n10, n01, e10, e01, e08, e18, e28, e38, e48, e58, e68, e78, lt_lit, nI_add, pk_mul, n_le, n_lt, n_eq, n_cl, n_in, n_sub, n_div, n_rem, n_ite, Nat.zero_add, r_51_0, r_51_1, r_51_2, r_51_4, r_51_6, r_51_13, r_51_14, r_51_18, r_51_19, r_51_20, r_51_21, k_51, k_52, k_53, k_54, k_55, k_56, k_57, k_58, k_59, k_60, k_61, k_62, n_52, n_53, n_54, n_55, n_56, n_57, n_58, n_59, n_60, n_61, n_62]
          refine ihm (k + 1) p (stepN A' g) hi2 (by omega) hp (s.trans same4_step) hr2 (ok.step (by omega)) (fr.trans (fM.of f2)) (fun hi3 l5 l6 a b => h hi3 l5 l6 ?_ b)
          rw [steps, if_pos q]; exact a
        · simp (disch := omega) only [b_M_minute_149, b_M_minute_164, true_and, and_true, true_implies, false_implies, not_true_eq_false, not_false_eq_true, eq_self, or_true, true_or, false_or, or_false, false_and, and_false, Option.toList_some, Option.toList_none, List.cons_append, List.nil_append, n10, n01, e10, e01, e08, e18, e28, e38, e48, e58, e68, e78, lt_lit, nI_add, pk_mul, n_le, n_lt, n_eq, n_cl, n_in, n_sub, n_div, n_rem, n_ite, Nat.zero_add, r_51_0, r_51_1, r_51_2, r_51_4, r_51_6, r_51_13, r_51_14, r_51_18, r_51_19, r_51_20, r_51_21, k_51, k_52, k_53, k_54, k_55, k_56, k_57, k_58, k_59, k_60, k_61, k_62, n_52, n_53, n_54, n_55, n_56, n_57, n_58, n_59, n_60, n_61, n_62]
          refine h _ _ _ ?_ fr
          rw [steps, if_neg q]; exact hr
    refine wv (by decide) ?_
    simp (disch := omega) only [b_M_minute_108, b_M_minute_120, b_M_minute_124, true_and, and_true, true_implies, false_implies, not_true_eq_false, not_false_eq_true, eq_self, or_true, true_or, false_or, or_false, false_and, and_false, Option.toList_some, Option.toList_none, List.cons_append, List.nil_append, n10, n01, e10, e01, e08, e18, e28, e38, e48, e58, e68, e78, lt_lit, nI_add, pk_mul, n_le, n_lt, n_eq, n_cl, n_in, n_sub, n_div, n_rem, n_ite, Nat.zero_add, r_51_0, r_51_1, r_51_2, r_51_4, r_51_6, r_51_13, r_51_14, r_51_18, r_51_19, r_51_20, r_51_21, k_51, k_52, k_53, k_54, k_55, k_56, k_57, k_58, k_59, k_60, k_61, k_62, n_52, n_53, n_54, n_55, n_56, n_57, n_58, n_59, n_60, n_61, n_62, hr']
    refine ⟨fun q => absurd q (by omega), fun _ => ?_⟩
    refine c_goes (g := g) hr ok (by omega) ?_
    simp (disch := omega) only [b_M_minute_130, true_and, and_true, true_implies, false_implies, not_true_eq_false, not_false_eq_true, eq_self, or_true, true_or, false_or, or_false, false_and, and_false, Option.toList_some, Option.toList_none, List.cons_append, List.nil_append, n10, n01, e10, e01, e08, e18, e28, e38, e48, e58, e68, e78, lt_lit, nI_add, pk_mul, n_le, n_lt, n_eq, n_cl, n_in, n_sub, n_div, n_rem, n_ite, Nat.zero_add, r_51_0, r_51_1, r_51_2, r_51_4, r_51_6, r_51_13, r_51_14, r_51_18, r_51_19, r_51_20, r_51_21, k_51, k_52, k_53, k_54, k_55, k_56, k_57, k_58, k_59, k_60, k_61, k_62, n_52, n_53, n_54, n_55, n_56, n_57, n_58, n_59, n_60, n_61, n_62]
    have hp : paceN (A (69 + 8 * g)) (A 64) ≤ 2 := by unfold paceN; (repeat' split) <;> omega
    refine inner (paceN (A (69 + 8 * g)) (A 64)) 0 _ A hi (by omega) hp (same4.refl A) hr ok fr (fun hi2 l5 l6 a b => ?_)
    obtain ⟨ok2, s⟩ := steps_ok w g (paceN (A (69 + 8 * g)) (A 64)) (A := A) (by omega) ok
    refine ih (g + 1) _ hi2 l5 l6 (by rw [s.2.2.2]; omega) a ok2 b (fun hi3 c d => h hi3 ?_ d)
    rw [s.1] at c; rw [goAll]; exact c
end M5
/-! 38.cmin -/
section M6
variable {u : UV} {hl : HL} {K : Option Value → HI → HL → Prop}
theorem c_minute_shut {e : Int32} {hi0 : HI} {B : Nat} {A : Nat → Nat} {hi : HI} (hr : Mr hi A) (ok : rowOk B A) (fr : fM hi0 hi) (h : ∀ hi', Mr hi' (up A 64 (A 64 + 1)) → fM hi0 hi' → K (some (.int (nI 0))) hi' hl) : ∀ (n g : Nat) (l5 l6 : Value), g + n = A 68 → Wp u 151 60 [.ref 51, .int e, .int (nI 0), .int (nI 0), .int (nI g), l5, l6] [] hi hl K := by
  have hr' : ∀ k, k < 69 + 8 * A 68 → hi 52 k = nI (A k) := hr
  have o2 := ok.2.1
  have o6 := ok.2.2.2.2.2.1
  intro n
  induction n with
  | zero =>
    intro g l5 l6 e1
    refine wv (by decide) ?_
    simp (disch := omega) only [b_M_minute_60, b_M_minute_105, true_and, and_true, true_implies, false_implies, not_true_eq_false, not_false_eq_true, eq_self, or_true, true_or, false_or, or_false, false_and, and_false, Option.toList_some, Option.toList_none, List.cons_append, List.nil_append, n10, n01, e10, e01, e08, e18, e28, e38, e48, e58, e68, e78, lt_lit, nI_add, pk_mul, n_le, n_lt, n_eq, n_cl, n_in, n_sub, n_div, n_rem, n_ite, Nat.zero_add, r_51_0, r_51_1, r_51_2, r_51_4, r_51_6, r_51_13, r_51_14, r_51_18, r_51_19, r_51_20, r_51_21, k_51, k_52, k_53, k_54, k_55, k_56, k_57, k_58, k_59, k_60, k_61, k_62, n_52, n_53, n_54, n_55, n_56, n_57, n_58, n_59, n_60, n_61, n_62, hr']
    refine ⟨fun _ => ?_, fun q => absurd (by omega) q⟩
    refine wv (by decide) ?_
    simp (disch := omega) only [b_M_minute_108, b_M_minute_120, b_M_minute_170, true_and, and_true, true_implies, false_implies, not_true_eq_false, not_false_eq_true, eq_self, or_true, true_or, false_or, or_false, false_and, and_false, Option.toList_some, Option.toList_none, List.cons_append, List.nil_append, n10, n01, e10, e01, e08, e18, e28, e38, e48, e58, e68, e78, lt_lit, nI_add, pk_mul, n_le, n_lt, n_eq, n_cl, n_in, n_sub, n_div, n_rem, n_ite, Nat.zero_add, r_51_0, r_51_1, r_51_2, r_51_4, r_51_6, r_51_13, r_51_14, r_51_18, r_51_19, r_51_20, r_51_21, k_51, k_52, k_53, k_54, k_55, k_56, k_57, k_58, k_59, k_60, k_61, k_62, n_52, n_53, n_54, n_55, n_56, n_57, n_58, n_59, n_60, n_61, n_62, hr']
    exact ⟨fun _ => h _ (hr.up (k := 64) (by omega)) (fr.up _ _), fun _ => h _ (hr.up (k := 64) (by omega)) (fr.up _ _)⟩
  | succ n ih =>
    intro g l5 l6 e1
    refine wv (by decide) ?_
    simp (disch := omega) only [b_M_minute_60, b_M_minute_72, b_M_minute_96, b_M_minute_97, true_and, and_true, true_implies, false_implies, not_true_eq_false, not_false_eq_true, eq_self, or_true, true_or, false_or, or_false, false_and, and_false, Option.toList_some, Option.toList_none, List.cons_append, List.nil_append, n10, n01, e10, e01, e08, e18, e28, e38, e48, e58, e68, e78, lt_lit, nI_add, pk_mul, n_le, n_lt, n_eq, n_cl, n_in, n_sub, n_div, n_rem, n_ite, Nat.zero_add, r_51_0, r_51_1, r_51_2, r_51_4, r_51_6, r_51_13, r_51_14, r_51_18, r_51_19, r_51_20, r_51_21, k_51, k_52, k_53, k_54, k_55, k_56, k_57, k_58, k_59, k_60, k_61, k_62, n_52, n_53, n_54, n_55, n_56, n_57, n_58, n_59, n_60, n_61, n_62, hr']
    refine ⟨fun q => absurd q (by omega), fun _ => ?_⟩
    exact ih (g + 1) l5 l6 (by omega)
theorem c_minute_open {e : Int32} {w : Nat → Bool} (hw : hereIs e w) {hi0 : HI} : ∀ (n g t B : Nat) (A : Nat → Nat) (hi : HI) (l5 l6 : Value), g + n = A 68 → B + 101 * n < 100000000 → t < 1000000 + 101 * g → Mr hi A → rowOk B A → fM hi0 hi → (∀ hi', Mr hi' (up (goAll w 0 (A 68) (takeAll w g n A)) 64 (A 64 + 1)) → fM hi0 hi' → K (some (.int (nI (t + tookAll w g n A)))) hi' hl) → Wp u 151 60 [.ref 51, .int e, .int (nI t), .int (nI 1), .int (nI g), l5, l6] [] hi hl K := by
  intro n
  induction n with
  | zero =>
    intro g t B A hi l5 l6 e1 hB ht hr ok fr h
    have hr' : ∀ k, k < 69 + 8 * A 68 → hi 52 k = nI (A k) := hr
    have o6 := ok.2.2.2.2.2.1
    refine wv (by decide) ?_
    simp (disch := omega) only [b_M_minute_60, b_M_minute_105, true_and, and_true, true_implies, false_implies, not_true_eq_false, not_false_eq_true, eq_self, or_true, true_or, false_or, or_false, false_and, and_false, Option.toList_some, Option.toList_none, List.cons_append, List.nil_append, n10, n01, e10, e01, e08, e18, e28, e38, e48, e58, e68, e78, lt_lit, nI_add, pk_mul, n_le, n_lt, n_eq, n_cl, n_in, n_sub, n_div, n_rem, n_ite, Nat.zero_add, r_51_0, r_51_1, r_51_2, r_51_4, r_51_6, r_51_13, r_51_14, r_51_18, r_51_19, r_51_20, r_51_21, k_51, k_52, k_53, k_54, k_55, k_56, k_57, k_58, k_59, k_60, k_61, k_62, n_52, n_53, n_54, n_55, n_56, n_57, n_58, n_59, n_60, n_61, n_62, hr']
    refine ⟨fun _ => ?_, fun q => absurd (by omega) q⟩
    exact c_minute_end hw (A 68) 0 A hi l5 l6 (by omega) hr ok fr h
  | succ n ih =>
    intro g t B A hi l5 l6 e1 hB ht hr ok fr h
    have hr' : ∀ k, k < 69 + 8 * A 68 → hi 52 k = nI (A k) := hr
    have o6 := ok.2.2.2.2.2.1
    refine wv (by decide) ?_
    simp (disch := omega) only [b_M_minute_60, b_M_minute_72, b_M_minute_77, true_and, and_true, true_implies, false_implies, not_true_eq_false, not_false_eq_true, eq_self, or_true, true_or, false_or, or_false, false_and, and_false, Option.toList_some, Option.toList_none, List.cons_append, List.nil_append, n10, n01, e10, e01, e08, e18, e28, e38, e48, e58, e68, e78, lt_lit, nI_add, pk_mul, n_le, n_lt, n_eq, n_cl, n_in, n_sub, n_div, n_rem, n_ite, Nat.zero_add, r_51_0, r_51_1, r_51_2, r_51_4, r_51_6, r_51_13, r_51_14, r_51_18, r_51_19, r_51_20, r_51_21, k_51, k_52, k_53, k_54, k_55, k_56, k_57, k_58, k_59, k_60, k_61, k_62, n_52, n_53, n_54, n_55, n_56, n_57, n_58, n_59, n_60, n_61, n_62, hr']
    refine ⟨fun q => absurd q (by omega), fun _ => ?_⟩
    refine c_isAtWork (g := g) hw hr ok (by omega) (fun q => ?_) (fun q => ?_)
    · have s := same4_take (g := g) (ok.at (by omega))
      have := tk1_le ok (g := g) (by omega)
      have := dr1_le A g
      simp (disch := omega) only [b_M_minute_84, b_M_minute_87, true_and, and_true, true_implies, false_implies, not_true_eq_false, not_false_eq_true, eq_self, or_true, true_or, false_or, or_false, false_and, and_false, Option.toList_some, Option.toList_none, List.cons_append, List.nil_append, n10, n01, e10, e01, e08, e18, e28, e38, e48, e58, e68, e78, lt_lit, nI_add, pk_mul, n_le, n_lt, n_eq, n_cl, n_in, n_sub, n_div, n_rem, n_ite, Nat.zero_add, r_51_0, r_51_1, r_51_2, r_51_4, r_51_6, r_51_13, r_51_14, r_51_18, r_51_19, r_51_20, r_51_21, k_51, k_52, k_53, k_54, k_55, k_56, k_57, k_58, k_59, k_60, k_61, k_62, n_52, n_53, n_54, n_55, n_56, n_57, n_58, n_59, n_60, n_61, n_62]
      refine c_takesNow (g := g) hr ok (by omega) (by omega) (fun hi2 hr2 f2 => ?_)
      simp (disch := omega) only [b_M_minute_93, b_M_minute_97, true_and, and_true, true_implies, false_implies, not_true_eq_false, not_false_eq_true, eq_self, or_true, true_or, false_or, or_false, false_and, and_false, Option.toList_some, Option.toList_none, List.cons_append, List.nil_append, n10, n01, e10, e01, e08, e18, e28, e38, e48, e58, e68, e78, lt_lit, nI_add, pk_mul, n_le, n_lt, n_eq, n_cl, n_in, n_sub, n_div, n_rem, n_ite, Nat.zero_add, r_51_0, r_51_1, r_51_2, r_51_4, r_51_6, r_51_13, r_51_14, r_51_18, r_51_19, r_51_20, r_51_21, k_51, k_52, k_53, k_54, k_55, k_56, k_57, k_58, k_59, k_60, k_61, k_62, n_52, n_53, n_54, n_55, n_56, n_57, n_58, n_59, n_60, n_61, n_62]
      refine ih (g + 1) _ (B + 101) (take A g) hi2 l5 l6 (by rw [s.2.2.2]; omega) (by omega) (by omega) hr2 (ok.take (by omega)) (fr.trans (fM.of f2)) (fun hi3 a b => ?_)
      rw [takeAll, if_pos q, tookAll, if_pos q, ← Nat.add_assoc] at h
      rw [s.1, s.2.2.2] at a
      exact h hi3 a b
    · simp (disch := omega) only [b_M_minute_84, b_M_minute_96, b_M_minute_97, true_and, and_true, true_implies, false_implies, not_true_eq_false, not_false_eq_true, eq_self, or_true, true_or, false_or, or_false, false_and, and_false, Option.toList_some, Option.toList_none, List.cons_append, List.nil_append, n10, n01, e10, e01, e08, e18, e28, e38, e48, e58, e68, e78, lt_lit, nI_add, pk_mul, n_le, n_lt, n_eq, n_cl, n_in, n_sub, n_div, n_rem, n_ite, Nat.zero_add, r_51_0, r_51_1, r_51_2, r_51_4, r_51_6, r_51_13, r_51_14, r_51_18, r_51_19, r_51_20, r_51_21, k_51, k_52, k_53, k_54, k_55, k_56, k_57, k_58, k_59, k_60, k_61, k_62, n_52, n_53, n_54, n_55, n_56, n_57, n_58, n_59, n_60, n_61, n_62]
      refine ih (g + 1) _ B A hi l5 l6 (by omega) (by omega) (by omega) hr ok fr (fun hi3 a b => ?_)
      rw [takeAll, if_neg q, tookAll, if_neg q] at h
      exact h hi3 a b
theorem c_minute {e : Int32} {w : Nat → Bool} (hw : hereIs e w) {hi : HI} {A : Nat → Nat} {B : Nat} (hr : Mr hi A) (ok : rowOk B A) (hB : B + 909 < 100000000) (h : ∀ hi', Mr hi' (minN w A) → fM hi hi' → K (some (.int (nI (tookN w A)))) hi' hl) : Call u 151 [.ref 51, .int e] hi hl K := by
  have hr' : ∀ k, k < 69 + 8 * A 68 → hi 52 k = nI (A k) := hr
  have o2 := ok.2.1
  have o3 := ok.2.2.1
  have o4 := ok.2.2.2.1
  have o6 := ok.2.2.2.2.2.1
  obtain ⟨okg, sg⟩ := geese_ok ok
  have J : ∀ n hi' l3 l4 l5 l6, Mr hi' (geeseN A) → fM hi hi' → vc u (n + 50) 151 34 [.ref 51, .int e, .int (nI 0), l3, l4, l5, l6] [] hi' hl K := by
    intro n hi' l3 l4 l5 l6 hg fr
    obtain ⟨s1, s2, s3, s4⟩ := sg
    have hg' : ∀ k, k < 69 + 8 * A 68 → hi' 52 k = nI (geeseN A k) := fun k hk => hg k (by rw [s4]; exact hk)
    simp (disch := omega) only [b_M_minute_34, b_M_minute_51, b_M_minute_55, b_M_minute_56, true_and, and_true, true_implies, false_implies, not_true_eq_false, not_false_eq_true, eq_self, or_true, true_or, false_or, or_false, false_and, and_false, Option.toList_some, Option.toList_none, List.cons_append, List.nil_append, n10, n01, e10, e01, e08, e18, e28, e38, e48, e58, e68, e78, lt_lit, nI_add, pk_mul, n_le, n_lt, n_eq, n_cl, n_in, n_sub, n_div, n_rem, n_ite, Nat.zero_add, r_51_0, r_51_1, r_51_2, r_51_4, r_51_6, r_51_13, r_51_14, r_51_18, r_51_19, r_51_20, r_51_21, k_51, k_52, k_53, k_54, k_55, k_56, k_57, k_58, k_59, k_60, k_61, k_62, n_52, n_53, n_54, n_55, n_56, n_57, n_58, n_59, n_60, n_61, n_62, hg', s1, s2]
    refine ⟨fun q => ?_, fun q => ?_⟩
    · refine c_minute_shut hg okg fr (fun hi2 a b => ?_) (A 68) 0 l5 l6 (by omega)
      rw [tookN, if_pos q, minN, openN, s1, s2, if_pos q] at h
      rw [s1] at a
      exact h hi2 a b
    · refine c_minute_open hw (A 68) 0 0 B (geeseN A) hi' l5 l6 (by omega) (by omega) (by omega) hg okg fr (fun hi2 a b => ?_)
      rw [tookN, if_neg q, minN, openN, s1, s2, if_neg q, s4] at h
      rw [s1, s4] at a
      rw [Nat.zero_add]
      exact h hi2 a b
  refine i_M_minute ?_
  simp (disch := omega) only [b_M_minute_0, b_M_minute_19, true_and, and_true, true_implies, false_implies, not_true_eq_false, not_false_eq_true, eq_self, or_true, true_or, false_or, or_false, false_and, and_false, Option.toList_some, Option.toList_none, List.cons_append, List.nil_append, n10, n01, e10, e01, e08, e18, e28, e38, e48, e58, e68, e78, lt_lit, nI_add, pk_mul, n_le, n_lt, n_eq, n_cl, n_in, n_sub, n_div, n_rem, n_ite, Nat.zero_add, r_51_0, r_51_1, r_51_2, r_51_4, r_51_6, r_51_13, r_51_14, r_51_18, r_51_19, r_51_20, r_51_21, k_51, k_52, k_53, k_54, k_55, k_56, k_57, k_58, k_59, k_60, k_61, k_62, n_52, n_53, n_54, n_55, n_56, n_57, n_58, n_59, n_60, n_61, n_62, hr']
  refine ⟨fun q => J _ _ _ _ _ _ (by unfold geeseN; rw [if_neg q]; exact hr) (fM.refl hi), fun q => ?_⟩
  refine c_raked (r := 0) hr ok (by omega) (fun hi1 a1 b1 => ?_)
  obtain ⟨ok1, s1⟩ := wipe_ok (8 * 0) 8 (by omega) ok
  simp (disch := omega) only [b_M_minute_25, true_and, and_true, true_implies, false_implies, not_true_eq_false, not_false_eq_true, eq_self, or_true, true_or, false_or, or_false, false_and, and_false, Option.toList_some, Option.toList_none, List.cons_append, List.nil_append, n10, n01, e10, e01, e08, e18, e28, e38, e48, e58, e68, e78, lt_lit, nI_add, pk_mul, n_le, n_lt, n_eq, n_cl, n_in, n_sub, n_div, n_rem, n_ite, Nat.zero_add, r_51_0, r_51_1, r_51_2, r_51_4, r_51_6, r_51_13, r_51_14, r_51_18, r_51_19, r_51_20, r_51_21, k_51, k_52, k_53, k_54, k_55, k_56, k_57, k_58, k_59, k_60, k_61, k_62, n_52, n_53, n_54, n_55, n_56, n_57, n_58, n_59, n_60, n_61, n_62]
  refine c_raked (r := 1) a1 ok1 (by omega) (fun hi2 a2 b2 => ?_)
  simp (disch := omega) only [b_M_minute_30, true_and, and_true, true_implies, false_implies, not_true_eq_false, not_false_eq_true, eq_self, or_true, true_or, false_or, or_false, false_and, and_false, Option.toList_some, Option.toList_none, List.cons_append, List.nil_append, n10, n01, e10, e01, e08, e18, e28, e38, e48, e58, e68, e78, lt_lit, nI_add, pk_mul, n_le, n_lt, n_eq, n_cl, n_in, n_sub, n_div, n_rem, n_ite, Nat.zero_add, r_51_0, r_51_1, r_51_2, r_51_4, r_51_6, r_51_13, r_51_14, r_51_18, r_51_19, r_51_20, r_51_21, k_51, k_52, k_53, k_54, k_55, k_56, k_57, k_58, k_59, k_60, k_61, k_62, n_52, n_53, n_54, n_55, n_56, n_57, n_58, n_59, n_60, n_61, n_62]
  refine J _ _ _ _ _ _ ?_ ?_
  · unfold geeseN
    rw [if_pos q]
    intro k hk
    rw [u2_nh (by omega)]
    exact a2 k hk
  · refine ((fM.of b1).trans (fM.of b2)).trans ⟨fun o _ h51 => ?_, fun k hk => ?_⟩
    · funext j; rw [u2_nh h51]
    · rw [u2_nk hk]
end M6
/-! 39.mgo -/
/-! minutes in a row, to the end -/
def minsN (w : Nat → Bool) : Nat → (Nat → Nat) → (Nat → Nat)
  | 0, A => A
  | n + 1, A => minsN w n (minN w A)
def tooksN (w : Nat → Bool) : Nat → (Nat → Nat) → Nat
  | 0, _ => 0
  | n + 1, A => tookN w A + tooksN w n (minN w A)
def all1 : Nat → Bool := fun _ => true
def same3 (A A' : Nat → Nat) : Prop := A' 65 = A 65 ∧ A' 66 = A 66 ∧ A' 68 = A 68
theorem mins_ok (w : Nat → Bool) (n : Nat) : ∀ {A : Nat → Nat} {B : Nat}, A 64 + n ≤ 10200 → rowOk B A → rowOk (B + 909 * n) (minsN w n A) ∧ minsN w n A 64 = A 64 + n ∧ same3 A (minsN w n A) ∧ tooksN w n A ≤ 909 * n := by
  induction n with
  | zero => intro A B _ ok; exact ⟨ok, rfl, ⟨rfl, rfl, rfl⟩, Nat.le_refl _⟩
  | succ n ih =>
    intro A B h ok
    obtain ⟨a, b, c, d, e, f⟩ := min_ok w ok (by omega)
    obtain ⟨a2, b2, c2, d2⟩ := ih (A := minN w A) (by omega) a
    refine ⟨a2.mono (by omega), by rw [minsN]; omega, ⟨c2.1.trans c, c2.2.1.trans d, c2.2.2.trans e⟩, ?_⟩
    rw [tooksN]; omega
def anyN (p : Nat → Bool) : Nat → Nat → Bool
  | _, 0 => false
  | g, n + 1 => p g || anyN p (g + 1) n
def workN (w : Nat → Bool) (A : Nat → Nat) (g : Nat) : Bool := w g && A (76 + 8 * g) == 0
def someN (w : Nat → Bool) (A : Nat → Nat) : Bool := anyN (workN w A) 0 (A 68)
def endN (w : Nat → Bool) : Nat → (Nat → Nat) → (Nat → Nat)
  | 0, A => A
  | n + 1, A => if someN w A = true then endN w n (minN w A) else A
theorem end_ok (w : Nat → Bool) (n : Nat) : ∀ {A : Nat → Nat} {B : Nat}, A 64 + n ≤ 10200 → rowOk B A → rowOk (B + 909 * n) (endN w n A) ∧ same3 A (endN w n A) := by
  induction n with
  | zero => intro A B _ ok; exact ⟨ok, ⟨rfl, rfl, rfl⟩⟩
  | succ n ih =>
    intro A B h ok
    rw [endN]
    split
    · obtain ⟨a, b, c, d, e, f⟩ := min_ok w ok (by omega)
      obtain ⟨a2, c2⟩ := ih (A := minN w A) (by omega) a
      exact ⟨a2.mono (by omega), ⟨c2.1.trans c, c2.2.1.trans d, c2.2.2.trans e⟩⟩
    · exact ⟨ok.mono (by omega), ⟨rfl, rfl, rfl⟩⟩
theorem here_all : hereIs (nI 511) all1 := by
  intro g hg
  have : g = 0 ∨ g = 1 ∨ g = 2 ∨ g = 3 ∨ g = 4 ∨ g = 5 ∨ g = 6 ∨ g = 7 ∨ g = 8 := by omega
  rcases this with h | h | h | h | h | h | h | h | h <;> subst h <;> decide
section M7
variable {u : UV} {hl : HL} {K : Option Value → HI → HL → Prop}
theorem c_minutesGo {hi : HI} {A : Nat → Nat} {B n : Nat} (hr : Mr hi A) (ok : rowOk B A) (hn : n ≤ 200) (hA : A 64 + n ≤ 10200) (hB : B + 909 * n < 100000000) (h : ∀ hi', Mr hi' (minsN all1 n A) → fM hi hi' → K (some (.int (nI (tooksN all1 n A)))) hi' hl) : Call u 152 [.ref 51, .int (nI n)] hi hl K := by
  have loop : ∀ m k t A' B' hi', k + m = n → t ≤ 909 * k → A' 64 + m ≤ 10200 → B' + 909 * m < 100000000 → Mr hi' A' → rowOk B' A' → fM hi hi' → (∀ hi2, Mr hi2 (minsN all1 m A') → fM hi hi2 → K (some (.int (nI (t + tooksN all1 m A')))) hi2 hl) → Wp u 152 4 [.ref 51, .int (nI n), .int (nI t), .int (nI k)] [] hi' hl K := by
    intro m
    induction m with
    | zero =>
      intro k t A' B' hi' e ht hA hB hr ok fr h
      refine wv (by decide) ?_
      simp (disch := omega) only [b_M_minutesGo_0, b_M_minutesGo_4, b_M_minutesGo_9, b_M_minutesGo_17, b_M_minutesGo_25, true_and, and_true, true_implies, false_implies, not_true_eq_false, not_false_eq_true, eq_self, or_true, true_or, false_or, or_false, false_and, and_false, Option.toList_some, Option.toList_none, List.cons_append, List.nil_append, n10, n01, e10, e01, e08, e18, e28, e38, e48, e58, e68, e78, lt_lit, nI_add, pk_mul, n_le, n_lt, n_eq, n_cl, n_in, n_sub, n_div, n_rem, n_ite, Nat.zero_add, r_51_0, r_51_1, r_51_2, r_51_4, r_51_6, r_51_13, r_51_14, r_51_18, r_51_19, r_51_20, r_51_21, k_51, k_52, k_53, k_54, k_55, k_56, k_57, k_58, k_59, k_60, k_61, k_62, n_52, n_53, n_54, n_55, n_56, n_57, n_58, n_59, n_60, n_61, n_62]
      exact ⟨fun _ => h _ hr fr, fun q => absurd (by omega) q⟩
    | succ m ih =>
      intro k t A' B' hi' e ht hA hB hr ok fr h
      refine wv (by decide) ?_
      simp (disch := omega) only [b_M_minutesGo_0, b_M_minutesGo_4, b_M_minutesGo_9, b_M_minutesGo_17, b_M_minutesGo_25, true_and, and_true, true_implies, false_implies, not_true_eq_false, not_false_eq_true, eq_self, or_true, true_or, false_or, or_false, false_and, and_false, Option.toList_some, Option.toList_none, List.cons_append, List.nil_append, n10, n01, e10, e01, e08, e18, e28, e38, e48, e58, e68, e78, lt_lit, nI_add, pk_mul, n_le, n_lt, n_eq, n_cl, n_in, n_sub, n_div, n_rem, n_ite, Nat.zero_add, r_51_0, r_51_1, r_51_2, r_51_4, r_51_6, r_51_13, r_51_14, r_51_18, r_51_19, r_51_20, r_51_21, k_51, k_52, k_53, k_54, k_55, k_56, k_57, k_58, k_59, k_60, k_61, k_62, n_52, n_53, n_54, n_55, n_56, n_57, n_58, n_59, n_60, n_61, n_62]
      refine ⟨fun q => absurd q (by omega), fun _ => ?_⟩
      have hB2 : B' + 909 < 100000000 := Nat.lt_of_le_of_lt (Nat.add_le_add_left (by omega : 909 ≤ 909 * (m + 1)) B') hB
      refine c_minute here_all hr ok hB2 (fun hi2 a b => ?_)
      obtain ⟨m1, m2, m3, m4, m5, m6⟩ := min_ok all1 ok (by omega)
      simp (disch := omega) only [b_M_minutesGo_0, b_M_minutesGo_4, b_M_minutesGo_9, b_M_minutesGo_17, b_M_minutesGo_25, true_and, and_true, true_implies, false_implies, not_true_eq_false, not_false_eq_true, eq_self, or_true, true_or, false_or, or_false, false_and, and_false, Option.toList_some, Option.toList_none, List.cons_append, List.nil_append, n10, n01, e10, e01, e08, e18, e28, e38, e48, e58, e68, e78, lt_lit, nI_add, pk_mul, n_le, n_lt, n_eq, n_cl, n_in, n_sub, n_div, n_rem, n_ite, Nat.zero_add, r_51_0, r_51_1, r_51_2, r_51_4, r_51_6, r_51_13, r_51_14, r_51_18, r_51_19, r_51_20, r_51_21, k_51, k_52, k_53, k_54, k_55, k_56, k_57, k_58, k_59, k_60, k_61, k_62, n_52, n_53, n_54, n_55, n_56, n_57, n_58, n_59, n_60, n_61, n_62]
      refine ih (k + 1) _ (minN all1 A') (B' + 909) hi2 (by omega) (by omega) (by omega) (by omega) a m1 (fr.trans b) (fun hi3 c d => ?_)
      rw [minsN, tooksN, ← Nat.add_assoc] at h
      exact h hi3 c d
  refine i_M_minutesGo ?_
  simp (disch := omega) only [b_M_minutesGo_0, b_M_minutesGo_4, b_M_minutesGo_9, b_M_minutesGo_17, b_M_minutesGo_25, true_and, and_true, true_implies, false_implies, not_true_eq_false, not_false_eq_true, eq_self, or_true, true_or, false_or, or_false, false_and, and_false, Option.toList_some, Option.toList_none, List.cons_append, List.nil_append, n10, n01, e10, e01, e08, e18, e28, e38, e48, e58, e68, e78, lt_lit, nI_add, pk_mul, n_le, n_lt, n_eq, n_cl, n_in, n_sub, n_div, n_rem, n_ite, Nat.zero_add, r_51_0, r_51_1, r_51_2, r_51_4, r_51_6, r_51_13, r_51_14, r_51_18, r_51_19, r_51_20, r_51_21, k_51, k_52, k_53, k_54, k_55, k_56, k_57, k_58, k_59, k_60, k_61, k_62, n_52, n_53, n_54, n_55, n_56, n_57, n_58, n_59, n_60, n_61, n_62]
  refine loop n 0 0 A B hi (by omega) (by omega) hA hB hr ok (fM.refl hi) (fun hi2 a b => ?_)
  rw [Nat.zero_add]; exact h hi2 a b
theorem c_isTooLate {hi : HI} {A : Nat → Nat} {B n : Nat} (hr : Mr hi A) (ok : rowOk B A) (hn : n ≤ 200) (h1 : 9999 < A 64 + n → K (some (.int 1)) hi hl) (h0 : A 64 + n ≤ 9999 → K (some (.int 0)) hi hl) : Call u 153 [.ref 51, .int (nI n)] hi hl K := by
  have hr' : ∀ k, k < 69 + 8 * A 68 → hi 52 k = nI (A k) := hr
  have o2 := ok.2.1
  refine i_M_isTooLate ?_
  simp (disch := omega) only [b_M_isTooLate_0, b_M_isTooLate_15, b_M_isTooLate_19, b_M_isTooLate_20, true_and, and_true, true_implies, false_implies, not_true_eq_false, not_false_eq_true, eq_self, or_true, true_or, false_or, or_false, false_and, and_false, Option.toList_some, Option.toList_none, List.cons_append, List.nil_append, n10, n01, e10, e01, e08, e18, e28, e38, e48, e58, e68, e78, lt_lit, nI_add, pk_mul, n_le, n_lt, n_eq, n_cl, n_in, n_sub, n_div, n_rem, n_ite, Nat.zero_add, r_51_0, r_51_1, r_51_2, r_51_4, r_51_6, r_51_13, r_51_14, r_51_18, r_51_19, r_51_20, r_51_21, k_51, k_52, k_53, k_54, k_55, k_56, k_57, k_58, k_59, k_60, k_61, k_62, n_52, n_53, n_54, n_55, n_56, n_57, n_58, n_59, n_60, n_61, n_62, hr']
  exact ⟨fun q => h0 q, fun q => h1 (by omega)⟩
theorem c_isSomebody {e : Int32} {w : Nat → Bool} (hw : hereIs e w) {hi : HI} {A : Nat → Nat} {B : Nat} (hr : Mr hi A) (ok : rowOk B A) (h1 : someN w A = true → K (some (.int 1)) hi hl) (h0 : ¬ someN w A = true → K (some (.int 0)) hi hl) : Call u 163 [.ref 51, .int e] hi hl K := by
  have hr' : ∀ k, k < 69 + 8 * A 68 → hi 52 k = nI (A k) := hr
  have o6 := ok.2.2.2.2.2.1
  have got : ∀ m k, k + m = A 68 → K (some (.int 1)) hi hl → Wp u 163 4 [.ref 51, .int e, .int (nI 1), .int (nI k)] [] hi hl K := by
    intro m
    induction m with
    | zero =>
      intro k e1 h
      refine wv (by decide) ?_
      simp (disch := omega) only [b_M_isSomebodyAtWork_0, b_M_isSomebodyAtWork_4, b_M_isSomebodyAtWork_15, b_M_isSomebodyAtWork_19, b_M_isSomebodyAtWork_25, b_M_isSomebodyAtWork_28, b_M_isSomebodyAtWork_32, b_M_isSomebodyAtWork_33, b_M_isSomebodyAtWork_40, true_and, and_true, true_implies, false_implies, not_true_eq_false, not_false_eq_true, eq_self, or_true, true_or, false_or, or_false, false_and, and_false, Option.toList_some, Option.toList_none, List.cons_append, List.nil_append, n10, n01, e10, e01, e08, e18, e28, e38, e48, e58, e68, e78, lt_lit, nI_add, pk_mul, n_le, n_lt, n_eq, n_cl, n_in, n_sub, n_div, n_rem, n_ite, Nat.zero_add, r_51_0, r_51_1, r_51_2, r_51_4, r_51_6, r_51_13, r_51_14, r_51_18, r_51_19, r_51_20, r_51_21, k_51, k_52, k_53, k_54, k_55, k_56, k_57, k_58, k_59, k_60, k_61, k_62, n_52, n_53, n_54, n_55, n_56, n_57, n_58, n_59, n_60, n_61, n_62, hr']
      exact ⟨fun _ => h, fun q => absurd (by omega) q⟩
    | succ m ih =>
      intro k e1 h
      refine wv (by decide) ?_
      simp (disch := omega) only [b_M_isSomebodyAtWork_0, b_M_isSomebodyAtWork_4, b_M_isSomebodyAtWork_15, b_M_isSomebodyAtWork_19, b_M_isSomebodyAtWork_25, b_M_isSomebodyAtWork_28, b_M_isSomebodyAtWork_32, b_M_isSomebodyAtWork_33, b_M_isSomebodyAtWork_40, true_and, and_true, true_implies, false_implies, not_true_eq_false, not_false_eq_true, eq_self, or_true, true_or, false_or, or_false, false_and, and_false, Option.toList_some, Option.toList_none, List.cons_append, List.nil_append, n10, n01, e10, e01, e08, e18, e28, e38, e48, e58, e68, e78, lt_lit, nI_add, pk_mul, n_le, n_lt, n_eq, n_cl, n_in, n_sub, n_div, n_rem, n_ite, Nat.zero_add, r_51_0, r_51_1, r_51_2, r_51_4, r_51_6, r_51_13, r_51_14, r_51_18, r_51_19, r_51_20, r_51_21, k_51, k_52, k_53, k_54, k_55, k_56, k_57, k_58, k_59, k_60, k_61, k_62, n_52, n_53, n_54, n_55, n_56, n_57, n_58, n_59, n_60, n_61, n_62, hr']
      exact ⟨fun q => absurd q (by omega), fun _ => ih (k + 1) (by omega) h⟩
  have loop : ∀ m k, k + m = A 68 → (anyN (workN w A) k m = true → K (some (.int 1)) hi hl) → (¬ anyN (workN w A) k m = true → K (some (.int 0)) hi hl) → Wp u 163 4 [.ref 51, .int e, .int (nI 0), .int (nI k)] [] hi hl K := by
    intro m
    induction m with
    | zero =>
      intro k e1 h1 h0
      refine wv (by decide) ?_
      simp (disch := omega) only [b_M_isSomebodyAtWork_0, b_M_isSomebodyAtWork_4, b_M_isSomebodyAtWork_15, b_M_isSomebodyAtWork_19, b_M_isSomebodyAtWork_25, b_M_isSomebodyAtWork_28, b_M_isSomebodyAtWork_32, b_M_isSomebodyAtWork_33, b_M_isSomebodyAtWork_40, true_and, and_true, true_implies, false_implies, not_true_eq_false, not_false_eq_true, eq_self, or_true, true_or, false_or, or_false, false_and, and_false, Option.toList_some, Option.toList_none, List.cons_append, List.nil_append, n10, n01, e10, e01, e08, e18, e28, e38, e48, e58, e68, e78, lt_lit, nI_add, pk_mul, n_le, n_lt, n_eq, n_cl, n_in, n_sub, n_div, n_rem, n_ite, Nat.zero_add, r_51_0, r_51_1, r_51_2, r_51_4, r_51_6, r_51_13, r_51_14, r_51_18, r_51_19, r_51_20, r_51_21, k_51, k_52, k_53, k_54, k_55, k_56, k_57, k_58, k_59, k_60, k_61, k_62, n_52, n_53, n_54, n_55, n_56, n_57, n_58, n_59, n_60, n_61, n_62, hr']
      exact ⟨fun _ => h0 (by simp [anyN]), fun q => absurd (by omega) q⟩
    | succ m ih =>
      intro k e1 h1 h0
      refine wv (by decide) ?_
      simp (disch := omega) only [b_M_isSomebodyAtWork_0, b_M_isSomebodyAtWork_4, b_M_isSomebodyAtWork_15, b_M_isSomebodyAtWork_19, b_M_isSomebodyAtWork_25, b_M_isSomebodyAtWork_28, b_M_isSomebodyAtWork_32, b_M_isSomebodyAtWork_33, b_M_isSomebodyAtWork_40, true_and, and_true, true_implies, false_implies, not_true_eq_false, not_false_eq_true, eq_self, or_true, true_or, false_or, or_false, false_and, and_false, Option.toList_some, Option.toList_none, List.cons_append, List.nil_append, n10, n01, e10, e01, e08, e18, e28, e38, e48, e58, e68, e78, lt_lit, nI_add, pk_mul, n_le, n_lt, n_eq, n_cl, n_in, n_sub, n_div, n_rem, n_ite, Nat.zero_add, r_51_0, r_51_1, r_51_2, r_51_4, r_51_6, r_51_13, r_51_14, r_51_18, r_51_19, r_51_20, r_51_21, k_51, k_52, k_53, k_54, k_55, k_56, k_57, k_58, k_59, k_60, k_61, k_62, n_52, n_53, n_54, n_55, n_56, n_57, n_58, n_59, n_60, n_61, n_62, hr']
      refine ⟨fun q => absurd q (by omega), fun _ => ?_⟩
      refine c_isAtWork (g := k) hw hr ok (by omega) (fun q => ?_) (fun q => ?_)
      · simp (disch := omega) only [b_M_isSomebodyAtWork_0, b_M_isSomebodyAtWork_4, b_M_isSomebodyAtWork_15, b_M_isSomebodyAtWork_19, b_M_isSomebodyAtWork_25, b_M_isSomebodyAtWork_28, b_M_isSomebodyAtWork_32, b_M_isSomebodyAtWork_33, b_M_isSomebodyAtWork_40, true_and, and_true, true_implies, false_implies, not_true_eq_false, not_false_eq_true, eq_self, or_true, true_or, false_or, or_false, false_and, and_false, Option.toList_some, Option.toList_none, List.cons_append, List.nil_append, n10, n01, e10, e01, e08, e18, e28, e38, e48, e58, e68, e78, lt_lit, nI_add, pk_mul, n_le, n_lt, n_eq, n_cl, n_in, n_sub, n_div, n_rem, n_ite, Nat.zero_add, r_51_0, r_51_1, r_51_2, r_51_4, r_51_6, r_51_13, r_51_14, r_51_18, r_51_19, r_51_20, r_51_21, k_51, k_52, k_53, k_54, k_55, k_56, k_57, k_58, k_59, k_60, k_61, k_62, n_52, n_53, n_54, n_55, n_56, n_57, n_58, n_59, n_60, n_61, n_62, hr']
        exact got m (k + 1) (by omega) (h1 (by simp [anyN, workN, q.1, q.2]))
      · simp (disch := omega) only [b_M_isSomebodyAtWork_0, b_M_isSomebodyAtWork_4, b_M_isSomebodyAtWork_15, b_M_isSomebodyAtWork_19, b_M_isSomebodyAtWork_25, b_M_isSomebodyAtWork_28, b_M_isSomebodyAtWork_32, b_M_isSomebodyAtWork_33, b_M_isSomebodyAtWork_40, true_and, and_true, true_implies, false_implies, not_true_eq_false, not_false_eq_true, eq_self, or_true, true_or, false_or, or_false, false_and, and_false, Option.toList_some, Option.toList_none, List.cons_append, List.nil_append, n10, n01, e10, e01, e08, e18, e28, e38, e48, e58, e68, e78, lt_lit, nI_add, pk_mul, n_le, n_lt, n_eq, n_cl, n_in, n_sub, n_div, n_rem, n_ite, Nat.zero_add, r_51_0, r_51_1, r_51_2, r_51_4, r_51_6, r_51_13, r_51_14, r_51_18, r_51_19, r_51_20, r_51_21, k_51, k_52, k_53, k_54, k_55, k_56, k_57, k_58, k_59, k_60, k_61, k_62, n_52, n_53, n_54, n_55, n_56, n_57, n_58, n_59, n_60, n_61, n_62, hr']
        have hf : workN w A k = false := by
          cases hh : workN w A k with
          | false => rfl
          | true => exact absurd (by simpa [workN] using hh) q
        refine ih (k + 1) (by omega) (fun q => h1 ?_) (fun q => h0 ?_)
        · rw [anyN, hf, Bool.false_or]; exact q
        · rw [anyN, hf, Bool.false_or]; exact q
  refine i_M_isSomebodyAtWork ?_
  simp (disch := omega) only [b_M_isSomebodyAtWork_0, b_M_isSomebodyAtWork_4, b_M_isSomebodyAtWork_15, b_M_isSomebodyAtWork_19, b_M_isSomebodyAtWork_25, b_M_isSomebodyAtWork_28, b_M_isSomebodyAtWork_32, b_M_isSomebodyAtWork_33, b_M_isSomebodyAtWork_40, true_and, and_true, true_implies, false_implies, not_true_eq_false, not_false_eq_true, eq_self, or_true, true_or, false_or, or_false, false_and, and_false, Option.toList_some, Option.toList_none, List.cons_append, List.nil_append, n10, n01, e10, e01, e08, e18, e28, e38, e48, e58, e68, e78, lt_lit, nI_add, pk_mul, n_le, n_lt, n_eq, n_cl, n_in, n_sub, n_div, n_rem, n_ite, Nat.zero_add, r_51_0, r_51_1, r_51_2, r_51_4, r_51_6, r_51_13, r_51_14, r_51_18, r_51_19, r_51_20, r_51_21, k_51, k_52, k_53, k_54, k_55, k_56, k_57, k_58, k_59, k_60, k_61, k_62, n_52, n_53, n_54, n_55, n_56, n_57, n_58, n_59, n_60, n_61, n_62, hr']
  exact loop (A 68) 0 (by omega) h1 h0
end M7
/-! 40.mend -/
section M8
variable {u : UV} {hl : HL} {K : Option Value → HI → HL → Prop}
theorem c_goesToTheEnd {e : Int32} {w : Nat → Bool} (hw : hereIs e w) {hi : HI} {A : Nat → Nat} {B : Nat} (hr : Mr hi A) (ok : rowOk B A) (hA : A 64 ≤ 9999) (hB : B < 99000000) (h : ∀ hi', Mr hi' (endN w 200 A) → fM hi hi' → K none hi' hl) : Call u 164 [.ref 51, .int e] hi hl K := by
  have loop : ∀ m k t A' B' hi', k + m = 200 → t ≤ 909 * k → A' 64 + m ≤ 10200 → B' + 909 * m < 100000000 → Mr hi' A' → rowOk B' A' → fM hi hi' → (∀ hi2, Mr hi2 (endN w m A') → fM hi hi2 → K none hi2 hl) → Wp u 164 4 [.ref 51, .int e, .int (nI t), .int (nI k)] [] hi' hl K := by
    intro m
    induction m with
    | zero =>
      intro k t A' B' hi' e ht hA hB hr ok fr h
      refine wv (by decide) ?_
      simp (disch := omega) only [b_M_goesToTheEnd_0, b_M_goesToTheEnd_4, b_M_goesToTheEnd_11, b_M_goesToTheEnd_15, b_M_goesToTheEnd_20, b_M_goesToTheEnd_23, b_M_goesToTheEnd_29, b_M_goesToTheEnd_37, true_and, and_true, true_implies, false_implies, not_true_eq_false, not_false_eq_true, eq_self, or_true, true_or, false_or, or_false, false_and, and_false, Option.toList_some, Option.toList_none, List.cons_append, List.nil_append, n10, n01, e10, e01, e08, e18, e28, e38, e48, e58, e68, e78, lt_lit, nI_add, pk_mul, n_le, n_lt, n_eq, n_cl, n_in, n_sub, n_div, n_rem, n_ite, Nat.zero_add, r_51_0, r_51_1, r_51_2, r_51_4, r_51_6, r_51_13, r_51_14, r_51_18, r_51_19, r_51_20, r_51_21, k_51, k_52, k_53, k_54, k_55, k_56, k_57, k_58, k_59, k_60, k_61, k_62, n_52, n_53, n_54, n_55, n_56, n_57, n_58, n_59, n_60, n_61, n_62]
      exact ⟨fun _ => ⟨rfl, h _ hr fr⟩, fun q => absurd (by omega) q⟩
    | succ m ih =>
      intro k t A' B' hi' e ht hA hB hr ok fr h
      refine wv (by decide) ?_
      simp (disch := omega) only [b_M_goesToTheEnd_0, b_M_goesToTheEnd_4, b_M_goesToTheEnd_11, b_M_goesToTheEnd_15, b_M_goesToTheEnd_20, b_M_goesToTheEnd_23, b_M_goesToTheEnd_29, b_M_goesToTheEnd_37, true_and, and_true, true_implies, false_implies, not_true_eq_false, not_false_eq_true, eq_self, or_true, true_or, false_or, or_false, false_and, and_false, Option.toList_some, Option.toList_none, List.cons_append, List.nil_append, n10, n01, e10, e01, e08, e18, e28, e38, e48, e58, e68, e78, lt_lit, nI_add, pk_mul, n_le, n_lt, n_eq, n_cl, n_in, n_sub, n_div, n_rem, n_ite, Nat.zero_add, r_51_0, r_51_1, r_51_2, r_51_4, r_51_6, r_51_13, r_51_14, r_51_18, r_51_19, r_51_20, r_51_21, k_51, k_52, k_53, k_54, k_55, k_56, k_57, k_58, k_59, k_60, k_61, k_62, n_52, n_53, n_54, n_55, n_56, n_57, n_58, n_59, n_60, n_61, n_62]
      refine ⟨fun q => absurd q (by omega), fun _ => ⟨fun q => absurd q (by omega), fun _ => ?_⟩⟩
      refine c_isSomebody hw hr ok (fun q => ?_) (fun q => ?_)
      · simp (disch := omega) only [b_M_goesToTheEnd_0, b_M_goesToTheEnd_4, b_M_goesToTheEnd_11, b_M_goesToTheEnd_15, b_M_goesToTheEnd_20, b_M_goesToTheEnd_23, b_M_goesToTheEnd_29, b_M_goesToTheEnd_37, true_and, and_true, true_implies, false_implies, not_true_eq_false, not_false_eq_true, eq_self, or_true, true_or, false_or, or_false, false_and, and_false, Option.toList_some, Option.toList_none, List.cons_append, List.nil_append, n10, n01, e10, e01, e08, e18, e28, e38, e48, e58, e68, e78, lt_lit, nI_add, pk_mul, n_le, n_lt, n_eq, n_cl, n_in, n_sub, n_div, n_rem, n_ite, Nat.zero_add, r_51_0, r_51_1, r_51_2, r_51_4, r_51_6, r_51_13, r_51_14, r_51_18, r_51_19, r_51_20, r_51_21, k_51, k_52, k_53, k_54, k_55, k_56, k_57, k_58, k_59, k_60, k_61, k_62, n_52, n_53, n_54, n_55, n_56, n_57, n_58, n_59, n_60, n_61, n_62]
        have hB2 : B' + 909 < 100000000 := Nat.lt_of_le_of_lt (Nat.add_le_add_left (by omega : 909 ≤ 909 * (m + 1)) B') hB
        refine c_minute hw hr ok hB2 (fun hi2 a b => ?_)
        obtain ⟨m1, m2, m3, m4, m5, m6⟩ := min_ok w ok (by omega)
        simp (disch := omega) only [b_M_goesToTheEnd_0, b_M_goesToTheEnd_4, b_M_goesToTheEnd_11, b_M_goesToTheEnd_15, b_M_goesToTheEnd_20, b_M_goesToTheEnd_23, b_M_goesToTheEnd_29, b_M_goesToTheEnd_37, true_and, and_true, true_implies, false_implies, not_true_eq_false, not_false_eq_true, eq_self, or_true, true_or, false_or, or_false, false_and, and_false, Option.toList_some, Option.toList_none, List.cons_append, List.nil_append, n10, n01, e10, e01, e08, e18, e28, e38, e48, e58, e68, e78, lt_lit, nI_add, pk_mul, n_le, n_lt, n_eq, n_cl, n_in, n_sub, n_div, n_rem, n_ite, Nat.zero_add, r_51_0, r_51_1, r_51_2, r_51_4, r_51_6, r_51_13, r_51_14, r_51_18, r_51_19, r_51_20, r_51_21, k_51, k_52, k_53, k_54, k_55, k_56, k_57, k_58, k_59, k_60, k_61, k_62, n_52, n_53, n_54, n_55, n_56, n_57, n_58, n_59, n_60, n_61, n_62]
        refine ih (k + 1) _ (minN w A') (B' + 909) hi2 (by omega) (by omega) (by omega) (by omega) a m1 (fr.trans b) (fun hi3 c d => ?_)
        rw [endN, if_pos q] at h
        exact h hi3 c d
      · simp (disch := omega) only [b_M_goesToTheEnd_0, b_M_goesToTheEnd_4, b_M_goesToTheEnd_11, b_M_goesToTheEnd_15, b_M_goesToTheEnd_20, b_M_goesToTheEnd_23, b_M_goesToTheEnd_29, b_M_goesToTheEnd_37, true_and, and_true, true_implies, false_implies, not_true_eq_false, not_false_eq_true, eq_self, or_true, true_or, false_or, or_false, false_and, and_false, Option.toList_some, Option.toList_none, List.cons_append, List.nil_append, n10, n01, e10, e01, e08, e18, e28, e38, e48, e58, e68, e78, lt_lit, nI_add, pk_mul, n_le, n_lt, n_eq, n_cl, n_in, n_sub, n_div, n_rem, n_ite, Nat.zero_add, r_51_0, r_51_1, r_51_2, r_51_4, r_51_6, r_51_13, r_51_14, r_51_18, r_51_19, r_51_20, r_51_21, k_51, k_52, k_53, k_54, k_55, k_56, k_57, k_58, k_59, k_60, k_61, k_62, n_52, n_53, n_54, n_55, n_56, n_57, n_58, n_59, n_60, n_61, n_62]
        rw [endN, if_neg q] at h
        exact ⟨rfl, h _ hr fr⟩
  refine i_M_goesToTheEnd ?_
  simp (disch := omega) only [b_M_goesToTheEnd_0, b_M_goesToTheEnd_4, b_M_goesToTheEnd_11, b_M_goesToTheEnd_15, b_M_goesToTheEnd_20, b_M_goesToTheEnd_23, b_M_goesToTheEnd_29, b_M_goesToTheEnd_37, true_and, and_true, true_implies, false_implies, not_true_eq_false, not_false_eq_true, eq_self, or_true, true_or, false_or, or_false, false_and, and_false, Option.toList_some, Option.toList_none, List.cons_append, List.nil_append, n10, n01, e10, e01, e08, e18, e28, e38, e48, e58, e68, e78, lt_lit, nI_add, pk_mul, n_le, n_lt, n_eq, n_cl, n_in, n_sub, n_div, n_rem, n_ite, Nat.zero_add, r_51_0, r_51_1, r_51_2, r_51_4, r_51_6, r_51_13, r_51_14, r_51_18, r_51_19, r_51_20, r_51_21, k_51, k_52, k_53, k_54, k_55, k_56, k_57, k_58, k_59, k_60, k_61, k_62, n_52, n_53, n_54, n_55, n_56, n_57, n_58, n_59, n_60, n_61, n_62]
  exact loop 200 0 0 A B hi (by omega) (by omega) (by omega) (by omega) hr ok (fM.refl hi) h
/-- the row a comes to the row b -/
def cpy (hi : HI) (a b : Nat) : HI := fun o j => if o = b ∧ j < 141 then hi a j else hi o j
theorem c_copyRow {hi : HI} {a b : Nat} (hab : a ≠ b) (ka : kd a = 8) (kb : kd b = 8) (la : ln a = 141) (lb : ln b = 141) (h : K none (cpy hi a b) hl) : Call u 121 [.ref a, .ref b] hi hl K := by
  have loop : ∀ m k, k + m = 141 → Wp u 121 2 [.ref a, .ref b, .int (nI k)] [] (fun o j => if o = b ∧ j < k then hi a j else hi o j) hl K := by
    intro m
    induction m with
    | zero =>
      intro k e
      refine wv (by decide) ?_
      simp (disch := omega) only [b_M_copyRow_0, b_M_copyRow_2, b_M_copyRow_9, b_M_copyRow_21, true_and, and_true, true_implies, false_implies, not_true_eq_false, not_false_eq_true, eq_self, or_true, true_or, false_or, or_false, false_and, and_false, Option.toList_some, Option.toList_none, List.cons_append, List.nil_append, n10, n01, e10, e01, e08, e18, e28, e38, e48, e58, e68, e78, lt_lit, nI_add, pk_mul, n_le, n_lt, n_eq, n_cl, n_in, n_sub, n_div, n_rem, n_ite, Nat.zero_add, r_51_0, r_51_1, r_51_2, r_51_4, r_51_6, r_51_13, r_51_14, r_51_18, r_51_19, r_51_20, r_51_21, k_51, k_52, k_53, k_54, k_55, k_56, k_57, k_58, k_59, k_60, k_61, k_62, n_52, n_53, n_54, n_55, n_56, n_57, n_58, n_59, n_60, n_61, n_62]
      have : k = 141 := by omega
      subst this
      exact ⟨fun _ => ⟨rfl, h⟩, fun q => absurd (by omega) q⟩
    | succ m ih =>
      intro k e
      refine wv (by decide) ?_
      simp (disch := omega) only [b_M_copyRow_0, b_M_copyRow_2, b_M_copyRow_9, b_M_copyRow_21, true_and, and_true, true_implies, false_implies, not_true_eq_false, not_false_eq_true, eq_self, or_true, true_or, false_or, or_false, false_and, and_false, Option.toList_some, Option.toList_none, List.cons_append, List.nil_append, n10, n01, e10, e01, e08, e18, e28, e38, e48, e58, e68, e78, lt_lit, nI_add, pk_mul, n_le, n_lt, n_eq, n_cl, n_in, n_sub, n_div, n_rem, n_ite, Nat.zero_add, r_51_0, r_51_1, r_51_2, r_51_4, r_51_6, r_51_13, r_51_14, r_51_18, r_51_19, r_51_20, r_51_21, k_51, k_52, k_53, k_54, k_55, k_56, k_57, k_58, k_59, k_60, k_61, k_62, n_52, n_53, n_54, n_55, n_56, n_57, n_58, n_59, n_60, n_61, n_62, ka, kb, la, lb]
      refine ⟨fun q => absurd q (by omega), fun _ => ?_⟩
      have e2 : up2 (fun o j => if o = b ∧ j < k then hi a j else hi o j) b k (if a = b ∧ k < k then hi a k else hi a k) = (fun o j => if o = b ∧ j < k + 1 then hi a j else hi o j) := by
        funext o j
        by_cases q : o = b
        · subst q
          by_cases q2 : j = k
          · subst q2; rw [u2_eq]; simp
          · rw [u2_nk q2]
            by_cases q3 : j < k
            · rw [if_pos ⟨rfl, q3⟩, if_pos ⟨rfl, by omega⟩]
            · rw [if_neg (fun z => q3 z.2), if_neg (fun z => q3 (by omega))]
        · rw [u2_nh q, if_neg (fun z => q z.1), if_neg (fun z => q z.1)]
      rw [e2]
      exact ih (k + 1) (by omega)
  refine i_M_copyRow ?_
  simp (disch := omega) only [b_M_copyRow_0, b_M_copyRow_2, b_M_copyRow_9, b_M_copyRow_21, true_and, and_true, true_implies, false_implies, not_true_eq_false, not_false_eq_true, eq_self, or_true, true_or, false_or, or_false, false_and, and_false, Option.toList_some, Option.toList_none, List.cons_append, List.nil_append, n10, n01, e10, e01, e08, e18, e28, e38, e48, e58, e68, e78, lt_lit, nI_add, pk_mul, n_le, n_lt, n_eq, n_cl, n_in, n_sub, n_div, n_rem, n_ite, Nat.zero_add, r_51_0, r_51_1, r_51_2, r_51_4, r_51_6, r_51_13, r_51_14, r_51_18, r_51_19, r_51_20, r_51_21, k_51, k_52, k_53, k_54, k_55, k_56, k_57, k_58, k_59, k_60, k_61, k_62, n_52, n_53, n_54, n_55, n_56, n_57, n_58, n_59, n_60, n_61, n_62]
  have := loop 141 0 (by omega)
  have e0 : (fun o j => if o = b ∧ j < 0 then hi a j else hi o j) = hi := by funext o j; simp
  rw [e0] at this
  exact this
theorem cpy_to {hi : HI} {a b j : Nat} (h : j < 141) : cpy hi a b b j = hi a j := by simp [cpy, h]
theorem cpy_ne {hi : HI} {a b o : Nat} (h : o ≠ b) : cpy hi a b o = hi o := by funext j; simp [cpy, h]
theorem c_putBack {hi : HI} {v : Int32} (h : K (some (.int v)) (cpy hi 54 52) hl) : Call u 122 [.ref 51, .int v] hi hl K := by
  refine i_M_putBack ?_
  simp only [b_M_putBack_0, b_M_putBack_11, true_and, and_true, true_implies, false_implies, not_true_eq_false, not_false_eq_true, eq_self, or_true, true_or, false_or, or_false, false_and, and_false, Option.toList_some, Option.toList_none, List.cons_append, List.nil_append, n10, n01, e10, e01, e08, e18, e28, e38, e48, e58, e68, e78, r_51_0, r_51_1, r_51_2, r_51_4, r_51_6, r_51_13, r_51_14, r_51_18, r_51_19, r_51_20, r_51_21, k_51, k_52, k_53, k_54, k_55, k_56, k_57, k_58, k_59, k_60, k_61, k_62, n_52, n_53, n_54, n_55, n_56, n_57, n_58, n_59, n_60, n_61, n_62]
  refine c_copyRow (by omega) (by simp only [r_51_0, r_51_1, r_51_2, r_51_4, r_51_6, r_51_13, r_51_14, r_51_18, r_51_19, r_51_20, r_51_21, k_51, k_52, k_53, k_54, k_55, k_56, k_57, k_58, k_59, k_60, k_61, k_62, n_52, n_53, n_54, n_55, n_56, n_57, n_58, n_59, n_60, n_61, n_62]) (by simp only [r_51_0, r_51_1, r_51_2, r_51_4, r_51_6, r_51_13, r_51_14, r_51_18, r_51_19, r_51_20, r_51_21, k_51, k_52, k_53, k_54, k_55, k_56, k_57, k_58, k_59, k_60, k_61, k_62, n_52, n_53, n_54, n_55, n_56, n_57, n_58, n_59, n_60, n_61, n_62]) (by simp only [r_51_0, r_51_1, r_51_2, r_51_4, r_51_6, r_51_13, r_51_14, r_51_18, r_51_19, r_51_20, r_51_21, k_51, k_52, k_53, k_54, k_55, k_56, k_57, k_58, k_59, k_60, k_61, k_62, n_52, n_53, n_54, n_55, n_56, n_57, n_58, n_59, n_60, n_61, n_62]) (by simp only [r_51_0, r_51_1, r_51_2, r_51_4, r_51_6, r_51_13, r_51_14, r_51_18, r_51_19, r_51_20, r_51_21, k_51, k_52, k_53, k_54, k_55, k_56, k_57, k_58, k_59, k_60, k_61, k_62, n_52, n_53, n_54, n_55, n_56, n_57, n_58, n_59, n_60, n_61, n_62]) ?_
  simp only [b_M_putBack_0, b_M_putBack_11, true_and, and_true, true_implies, false_implies, not_true_eq_false, not_false_eq_true, eq_self, or_true, true_or, false_or, or_false, false_and, and_false, Option.toList_some, Option.toList_none, List.cons_append, List.nil_append, n10, n01, e10, e01, e08, e18, e28, e38, e48, e58, e68, e78, r_51_0, r_51_1, r_51_2, r_51_4, r_51_6, r_51_13, r_51_14, r_51_18, r_51_19, r_51_20, r_51_21, k_51, k_52, k_53, k_54, k_55, k_56, k_57, k_58, k_59, k_60, k_61, k_62, n_52, n_53, n_54, n_55, n_56, n_57, n_58, n_59, n_60, n_61, n_62]
  exact h
end M8
