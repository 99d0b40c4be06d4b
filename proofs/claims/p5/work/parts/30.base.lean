theorem n10 : ((1 : Nat) = 0) = False := by decide
theorem n01 : ((0 : Nat) = 1) = False := by decide
theorem e10 : ((1 : Int32) = 0) = False := by decide
theorem e01 : ((0 : Int32) = 1) = False := by decide
theorem e08 : (0 < 8) = True := by decide
theorem e18 : (1 < 8) = True := by decide
theorem e28 : (2 < 8) = True := by decide
theorem e38 : (3 < 8) = True := by decide
theorem e48 : (4 < 8) = True := by decide
theorem e58 : (5 < 8) = True := by decide
theorem e68 : (6 < 8) = True := by decide
theorem e78 : (7 < 8) = True := by decide
theorem q_lt (a b : Int32) : a < b ↔ a.toInt < b.toInt := Int32.lt_iff_toInt_lt
theorem q_le (a b : Int32) : a ≤ b ↔ a.toInt ≤ b.toInt := Int32.le_iff_toInt_le
theorem q_n {n : Nat} (h : n < 2147483648) : (nI n).toInt = (n : Int) := nI_toInt (by omega)
theorem q_c {n : Nat} (h : n < 2147483648) : (nI n).toNatClampNeg = n := nI_clamp (by omega)
theorem q_in {n N : Nat} (h : n < N) (hN : N < 2147483648) : vp_in (nI n) N := vp_in_nI h (by omega)
theorem q_of {x : Int32} {n : Nat} (h : vp_in x n) (hn : n < 2147483648) : ∃ j : Nat, j < n ∧ x = nI j := vp_in_of h (by omega)
theorem q_iff {x : Int32} {n : Nat} (hn : n < 2147483648) : vp_in x (n + 1) ↔ 0 ≤ x ∧ x ≤ nI n := by
  rw [vp_in_iff, q_le, q_le, q_n hn]
  have : (0 : Int32).toInt = 0 := by decide
  rw [this]
  omega
theorem lt_lit (n : Nat) : (OfNat.ofNat n : Int32) = nI n := rfl
theorem n_le {a b : Nat} (ha : a < 2147483648) (hb : b < 2147483648) : (nI a ≤ nI b) = (a ≤ b) := propext (nI_leI (by omega) (by omega))
theorem n_lt {a b : Nat} (ha : a < 2147483648) (hb : b < 2147483648) : (nI a < nI b) = (a < b) := propext (nI_ltI (by omega) (by omega))
theorem n_eq {a b : Nat} (ha : a < 2147483648) (hb : b < 2147483648) : (nI a = nI b) = (a = b) := propext (nI_eq (by omega) (by omega))
theorem n_cl {a : Nat} (ha : a < 2147483648) : (nI a).toNatClampNeg = a := nI_clamp (by omega)
theorem n_in {a N : Nat} (h : a < N) (hN : N < 2147483648) : vp_in (nI a) N = True := eq_true (vp_in_nI h (by omega))
theorem n_sub {a b : Nat} (h : b ≤ a) : nI a - nI b = nI (a - b) := pk_sub h
theorem n_div {a d : Nat} (ha : a < 2147483648) (h0 : 0 < d) (hd : d < 2147483648) : nI a / nI d = nI (a / d) := pk_div (by omega) h0 (by omega)
theorem n_rem {a d : Nat} (ha : a < 2147483648) (h0 : 0 < d) (hd : d < 2147483648) : nI a - nI a / nI d * nI d = nI (a % d) := pk_rem (by omega) h0 (by omega)
/-- how much one of a kind takes where n ears are; what it would draw; how far it goes -/
def shareN (k n : Nat) : Nat := if k = 1 then min 1 n else if k = 2 then n / 3 else if k = 3 then n else if k = 4 then n / 3 else if k = 5 then min 9 n else min (n / 2 + 1) n
def pullN (k m : Nat) : Nat := if k = 4 ∧ m % 2 = 0 then 2 else 0
def paceN (k m : Nat) : Nat := if k = 2 ∨ k = 4 then 2 else if k = 3 ∨ k = 5 then 1 - m % 2 else 1
theorem q_0 : (nI 0).toInt = 0 := by decide
theorem q_iff2 {x : Int32} {n : Nat} (hn : n < 1000000) : vp_in x n ↔ nI 0 ≤ x ∧ x ≤ nI n - nI 1 := by
  rw [vp_in_iff, q_le, q_le, pk_sub_toInt (by omega) (by omega), q_0]
  omega
section B
variable {u : UV} {hi : HI} {hl : HL} {K : Option Value → HI → HL → Prop}
theorem c_isWithin {x a b : Int32} (h1 : (a ≤ x ∧ x ≤ b) → K (some (.int 1)) hi hl) (h0 : ¬ (a ≤ x ∧ x ≤ b) → K (some (.int 0)) hi hl) : Call u 117 [.int x, .int a, .int b] hi hl K := by
  refine i_E_isWithin ?_
  simp only [b_E_isWithin_0, b_E_isWithin_5, b_E_isWithin_10, b_E_isWithin_14, b_E_isWithin_15, true_and, and_true, true_implies, false_implies, not_true_eq_false, not_false_eq_true, eq_self, or_true, true_or, false_or, or_false, false_and, and_false, Option.toList_some, Option.toList_none, List.cons_append, List.nil_append, n10, n01, e10, e01, e08, e18, e28, e38, e48, e58, e68, e78]
  refine ⟨fun h => h0 (fun q => ?_), fun h => ⟨fun h2 => h0 (fun q => ?_), fun h2 => h1 ?_⟩⟩
  · rw [q_lt] at h; rw [q_le, q_le] at q; omega
  · rw [q_lt] at h2; rw [q_le, q_le] at q; omega
  · rw [q_lt] at h h2; rw [q_le, q_le]; omega
theorem c_isRow {x : Int32} (h1 : vp_in x 8 → K (some (.int 1)) hi hl) (h0 : ¬ vp_in x 8 → K (some (.int 0)) hi hl) : Call u 111 [.int x] hi hl K := by
  refine i_E_isRow ?_
  simp only [b_E_isRow_0, b_E_isRow_7]
  refine c_isWithin (fun h => ?_) (fun h => ?_)
  · simp only [b_E_isRow_0, b_E_isRow_7, true_and, and_true, true_implies, false_implies, not_true_eq_false, not_false_eq_true, eq_self, or_true, true_or, false_or, or_false, false_and, and_false, Option.toList_some, Option.toList_none, List.cons_append, List.nil_append, n10, n01, e10, e01, e08, e18, e28, e38, e48, e58, e68, e78]; exact h1 ((q_iff (n := 7) (by omega)).mpr h)
  · simp only [b_E_isRow_0, b_E_isRow_7, true_and, and_true, true_implies, false_implies, not_true_eq_false, not_false_eq_true, eq_self, or_true, true_or, false_or, or_false, false_and, and_false, Option.toList_some, Option.toList_none, List.cons_append, List.nil_append, n10, n01, e10, e01, e08, e18, e28, e38, e48, e58, e68, e78]; exact h0 (fun q => h ((q_iff (n := 7) (by omega)).mp q))
theorem c_isPlace {x : Int32} (h1 : vp_in x 8 → K (some (.int 1)) hi hl) (h0 : ¬ vp_in x 8 → K (some (.int 0)) hi hl) : Call u 112 [.int x] hi hl K := by
  refine i_E_isPlace ?_
  simp only [b_E_isPlace_0, b_E_isPlace_7]
  refine c_isWithin (fun h => ?_) (fun h => ?_)
  · simp only [b_E_isPlace_0, b_E_isPlace_7, true_and, and_true, true_implies, false_implies, not_true_eq_false, not_false_eq_true, eq_self, or_true, true_or, false_or, or_false, false_and, and_false, Option.toList_some, Option.toList_none, List.cons_append, List.nil_append, n10, n01, e10, e01, e08, e18, e28, e38, e48, e58, e68, e78]; exact h1 ((q_iff (n := 7) (by omega)).mpr h)
  · simp only [b_E_isPlace_0, b_E_isPlace_7, true_and, and_true, true_implies, false_implies, not_true_eq_false, not_false_eq_true, eq_self, or_true, true_or, false_or, or_false, false_and, and_false, Option.toList_some, Option.toList_none, List.cons_append, List.nil_append, n10, n01, e10, e01, e08, e18, e28, e38, e48, e58, e68, e78]; exact h0 (fun q => h ((q_iff (n := 7) (by omega)).mp q))
theorem n_ite (c : Prop) [Decidable c] (a b : Nat) : (if c then nI a else nI b) = nI (if c then a else b) := by split <;> rfl
theorem c_share {k n : Nat} (hk : k < 6) (hn : n < 1000000) (h : K (some (.int (nI (shareN k n)))) hi hl) : Call u 214 [.int (nI k), .int (nI n)] hi hl K := by
  refine i_D_share ?_
  simp (disch := omega) only [b_D_share_0, b_D_share_36, b_D_share_42, b_D_share_46, b_D_share_48, b_D_share_55, true_and, and_true, true_implies, false_implies, not_true_eq_false, not_false_eq_true, eq_self, or_true, true_or, false_or, or_false, false_and, and_false, Option.toList_some, Option.toList_none, List.cons_append, List.nil_append, n10, n01, e10, e01, e08, e18, e28, e38, e48, e58, e68, e78, lt_lit, nI_add, pk_mul, n_le, n_lt, n_eq, n_cl, n_in, n_sub, n_div, n_rem, n_ite, Nat.zero_add]
  have h2 : ∀ v, v = shareN k n → K (some (.int (nI v))) hi hl := fun v e => by rw [e]; exact h
  refine ⟨fun q => ⟨by omega, h2 _ ?_⟩, fun q => h2 _ ?_, fun q => ⟨by omega, h2 _ ?_⟩, fun q => h2 _ ?_, fun q => ⟨by omega, h2 _ ?_⟩, fun q => h2 _ ?_⟩
  · obtain ⟨q1, q2, q3, q4, q5⟩ := q
    simp only [shareN, q1, q2, q3, q4, q5, if_false]
    split <;> omega
  · subst q; simp only [shareN]; simp; split <;> omega
  · subst q; simp [shareN]
  · subst q; simp [shareN]
  · subst q; simp [shareN]
  · subst q; simp [shareN]; split <;> omega
theorem c_pull {k m : Nat} (hk : k < 6) (hm : m < 1000000) (h : K (some (.int (nI (pullN k m)))) hi hl) : Call u 215 [.int (nI k), .int (nI m)] hi hl K := by
  refine i_D_pull ?_
  simp (disch := omega) only [b_D_pull_0, b_D_pull_5, b_D_pull_11, b_D_pull_15, b_D_pull_16, true_and, and_true, true_implies, false_implies, not_true_eq_false, not_false_eq_true, eq_self, or_true, true_or, false_or, or_false, false_and, and_false, Option.toList_some, Option.toList_none, List.cons_append, List.nil_append, n10, n01, e10, e01, e08, e18, e28, e38, e48, e58, e68, e78, lt_lit, nI_add, pk_mul, n_le, n_lt, n_eq, n_cl, n_in, n_sub, n_div, n_rem, n_ite, Nat.zero_add]
  have h2 : ∀ v, v = pullN k m → K (some (.int (nI v))) hi hl := fun v e => by rw [e]; exact h
  exact ⟨fun q => h2 _ (by unfold pullN; rw [if_neg (by omega)]), fun q => ⟨by omega, fun q2 => h2 _ (by unfold pullN; rw [if_neg (by omega)]), fun q2 => h2 _ (by unfold pullN; rw [if_pos (by omega)])⟩⟩
theorem c_pace {k m : Nat} (hk : k < 6) (hm : m < 1000000) (h : K (some (.int (nI (paceN k m)))) hi hl) : Call u 216 [.int (nI k), .int (nI m)] hi hl K := by
  refine i_D_pace ?_
  simp (disch := omega) only [b_D_pace_0, b_D_pace_32, b_D_pace_34, b_D_pace_40, b_D_pace_44, b_D_pace_45, b_D_pace_46, true_and, and_true, true_implies, false_implies, not_true_eq_false, not_false_eq_true, eq_self, or_true, true_or, false_or, or_false, false_and, and_false, Option.toList_some, Option.toList_none, List.cons_append, List.nil_append, n10, n01, e10, e01, e08, e18, e28, e38, e48, e58, e68, e78, lt_lit, nI_add, pk_mul, n_le, n_lt, n_eq, n_cl, n_in, n_sub, n_div, n_rem, n_ite, Nat.zero_add]
  have h2 : ∀ v, v = paceN k m → K (some (.int (nI v))) hi hl := fun v e => by rw [e]; exact h
  refine ⟨fun q => h2 _ ?_, fun q => h2 _ ?_, fun q => ⟨by omega, fun q2 => h2 _ ?_, fun q2 => h2 _ ?_⟩, fun q => h2 _ ?_, fun q => ⟨by omega, fun q2 => h2 _ ?_, fun q2 => h2 _ ?_⟩⟩ <;> unfold paceN
  · rw [if_neg (by omega), if_neg (by omega)]
  · rw [if_pos (by omega)]
  · rw [if_neg (by omega), if_pos (by omega)]; omega
  · rw [if_neg (by omega), if_pos (by omega)]; omega
  · rw [if_pos (by omega)]
  · rw [if_neg (by omega), if_pos (by omega)]; omega
  · rw [if_neg (by omega), if_pos (by omega)]; omega
theorem c_takesOf {k n : Nat} (hk : k < 6) (hn : n < 1000000) (h : K (some (.int (nI (shareN k n)))) hi hl) : Call u 138 [.int (nI k), .int (nI n)] hi hl K := by
  refine i_M_takesOf ?_
  simp (disch := omega) only [b_M_takesOf_0, b_M_takesOf_36, b_M_takesOf_42, b_M_takesOf_46, b_M_takesOf_48, b_M_takesOf_55, true_and, and_true, true_implies, false_implies, not_true_eq_false, not_false_eq_true, eq_self, or_true, true_or, false_or, or_false, false_and, and_false, Option.toList_some, Option.toList_none, List.cons_append, List.nil_append, n10, n01, e10, e01, e08, e18, e28, e38, e48, e58, e68, e78, lt_lit, nI_add, pk_mul, n_le, n_lt, n_eq, n_cl, n_in, n_sub, n_div, n_rem, n_ite, Nat.zero_add]
  have h2 : ∀ v, v = shareN k n → K (some (.int (nI v))) hi hl := fun v e => by rw [e]; exact h
  refine ⟨fun q => ⟨by omega, h2 _ ?_⟩, fun q => h2 _ ?_, fun q => ⟨by omega, h2 _ ?_⟩, fun q => h2 _ ?_, fun q => ⟨by omega, h2 _ ?_⟩, fun q => h2 _ ?_⟩
  · obtain ⟨q1, q2, q3, q4, q5⟩ := q
    simp only [shareN, q1, q2, q3, q4, q5, if_false]
    split <;> omega
  · subst q; simp only [shareN]; simp; split <;> omega
  · subst q; simp [shareN]
  · subst q; simp [shareN]
  · subst q; simp [shareN]
  · subst q; simp [shareN]; split <;> omega
theorem c_within {x a b : Int32} (h1 : (a ≤ x ∧ x ≤ b) → K (some (.int 1)) hi hl) (h0 : ¬ (a ≤ x ∧ x ≤ b) → K (some (.int 0)) hi hl) : Call u 119 [.int x, .int a, .int b] hi hl K := by
  refine i_M_within ?_
  simp only [b_M_within_0, b_M_within_5, b_M_within_10, b_M_within_14, b_M_within_15, true_and, and_true, true_implies, false_implies, not_true_eq_false, not_false_eq_true, eq_self, or_true, true_or, false_or, or_false, false_and, and_false, Option.toList_some, Option.toList_none, List.cons_append, List.nil_append, n10, n01, e10, e01, e08, e18, e28, e38, e48, e58, e68, e78]
  refine ⟨fun h => h0 (fun q => ?_), fun h => ⟨fun h2 => h0 (fun q => ?_), fun h2 => h1 ?_⟩⟩
  · rw [q_lt] at h; rw [q_le, q_le] at q; omega
  · rw [q_lt] at h2; rw [q_le, q_le] at q; omega
  · rw [q_lt] at h h2; rw [q_le, q_le]; omega
theorem c_isHouse {x : Int32} (h1 : vp_in x 5 → K (some (.int 1)) hi hl) (h0 : ¬ vp_in x 5 → K (some (.int 0)) hi hl) : Call u 113 [.int x] hi hl K := by
  refine i_E_isHouse ?_
  simp only [b_E_isHouse_0, b_E_isHouse_6]
  refine c_isWithin (fun h => ?_) (fun h => ?_)
  · simp only [b_E_isHouse_0, b_E_isHouse_6, true_and, and_true, true_implies, false_implies, not_true_eq_false, not_false_eq_true, eq_self, or_true, true_or, false_or, or_false, false_and, and_false, Option.toList_some, Option.toList_none, List.cons_append, List.nil_append, n10, n01, e10, e01, e08, e18, e28, e38, e48, e58, e68, e78]; exact h1 ((q_iff (n := 4) (by omega)).mpr h)
  · simp only [b_E_isHouse_0, b_E_isHouse_6, true_and, and_true, true_implies, false_implies, not_true_eq_false, not_false_eq_true, eq_self, or_true, true_or, false_or, or_false, false_and, and_false, Option.toList_some, Option.toList_none, List.cons_append, List.nil_append, n10, n01, e10, e01, e08, e18, e28, e38, e48, e58, e68, e78]; exact h0 (fun q => h ((q_iff (n := 4) (by omega)).mp q))
theorem c_isKind {x : Int32} (h1 : vp_in x 6 → K (some (.int 1)) hi hl) (h0 : ¬ vp_in x 6 → K (some (.int 0)) hi hl) : Call u 114 [.int x] hi hl K := by
  refine i_E_isKind ?_
  simp only [b_E_isKind_0, b_E_isKind_6]
  refine c_isWithin (fun h => ?_) (fun h => ?_)
  · simp only [b_E_isKind_0, b_E_isKind_6, true_and, and_true, true_implies, false_implies, not_true_eq_false, not_false_eq_true, eq_self, or_true, true_or, false_or, or_false, false_and, and_false, Option.toList_some, Option.toList_none, List.cons_append, List.nil_append, n10, n01, e10, e01, e08, e18, e28, e38, e48, e58, e68, e78]; exact h1 ((q_iff (n := 5) (by omega)).mpr h)
  · simp only [b_E_isKind_0, b_E_isKind_6, true_and, and_true, true_implies, false_implies, not_true_eq_false, not_false_eq_true, eq_self, or_true, true_or, false_or, or_false, false_and, and_false, Option.toList_some, Option.toList_none, List.cons_append, List.nil_append, n10, n01, e10, e01, e08, e18, e28, e38, e48, e58, e68, e78]; exact h0 (fun q => h ((q_iff (n := 5) (by omega)).mp q))
theorem c_isSheet {x : Int32} (h1 : vp_in x 4 → K (some (.int 1)) hi hl) (h0 : ¬ vp_in x 4 → K (some (.int 0)) hi hl) : Call u 115 [.int x] hi hl K := by
  refine i_E_isSheet ?_
  simp only [b_E_isSheet_0, b_E_isSheet_6]
  refine c_isWithin (fun h => ?_) (fun h => ?_)
  · simp only [b_E_isSheet_0, b_E_isSheet_6, true_and, and_true, true_implies, false_implies, not_true_eq_false, not_false_eq_true, eq_self, or_true, true_or, false_or, or_false, false_and, and_false, Option.toList_some, Option.toList_none, List.cons_append, List.nil_append, n10, n01, e10, e01, e08, e18, e28, e38, e48, e58, e68, e78]; exact h1 ((q_iff (n := 3) (by omega)).mpr h)
  · simp only [b_E_isSheet_0, b_E_isSheet_6, true_and, and_true, true_implies, false_implies, not_true_eq_false, not_false_eq_true, eq_self, or_true, true_or, false_or, or_false, false_and, and_false, Option.toList_some, Option.toList_none, List.cons_append, List.nil_append, n10, n01, e10, e01, e08, e18, e28, e38, e48, e58, e68, e78]; exact h0 (fun q => h ((q_iff (n := 3) (by omega)).mp q))
theorem c_misSide {x : Int32} (h1 : vp_in x 8 → K (some (.int 1)) hi hl) (h0 : ¬ vp_in x 8 → K (some (.int 0)) hi hl) : Call u 123 [.int x] hi hl K := by
  refine i_M_isSide ?_
  simp only [b_M_isSide_0, b_M_isSide_7]
  refine c_within (fun h => ?_) (fun h => ?_)
  · simp only [b_M_isSide_0, b_M_isSide_7, true_and, and_true, true_implies, false_implies, not_true_eq_false, not_false_eq_true, eq_self, or_true, true_or, false_or, or_false, false_and, and_false, Option.toList_some, Option.toList_none, List.cons_append, List.nil_append, n10, n01, e10, e01, e08, e18, e28, e38, e48, e58, e68, e78]; exact h1 ((q_iff (n := 7) (by omega)).mpr h)
  · simp only [b_M_isSide_0, b_M_isSide_7, true_and, and_true, true_implies, false_implies, not_true_eq_false, not_false_eq_true, eq_self, or_true, true_or, false_or, or_false, false_and, and_false, Option.toList_some, Option.toList_none, List.cons_append, List.nil_append, n10, n01, e10, e01, e08, e18, e28, e38, e48, e58, e68, e78]; exact h0 (fun q => h ((q_iff (n := 7) (by omega)).mp q))
theorem c_misHouse {x : Int32} (h1 : vp_in x 5 → K (some (.int 1)) hi hl) (h0 : ¬ vp_in x 5 → K (some (.int 0)) hi hl) : Call u 135 [.int x] hi hl K := by
  refine i_M_isHouse ?_
  simp only [b_M_isHouse_0, b_M_isHouse_6]
  refine c_within (fun h => ?_) (fun h => ?_)
  · simp only [b_M_isHouse_0, b_M_isHouse_6, true_and, and_true, true_implies, false_implies, not_true_eq_false, not_false_eq_true, eq_self, or_true, true_or, false_or, or_false, false_and, and_false, Option.toList_some, Option.toList_none, List.cons_append, List.nil_append, n10, n01, e10, e01, e08, e18, e28, e38, e48, e58, e68, e78]; exact h1 ((q_iff (n := 4) (by omega)).mpr h)
  · simp only [b_M_isHouse_0, b_M_isHouse_6, true_and, and_true, true_implies, false_implies, not_true_eq_false, not_false_eq_true, eq_self, or_true, true_or, false_or, or_false, false_and, and_false, Option.toList_some, Option.toList_none, List.cons_append, List.nil_append, n10, n01, e10, e01, e08, e18, e28, e38, e48, e58, e68, e78]; exact h0 (fun q => h ((q_iff (n := 4) (by omega)).mp q))
theorem c_misKind {x : Int32} (h1 : vp_in x 6 → K (some (.int 1)) hi hl) (h0 : ¬ vp_in x 6 → K (some (.int 0)) hi hl) : Call u 134 [.int x] hi hl K := by
  refine i_M_isKind ?_
  simp only [b_M_isKind_0, b_M_isKind_6]
  refine c_within (fun h => ?_) (fun h => ?_)
  · simp only [b_M_isKind_0, b_M_isKind_6, true_and, and_true, true_implies, false_implies, not_true_eq_false, not_false_eq_true, eq_self, or_true, true_or, false_or, or_false, false_and, and_false, Option.toList_some, Option.toList_none, List.cons_append, List.nil_append, n10, n01, e10, e01, e08, e18, e28, e38, e48, e58, e68, e78]; exact h1 ((q_iff (n := 5) (by omega)).mpr h)
  · simp only [b_M_isKind_0, b_M_isKind_6, true_and, and_true, true_implies, false_implies, not_true_eq_false, not_false_eq_true, eq_self, or_true, true_or, false_or, or_false, false_and, and_false, Option.toList_some, Option.toList_none, List.cons_append, List.nil_append, n10, n01, e10, e01, e08, e18, e28, e38, e48, e58, e68, e78]; exact h0 (fun q => h ((q_iff (n := 5) (by omega)).mp q))
theorem c_misSheet {x : Int32} (h1 : vp_in x 4 → K (some (.int 1)) hi hl) (h0 : ¬ vp_in x 4 → K (some (.int 0)) hi hl) : Call u 200 [.int x] hi hl K := by
  refine i_M_isSheet ?_
  simp only [b_M_isSheet_0, b_M_isSheet_6]
  refine c_within (fun h => ?_) (fun h => ?_)
  · simp only [b_M_isSheet_0, b_M_isSheet_6, true_and, and_true, true_implies, false_implies, not_true_eq_false, not_false_eq_true, eq_self, or_true, true_or, false_or, or_false, false_and, and_false, Option.toList_some, Option.toList_none, List.cons_append, List.nil_append, n10, n01, e10, e01, e08, e18, e28, e38, e48, e58, e68, e78]; exact h1 ((q_iff (n := 3) (by omega)).mpr h)
  · simp only [b_M_isSheet_0, b_M_isSheet_6, true_and, and_true, true_implies, false_implies, not_true_eq_false, not_false_eq_true, eq_self, or_true, true_or, false_or, or_false, false_and, and_false, Option.toList_some, Option.toList_none, List.cons_append, List.nil_append, n10, n01, e10, e01, e08, e18, e28, e38, e48, e58, e68, e78]; exact h0 (fun q => h ((q_iff (n := 3) (by omega)).mp q))
end B
