/-! the tape cut into tokens: one pure account for class and reference -/
def sAt (N : Nat → Nat) (L i : Nat) : Nat := if i < L then (if 97 ≤ N i ∧ N i ≤ 122 then 1 else if 48 ≤ N i ∧ N i ≤ 57 then 2 else if N i = 59 then 3 else if N i = 32 then 4 else 5) else 0
def capT (x : Nat) : Nat := if 10000 < x then 10000 else x
def skp (N : Nat → Nat) (L : Nat) : Nat → Nat → Nat
  | 0, i => i
  | n + 1, i => if sAt N L i = 4 then skp N L n (i + 1) else i
def rnT (N : Nat → Nat) (L s : Nat) : Nat → Nat → Nat → Nat × Nat
  | 0, i, v => (i, v)
  | n + 1, i, v => if sAt N L i = s then rnT N L s n (i + 1) (if s = 2 then capT (10 * v + N i - 48) else v) else (i, v)
/-- where it begins, its sort, where it ends, its number -/
def tkB (N : Nat → Nat) (L p : Nat) : Nat := skp N L (L - p) p
def tkS (N : Nat → Nat) (L p : Nat) : Nat := sAt N L (tkB N L p)
def tkR (N : Nat → Nat) (L p : Nat) : Nat × Nat := if tkS N L p = 1 ∨ tkS N L p = 2 then rnT N L (tkS N L p) (L - tkB N L p) (tkB N L p) 0 else if tkS N L p = 0 then (tkB N L p, 0) else (tkB N L p + 1, 0)
theorem skp_ok (N : Nat → Nat) (L : Nat) : ∀ n i, i + n = L → i ≤ skp N L n i ∧ skp N L n i ≤ L ∧ sAt N L (skp N L n i) ≠ 4 := by
  intro n
  induction n with
  | zero =>
    intro i e
    rw [skp]
    refine ⟨by omega, by omega, ?_⟩
    unfold sAt
    rw [if_neg (by omega)]
    omega
  | succ n ih =>
    intro i e
    rw [skp]
    split
    · obtain ⟨a, b, c⟩ := ih (i + 1) (by omega)
      exact ⟨by omega, b, c⟩
    · exact ⟨by omega, by omega, by assumption⟩
theorem capT_le (x : Nat) : capT x ≤ 10000 := by unfold capT; split <;> omega
theorem rnT_ok (N : Nat → Nat) (L s : Nat) : ∀ n i v, i + n = L → v ≤ 10000 → i ≤ (rnT N L s n i v).1 ∧ (rnT N L s n i v).1 ≤ L ∧ (rnT N L s n i v).2 ≤ 10000 := by
  intro n
  induction n with
  | zero =>
    intro i v e hv
    rw [rnT]
    exact ⟨by simp, by dsimp only; omega, hv⟩
  | succ n ih =>
    intro i v e hv
    rw [rnT]
    split
    · obtain ⟨a, b, c⟩ := ih (i + 1) (if s = 2 then capT (10 * v + N i - 48) else v) (by omega) (by
        split
        · exact capT_le _
        · exact hv)
      exact ⟨by omega, b, c⟩
    · exact ⟨by simp, by dsimp only; omega, hv⟩
theorem sAt_end {N : Nat → Nat} {L i : Nat} (h : sAt N L i ≠ 0) : i < L := by
  unfold sAt at h
  split at h
  · assumption
  · exact absurd rfl h
theorem tk_ok {N : Nat → Nat} {L p : Nat} (hp : p ≤ L) : p ≤ tkB N L p ∧ tkB N L p ≤ L ∧ tkS N L p ≠ 4 ∧ tkB N L p ≤ (tkR N L p).1 ∧ (tkR N L p).1 ≤ L ∧ (tkR N L p).2 ≤ 10000 := by
  obtain ⟨a, b, c⟩ := skp_ok N L (L - p) p (by omega)
  refine ⟨a, b, c, ?_⟩
  unfold tkR
  split
  · exact rnT_ok N L _ _ _ 0 (by unfold tkB; omega) (by omega)
  · split
    · exact ⟨Nat.le_refl _, b, by simp⟩
    · rename_i q
      have := sAt_end (N := N) (L := L) (i := tkB N L p) q
      exact ⟨by simp, by dsimp only; omega, by simp⟩
theorem b_97 : ∀ n, n < 256 → ((byI n < nI 97) ↔ (n < 97 ∨ 128 ≤ n)) := by decide +kernel
theorem b_122 : ∀ n, n < 256 → ((nI 122 < byI n) ↔ (122 < n ∧ n < 128)) := by decide +kernel
theorem b_48 : ∀ n, n < 256 → ((byI n < nI 48) ↔ (n < 48 ∨ 128 ≤ n)) := by decide +kernel
theorem b_57 : ∀ n, n < 256 → ((nI 57 < byI n) ↔ (57 < n ∧ n < 128)) := by decide +kernel
theorem b_59 : ∀ n, n < 256 → ((byI n = nI 59) ↔ n = 59) := by decide +kernel
theorem b_32 : ∀ n, n < 256 → ((byI n = nI 32) ↔ n = 32) := by decide +kernel
theorem b_lo {n : Nat} (h : n < 128) : byI n = nI n := by unfold byI; rw [if_pos h]
/-- the tape as the class has it -/
def Tp (hi : HI) (N : Nat → Nat) (L : Nat) : Prop := L ≤ 120 ∧ (∀ k, k < L → N k < 256) ∧ hi 37 1 = nI L ∧ ∀ k, k < L → hi 38 k = byI (N k)
theorem Tp.keep {hi hi' : HI} {N : Nat → Nat} {L : Nat} (h : Tp hi N L) (f : ∀ o, o ≠ 40 → hi' o = hi o) : Tp hi' N L := ⟨h.1, h.2.1, by rw [f 37 (by omega)]; exact h.2.2.1, fun k hk => by rw [f 38 (by omega)]; exact h.2.2.2 k hk⟩
/-- the token that the class looks at -/
def TkC (hi : HI) (b s e v : Nat) : Prop := hi 40 2 = nI b ∧ hi 40 3 = nI s ∧ hi 40 1 = nI e ∧ hi 40 4 = nI v
section P28
variable {u : UV} {hi : HI} {hl : HL} {K : Option Value → HI → HL → Prop} {N : Nat → Nat} {L : Nat}
theorem c_sortAt {i : Nat} (hT : Tp hi N L) (hb : i < 1000) (h : K (some (.int (nI (sAt N L i)))) hi hl) : Call u 52 [.ref 40, .int (nI i)] hi hl K := by
  obtain ⟨t1, t2, t3, t4⟩ := hT
  have fin : ∀ c, sAt N L i = c → K (some (.int (nI c))) hi hl := fun c e => e ▸ h
  refine i_K_sortAt ?_
  by_cases q : i < L
  · have e2 := t4 i q
    have e3 := t2 i q
    simp (disch := omega) only [b_K_sortAt_0, b_K_sortAt_4, b_K_sortAt_15, b_K_sortAt_17, b_K_sortAt_33, b_K_sortAt_39, b_K_sortAt_41, b_K_sortAt_47, b_K_sortAt_53, b_K_sortAt_55, b_K_sortAt_61, b_K_sortAt_63, b_K_sortAt_69, b_K_sortAt_73, b_K_sortAt_74, true_and, and_true, true_implies, false_implies, not_true_eq_false, not_false_eq_true, eq_self, or_true, true_or, false_or, or_false, false_and, and_false, Option.toList_some, Option.toList_none, List.cons_append, List.nil_append, n10, n01, e10, e01, e08, e18, e28, e38, e48, e58, e68, e78, exI, exL, ↓fd0, ↓fd1, ↓fd2, ↓fd3, ↓fd4, ↓fd5, ↓fd6, ↓m1e, lt_lit, nI_add, pk_mul, n_le, n_lt, n_eq, n_cl, n_in, n_sub, n_div, n_rem, n_ite, Nat.zero_add, r_0_0, r_0_1, r_0_2, r_0_4, r_0_5, r_0_6, r_0_7, r_37_0, r_39_0, r_40_0, k_0, k_1, k_13, k_25, k_37, k_38, k_39, k_40, k_41, k_42, n_38, n_41, n_42, r_51_0, r_51_1, r_51_2, r_51_4, r_51_6, r_51_13, r_51_14, r_51_18, r_51_19, r_51_20, r_51_21, k_51, k_52, k_53, k_54, k_55, k_56, k_57, k_58, k_59, k_60, k_61, k_62, n_52, n_53, n_54, n_55, n_56, n_57, n_58, n_59, n_60, n_61, n_62, ix1, ix2, ix3, ix4, ix5, ix6, ix7, Nat.add_zero, ofn, x88, F_k isF1, F_k isF13, F_k isF25, F_k1 isF1, F_k1 isF13, F_k1 isF25, F_l1 isF1, F_l1 isF13, F_l1 isF25, F_r0 isF1, F_r0 isF13, F_r0 isF25, F_r1 isF1, F_r1 isF13, F_r1 isF25, F_k2 isF1, F_k2 isF13, F_k2 isF25, F_l2 isF1, F_l2 isF13, F_l2 isF25, F_rg isF1, F_rg isF13, F_rg isF25, F_kg isF1, F_kg isF13, F_kg isF25, t3, e2, b_97 _ e3, b_122 _ e3, b_48 _ e3, b_57 _ e3, b_59 _ e3, b_32 _ e3, Nat.not_lt_zero, q, not_true_eq_false]
    refine ⟨fun q1 => ⟨fun q2 => ⟨fun q3 => ⟨fun q4 => ?_, fun q4 => ?_⟩, fun q3 => ?_⟩, fun q2 => ⟨fun q5 => ⟨fun q3 => ⟨fun q4 => ?_, fun q4 => ?_⟩, fun q3 => ?_⟩, fun q5 => ?_⟩⟩, fun q1 => ⟨fun q6 => ⟨fun q2 => ⟨fun q3 => ⟨fun q4 => ?_, fun q4 => ?_⟩, fun q3 => ?_⟩, fun q2 => ⟨fun q5 => ⟨fun q3 => ⟨fun q4 => ?_, fun q4 => ?_⟩, fun q3 => ?_⟩, fun q5 => ?_⟩⟩, fun q6 => ?_⟩⟩
    all_goals
      refine fin _ ?_
      unfold sAt
      (repeat' split) <;> omega
  · simp (disch := omega) only [b_K_sortAt_0, b_K_sortAt_4, b_K_sortAt_15, b_K_sortAt_17, b_K_sortAt_33, b_K_sortAt_39, b_K_sortAt_41, b_K_sortAt_47, b_K_sortAt_53, b_K_sortAt_55, b_K_sortAt_61, b_K_sortAt_63, b_K_sortAt_69, b_K_sortAt_73, b_K_sortAt_74, true_and, and_true, true_implies, false_implies, not_true_eq_false, not_false_eq_true, eq_self, or_true, true_or, false_or, or_false, false_and, and_false, Option.toList_some, Option.toList_none, List.cons_append, List.nil_append, n10, n01, e10, e01, e08, e18, e28, e38, e48, e58, e68, e78, exI, exL, ↓fd0, ↓fd1, ↓fd2, ↓fd3, ↓fd4, ↓fd5, ↓fd6, ↓m1e, lt_lit, nI_add, pk_mul, n_le, n_lt, n_eq, n_cl, n_in, n_sub, n_div, n_rem, n_ite, Nat.zero_add, r_0_0, r_0_1, r_0_2, r_0_4, r_0_5, r_0_6, r_0_7, r_37_0, r_39_0, r_40_0, k_0, k_1, k_13, k_25, k_37, k_38, k_39, k_40, k_41, k_42, n_38, n_41, n_42, r_51_0, r_51_1, r_51_2, r_51_4, r_51_6, r_51_13, r_51_14, r_51_18, r_51_19, r_51_20, r_51_21, k_51, k_52, k_53, k_54, k_55, k_56, k_57, k_58, k_59, k_60, k_61, k_62, n_52, n_53, n_54, n_55, n_56, n_57, n_58, n_59, n_60, n_61, n_62, ix1, ix2, ix3, ix4, ix5, ix6, ix7, Nat.add_zero, ofn, x88, F_k isF1, F_k isF13, F_k isF25, F_k1 isF1, F_k1 isF13, F_k1 isF25, F_l1 isF1, F_l1 isF13, F_l1 isF25, F_r0 isF1, F_r0 isF13, F_r0 isF25, F_r1 isF1, F_r1 isF13, F_r1 isF25, F_k2 isF1, F_k2 isF13, F_k2 isF25, F_l2 isF1, F_l2 isF13, F_l2 isF25, F_rg isF1, F_rg isF13, F_rg isF25, F_kg isF1, F_kg isF13, F_kg isF25, t3, Nat.not_lt_zero, q]
    exact fin 0 (by unfold sAt; rw [if_neg q])
theorem c_tbyteAt {i : Nat} (hT : Tp hi N L) (hb : i < L) (h : K (some (.int (byI (N i)))) hi hl) : Call u 35 [.ref 37, .int (nI i)] hi hl K := by
  obtain ⟨t1, t2, t3, t4⟩ := hT
  refine i_T_byteAt ?_
  simp (disch := omega) only [b_T_byteAt_0, b_T_byteAt_4, b_T_byteAt_12, b_T_byteAt_21, b_T_byteAt_22, true_and, and_true, true_implies, false_implies, not_true_eq_false, not_false_eq_true, eq_self, or_true, true_or, false_or, or_false, false_and, and_false, Option.toList_some, Option.toList_none, List.cons_append, List.nil_append, n10, n01, e10, e01, e08, e18, e28, e38, e48, e58, e68, e78, exI, exL, ↓fd0, ↓fd1, ↓fd2, ↓fd3, ↓fd4, ↓fd5, ↓fd6, ↓m1e, lt_lit, nI_add, pk_mul, n_le, n_lt, n_eq, n_cl, n_in, n_sub, n_div, n_rem, n_ite, Nat.zero_add, r_0_0, r_0_1, r_0_2, r_0_4, r_0_5, r_0_6, r_0_7, r_37_0, r_39_0, r_40_0, k_0, k_1, k_13, k_25, k_37, k_38, k_39, k_40, k_41, k_42, n_38, n_41, n_42, r_51_0, r_51_1, r_51_2, r_51_4, r_51_6, r_51_13, r_51_14, r_51_18, r_51_19, r_51_20, r_51_21, k_51, k_52, k_53, k_54, k_55, k_56, k_57, k_58, k_59, k_60, k_61, k_62, n_52, n_53, n_54, n_55, n_56, n_57, n_58, n_59, n_60, n_61, n_62, ix1, ix2, ix3, ix4, ix5, ix6, ix7, Nat.add_zero, ofn, x88, F_k isF1, F_k isF13, F_k isF25, F_k1 isF1, F_k1 isF13, F_k1 isF25, F_l1 isF1, F_l1 isF13, F_l1 isF25, F_r0 isF1, F_r0 isF13, F_r0 isF25, F_r1 isF1, F_r1 isF13, F_r1 isF25, F_k2 isF1, F_k2 isF13, F_k2 isF25, F_l2 isF1, F_l2 isF13, F_l2 isF25, F_rg isF1, F_rg isF13, F_rg isF25, F_kg isF1, F_kg isF13, F_kg isF25, t3, t4, Nat.not_lt_zero]
  exact ⟨fun z => absurd z (by omega), fun _ => h⟩
end P28
