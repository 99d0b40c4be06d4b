def trE : List Nat := [144, 134, 136, 138, 140, 142, 38, 74, 47, 52, 57, 62, 102, 104, 106, 122]
def moE : List Nat := [27, 29, 31, 33, 35, 37, 244, 264, 249, 258, 260, 262, 269, 270, 276, 278]
def trO : List Nat := [6, 7, 8, 9, 10, 11, 1, 2, 3, 4, 5, 0, 12, 13, 14, 15]
def moO : List Nat := [0, 1, 2, 3, 4, 5, 12, 13, 14, 15, 6, 7, 8, 9, 10, 11]
def tmT (i : Nat) : Term := .string "EarRows$TextReader" (trE.getD i 0)
def tmM (i : Nat) : Term := .string "EarRowsModel" (moE.getD i 0)
def tmV (i : Nat) : Term := .field (tmT i) "java/lang/String" "value" "[B"
def strW (i : Nat) : List Cond := [Cond.exactly (tmT i) "java/lang/String", Cond.eq (.field (tmT i) "java/lang/String" "coder" "B") (.int 0), Cond.arrayOf (tmV i) .byte, Cond.eq (.length (tmV i)) (.int (Int32.ofNat (lenS.getD i 0)))] ++ (List.range (lenS.getD i 0)).map (fun j => Cond.eq (.elem (tmV i) (.int (Int32.ofNat j))) (.int ((bytS.getD i []).getD j 0)))
set_option maxRecDepth 100000 in
theorem str_w : ∀ w ∈ trO.flatMap strW, w ∈ flatC narrow_1 := sbq_ok _ _ (by decide +kernel)
set_option maxRecDepth 100000 in
theorem pair_w : ∀ w ∈ moO.map (fun i => Cond.eq (tmT i) (tmM i)), w ∈ flatC narrow_1 := sbq_ok _ _ (by decide +kernel)
theorem trO_all : ∀ i, i < 16 → i ∈ trO ∧ i ∈ moO := by decide +kernel
theorem str_ne : ∀ i, i < 16 → ∀ j, j < 16 → lenS.getD i 0 = lenS.getD j 0 → (∀ k, k < lenS.getD i 0 → (bytS.getD i []).getD k 0 = (bytS.getD j []).getD k 0) → i = j := by decide +kernel
theorem len_lt : ∀ i, i < 16 → lenS.getD i 0 < 20 := by decide +kernel
theorem slt_t : ∀ q ∈ SLT, q.2 < 16 ∧ ((q.1 / 10000 = 4 ∧ q.1 % 10000 = trE.getD q.2 0) ∨ (q.1 / 10000 = 7 ∧ q.1 % 10000 = moE.getD q.2 0)) := by decide +kernel
theorem strs {args : Array Value} {s : State} {A : Nat → Prop} (h : ∀ w ∈ flatC narrow_1, w.before args s = true) (hts : ∀ w ∈ lw_tbl, w.before args s = true) (hA : ∀ a : Nat, a < s.heap.size → ¬ A a) :
    ∃ adK adV : Nat → Nat, vk_S 16 lenS bytS adK adV A s s.heap ∧ ∀ q ∈ SLT, vk_R (cN (q.1 / 10000)) (q.1 % 10000) (stL.getD q.2 "") (adK q.2) s := by
  have hw : ∀ i, i < 16 → ∀ w ∈ strW i, w.before args s = true := fun i hi w hw => h w (str_w w (List.mem_flatMap.mpr ⟨i, (trO_all i hi).1, hw⟩))
  have h0 : ∀ i : Nat, ∃ q : Nat × Nat, i < 16 → (tmT i).eval args s none [] s = some (.ref q.1) ∧ va_O "java/lang/String" q.1 A s s.heap ∧ va_OF "java/lang/String" "coder" "B" (.int 0) q.1 A s s.heap ∧ va_OF "java/lang/String" "value" "[B" (.ref q.2) q.1 A s s.heap ∧ va_T .byte q.2 (lenS.getD i 0) (fun j => .int ((bytS.getD i []).getD j 0)) A s s.heap := by
    intro i
    by_cases hi : i < 16
    · have hex := hw i hi _ (List.mem_append_left _ List.mem_cons_self)
      have hco := hw i hi _ (List.mem_append_left _ (List.mem_cons_of_mem _ List.mem_cons_self))
      have har := hw i hi _ (List.mem_append_left _ (List.mem_cons_of_mem _ (List.mem_cons_of_mem _ List.mem_cons_self)))
      have hle := hw i hi _ (List.mem_append_left _ (List.mem_cons_of_mem _ (List.mem_cons_of_mem _ (List.mem_cons_of_mem _ List.mem_cons_self))))
      have hel : ∀ j, j < lenS.getD i 0 → (Cond.eq (.elem (tmV i) (.int (Int32.ofNat j))) (.int ((bytS.getD i []).getD j 0))).before args s = true := fun j hj => hw i hi _ (List.mem_append_right _ (List.mem_map.mpr ⟨j, List.mem_range.mpr hj, rfl⟩))
      obtain ⟨a, c, cA, kA, q1, q2, q3, q4, q5, q6, -⟩ := Cond.exactly_spec (args := args) (first := s) (o := none) (s := s) (idx := []) (t := tmT i) (cls := "java/lang/String") hex
      obtain ⟨t, ht, hT⟩ := va_Tof (f := fun j => .int ((bytS.getD i []).getD j 0)) (A := A) (Nat.lt_of_lt_of_le (len_lt i hi) (by decide)) har (va_eqt hle) (fun j hj => va_eqt (hel j hj)) hA
      exact ⟨(a, t), fun _ => ⟨q1, ⟨cA, q3, q5, by rw [q6]; exact q2, hA a (Array.getElem?_eq_some_iff.mp q3).1⟩, vk_OFof q1 (va_eqt hco) hA, vk_OFof q1 ht hA, hT⟩⟩
    · exact ⟨(0, 0), fun h => absurd h hi⟩
  obtain ⟨ad, had⟩ := Classical.axiomOfChoice h0
  refine ⟨fun i => (ad i).1, fun i => (ad i).2, ⟨fun i hi => (had i hi).2, fun i j hi hj e => ?_⟩, fun q hq => ?_⟩
  · obtain ⟨-, -, -, ⟨cf, k, fi, f, cell, g1, g2, g3, g4, g5, g6⟩, ⟨ca, t1, t2, t3, t4, t5, t6, t7⟩⟩ := had i hi
    obtain ⟨-, -, -, ⟨cf', k', fi', f', cell', w1, w2, w3, w4, w5, w6⟩, ⟨ca', v1, v2, v3, v4, v5, v6, v7⟩⟩ := had j hj
    have e : (ad i).1 = (ad j).1 := e
    cases g1.symm.trans w1
    rw [e] at g3
    cases g3.symm.trans w3
    have e2 : (ad i).2 = (ad j).2 := by
      have := g5.symm.trans w5
      simpa using this
    rw [e2] at t1
    cases t1.symm.trans v1
    have hl : lenS.getD i 0 = lenS.getD j 0 := by
      have h1 : nI (lenS.getD i 0) = nI (lenS.getD j 0) := t5.symm.trans v5
      exact (nI_eq (Nat.lt_of_lt_of_le (len_lt i hi) (by decide)) (Nat.lt_of_lt_of_le (len_lt j hj) (by decide))).mp h1
    refine str_ne i hi j hj hl (fun k hk => ?_)
    have := (t6 k hk).symm.trans (v6 k (by rw [← hl]; exact hk))
    simpa using this
  · have hr := hts _ (zs_all _ (List.mem_map.mpr ⟨q, hq, rfl⟩))
    obtain ⟨hlt, hc⟩ := slt_t q hq
    have hev := (had q.2 hlt).1
    rcases hc with ⟨c1, c2⟩ | ⟨c1, c2⟩
    · rw [c1, c2] at hr ⊢
      refine vk_R.of (A := args) hr hev
    · rw [c1, c2] at hr ⊢
      refine vk_R.of (A := args) hr ?_
      exact va_eqR (h _ (pair_w _ (List.mem_map.mpr ⟨q.2, (trO_all q.2 hlt).2, rfl⟩))) hev
