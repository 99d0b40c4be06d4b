/-! findings; what class and reference keep, side by side -/
def fd (j : Nat) : Int32 := Int32.ofInt (-1000000001 - (j : Int))
theorem fd0 : (-1000000001 : Int32) = fd 0 := by decide
theorem fd1 : (-1000000002 : Int32) = fd 1 := by decide
theorem fd2 : (-1000000003 : Int32) = fd 2 := by decide
theorem fd3 : (-1000000004 : Int32) = fd 3 := by decide
theorem fd4 : (-1000000005 : Int32) = fd 4 := by decide
theorem fd5 : (-1000000006 : Int32) = fd 5 := by decide
theorem fd6 : (-1000000007 : Int32) = fd 6 := by decide
def m1 : Int32 := Int32.ofInt (-1)
theorem m1e : (-1 : Int32) = m1 := by decide
theorem m1_toInt : m1.toInt = -1 := by decide
theorem fd_sub {j : Nat} (h : j < 7) : fd 0 - fd j = nI j := by
  have : j = 0 ∨ j = 1 ∨ j = 2 ∨ j = 3 ∨ j = 4 ∨ j = 5 ∨ j = 6 := by omega
  rcases this with h | h | h | h | h | h | h <;> subst h <;> decide
theorem fd_ne {j : Nat} (h : j < 7) : ¬ fd j = 0 := by
  have : j = 0 ∨ j = 1 ∨ j = 2 ∨ j = 3 ∨ j = 4 ∨ j = 5 ∨ j = 6 := by omega
  rcases this with h | h | h | h | h | h | h <;> subst h <;> decide
theorem fd_neN {j : Nat} (h : j < 7) : (fd j = nI 0) = False := eq_false (fd_ne h)
/-- an answer that is told -/
theorem exI {w : Int32} {P : Int32 → Prop} : (∃ v, some (Value.int w) = some (Value.int v) ∧ P v) = P w := propext ⟨fun ⟨_, e, h⟩ => by cases e; exact h, fun h => ⟨w, rfl, h⟩⟩
theorem exL {w : Int64} {P : Int64 → Prop} : (∃ v, some (Value.long w) = some (Value.long v) ∧ P v) = P w := propext ⟨fun ⟨_, e, h⟩ => by cases e; exact h, fun h => ⟨w, rfl, h⟩⟩
theorem Call.mono {u : UV} {z : Nat} {as : List Value} {hi : HI} {hl : HL} {K K' : Option Value → HI → HL → Prop} (h : Call u z as hi hl K) (hk : ∀ r hi hl, K r hi hl → K' r hi hl) : Call u z as hi hl K' := by
  intro p e h1 h2 h3 s m args below h4 h5 h6 h7
  obtain ⟨n, o, a, b, c, ⟨⟨r, hi', hl', e1, e2, e3⟩, f⟩, g⟩ := h p e h1 h2 h3 s m args below h4 h5 h6 h7
  exact ⟨n, o, a, b, c, ⟨⟨r, hi', hl', e1, hk _ _ _ e2, e3⟩, f⟩, g⟩
def upR (R : Nat → Int32) (j : Nat) : Nat → Int32 := fun i => if i = j then R i + 1 else R i
def sumR (R : Nat → Int32) : Int32 := R 0 + R 1 + R 2 + R 3 + R 4 + R 5 + R 6
theorem sumR_up {R : Nat → Int32} {j : Nat} (h : j < 7) : sumR (upR R j) = sumR R + 1 := by
  have : j = 0 ∨ j = 1 ∨ j = 2 ∨ j = 3 ∨ j = 4 ∨ j = 5 ∨ j = 6 := by omega
  rcases this with h | h | h | h | h | h | h <;> subst h <;> simp [sumR, upR] <;> ac_rfl
def Rp (hi : HI) (R : Nat → Int32) : Prop := ∀ i, i < 7 → hi 42 i = R i
def Rm (hi : HI) (R : Nat → Int32) : Prop := (∀ i, i < 7 → hi 55 (i + 1) = R i) ∧ hi 55 0 = sumR R
/-- all but field, trial, refusals and the reader of the class is as it was -/
def fX (hi hi' : HI) : Prop := ∀ o, (o = 0 ∨ (25 ≤ o ∧ o < 39) ∨ 43 ≤ o) → hi' o = hi o
theorem fX.refl (hi : HI) : fX hi hi := fun _ _ => rfl
theorem fX.trans {a b c : HI} (h : fX a b) (h2 : fX b c) : fX a c := fun o ho => (h2 o ho).trans (h o ho)
theorem fF.x1 {a b : HI} (h : fF 1 a b) : fX a b := fun o ho => h o (by omega)
theorem fF.x13 {a b : HI} (h : fF 13 a b) : fX a b := fun o ho => h o (by omega)
theorem fX.up {a b : HI} (h : fX a b) {o k : Nat} {v : Int32} (ho : (1 ≤ o ∧ o < 25) ∨ (39 ≤ o ∧ o < 43)) : fX a (up2 b o k v) := fun p hp => by
  rw [← h p hp]; funext i; exact u2_nh (by omega)
/-- what the reference's calls leave as it was, but its row, findings and the like -/
def fY (hi hi' : HI) : Prop := (∀ o, o ≠ 51 → o ≠ 52 → o ≠ 54 → o ≠ 55 → o ≠ 58 → hi' o = hi o) ∧ hi' 51 3 = hi 51 3 ∧ hi' 51 7 = hi 51 7
theorem fY.refl (hi : HI) : fY hi hi := ⟨fun _ _ _ _ _ _ => rfl, rfl, rfl⟩
theorem fY.trans {a b c : HI} (h : fY a b) (h2 : fY b c) : fY a c := ⟨fun o x1 x2 x3 x4 x5 => (h2.1 o x1 x2 x3 x4 x5).trans (h.1 o x1 x2 x3 x4 x5), h2.2.1.trans h.2.1, h2.2.2.trans h.2.2⟩
theorem fM.y {a b : HI} (h : fM a b) : fY a b := ⟨fun o x1 x2 _ _ _ => h.1 o x2 x1, h.2 3 (by omega), h.2 7 (by omega)⟩
theorem fY.up {a b : HI} (h : fY a b) {o k : Nat} {v : Int32} (ho : o = 52 ∨ o = 54 ∨ o = 55 ∨ o = 58) : fY a (up2 b o k v) := h.trans ⟨fun p x1 x2 x3 x4 x5 => by funext i; exact u2_nh (by omega), u2_nh (by omega), u2_nh (by omega)⟩
theorem fY.c54 {a b : HI} (h : fY a b) : fY a (cpy b 52 54) := h.trans ⟨fun p x1 x2 x3 x4 x5 => cpy_ne x3, by rw [cpy_ne (by omega)], by rw [cpy_ne (by omega)]⟩
theorem fY.c52 {a b : HI} (h : fY a b) : fY a (cpy b 54 52) := h.trans ⟨fun p x1 x2 x3 x4 x5 => cpy_ne x2, by rw [cpy_ne (by omega)], by rw [cpy_ne (by omega)]⟩
/-- kept: is there one, its row; the tape: how many bytes, which; the sheets: bits, sizes, numbers -/
abbrev XT : Type := (Bool × (Nat → Nat)) × (Nat × (Nat → Nat)) × (Nat → Nat) × (Nat → Nat) × (Nat → Nat → Int64)
def bI (b : Bool) : Int32 := if b = true then 1 else 0
/-- a byte as the class holds it -/
def byI (n : Nat) : Int32 := if n < 128 then nI n else nI n - nI 256
def Cx (hi : HI) (hl : HL) (X : XT) : Prop :=
  (hi 0 3 = bI X.1.1 ∧ (X.1.1 = true → Fp hi 25 X.1.2)) ∧ (hi 37 1 = nI X.2.1.1 ∧ ∀ k, k < X.2.1.1 → hi 38 k = byI (X.2.1.2 k)) ∧
  (∀ s, s < 4 → hi (43 + 2 * s) 1 = nI (X.2.2.1 s) ∧ hi (43 + 2 * s) 2 = nI (X.2.2.2.1 s) ∧ ∀ k, k < 40 → hl (44 + 2 * s) k = X.2.2.2.2 s k)
def Mx (hi : HI) (hl : HL) (X : XT) : Prop :=
  (hi 51 3 = bI X.1.1 ∧ (X.1.1 = true → ∀ k, k < 69 + 8 * X.1.2 68 → hi 53 k = nI (X.1.2 k))) ∧ (hi 51 7 = nI X.2.1.1 ∧ ∀ k, k < X.2.1.1 → hi 56 k = nI (X.2.1.2 k)) ∧
  (∀ s, s < 4 → hi 59 s = nI (X.2.2.1 s) ∧ hi 60 s = nI (X.2.2.2.1 s) ∧ ∀ k, k < 40 → hl 61 (40 * s + k) = X.2.2.2.2 s k)
def xOk (B : Nat) (X : XT) : Prop :=
  (X.1.1 = true → rowOk B X.1.2 ∧ X.1.2 64 ≤ 9999) ∧ (X.2.1.1 ≤ 120 ∧ ∀ k, k < X.2.1.1 → X.2.1.2 k < 256) ∧ (∀ s, s < 4 → X.2.2.2.1 s ≤ 40 ∧ (X.2.2.1 s = 0 ∨ X.2.2.1 s = 8 ∨ X.2.2.1 s = 16 ∨ X.2.2.1 s = 64))
theorem Cx.fr {hi hi' : HI} {hl : HL} {X : XT} {B : Nat} (ok : xOk B X) (h : Cx hi hl X) (f : fX hi hi') : Cx hi' hl X := by
  obtain ⟨⟨a, b⟩, ⟨c, d⟩, e⟩ := h
  refine ⟨⟨by rw [f 0 (by omega)]; exact a, fun q k hk => ?_⟩, ⟨by rw [f 37 (by omega)]; exact c, fun k hk => by rw [f 38 (by omega)]; exact d k hk⟩, fun s hs => ?_⟩
  · have h9 := (ok.1 q).1.2.2.2.2.2.1
    rw [f _ (by unfold lh; (repeat' split) <;> omega)]
    exact b q k hk
  · rw [f _ (by omega)]; exact e s hs
theorem Mx.fr {hi hi' : HI} {hl : HL} {X : XT} (h : Mx hi hl X) (f : ∀ o, 51 ≤ o → hi' o = hi o) : Mx hi' hl X := by
  obtain ⟨⟨a, b⟩, ⟨c, d⟩, e⟩ := h
  refine ⟨⟨by rw [f 51 (by omega)]; exact a, fun q k hk => by rw [f 53 (by omega)]; exact b q k hk⟩, ⟨by rw [f 51 (by omega)]; exact c, fun k hk => by rw [f 56 (by omega)]; exact d k hk⟩, fun s hs => ?_⟩
  rw [f 59 (by omega), f 60 (by omega)]; exact e s hs
theorem Mx.fy {hi hi' : HI} {hl : HL} {X : XT} (h : Mx hi hl X) (f : fY hi hi') : Mx hi' hl X := by
  obtain ⟨⟨a, b⟩, ⟨c, d⟩, e⟩ := h
  obtain ⟨f, f3, f7⟩ := f
  refine ⟨⟨by rw [f3]; exact a, fun q k hk => by rw [f 53 (by omega) (by omega) (by omega) (by omega) (by omega)]; exact b q k hk⟩, ⟨by rw [f7]; exact c, fun k hk => by rw [f 56 (by omega) (by omega) (by omega) (by omega) (by omega)]; exact d k hk⟩, fun s hs => ?_⟩
  rw [f 59 (by omega) (by omega) (by omega) (by omega) (by omega), f 60 (by omega) (by omega) (by omega) (by omega) (by omega)]; exact e s hs
theorem Cx.fo {hi hi' : HI} {hl : HL} {X : XT} {B : Nat} (ok : xOk B X) (h : Cx hi hl X) (f : ∀ o, o < 51 → hi' o = hi o) : Cx hi' hl X := by
  obtain ⟨⟨a, b⟩, ⟨c, d⟩, e⟩ := h
  refine ⟨⟨by rw [f 0 (by omega)]; exact a, fun q k hk => ?_⟩, ⟨by rw [f 37 (by omega)]; exact c, fun k hk => by rw [f 38 (by omega)]; exact d k hk⟩, fun s hs => ?_⟩
  · have h9 := (ok.1 q).1.2.2.2.2.2.1
    rw [f _ (by unfold lh; (repeat' split) <;> omega)]
    exact b q k hk
  · rw [f _ (by omega)]; exact e s hs
theorem Fp.keep {hi hi' : HI} {f : Nat} {A : Nat → Nat} (h : Fp hi f A) (h9 : A 68 ≤ 9) (q : ∀ o, f ≤ o → o < f + 12 → hi' o = hi o) : Fp hi' f A := by
  intro k hk
  rw [q _ (by unfold lh; (repeat' split) <;> omega) (by unfold lh; (repeat' split) <;> omega)]
  exact h k hk
def Inv (B : Nat) (A : Nat → Nat) (R : Nat → Int32) (X : XT) (hi : HI) (hl : HL) : Prop :=
  (rowOk B A ∧ A 64 ≤ 9999 ∧ xOk B X) ∧ (Fp hi 1 A ∧ Rp hi R ∧ Cx hi hl X) ∧ Mr hi A ∧ Rm hi R ∧ Mx hi hl X
def InvE (B : Nat) (hi : HI) (hl : HL) : Prop := ∃ A R X, Inv B A R X hi hl
theorem xOk.mono {B B' : Nat} {X : XT} (h : xOk B X) (hB : B ≤ B') : xOk B' X := ⟨fun q => ⟨(h.1 q).1.mono hB, (h.1 q).2⟩, h.2⟩
/-- the reference's end: this answer, and the pictures -/
def Fn (v : Value) (B' : Nat) (r' : Option Value) (hi2 : HI) (hl2 : HL) : Prop := r' = some v ∧ InvE B' hi2 hl2
theorem Fn.i {v : Value} {B' : Nat} {hi : HI} {hl : HL} (h : InvE B' hi hl) : Fn v B' (some v) hi hl := ⟨rfl, h⟩
/-- the end of most calls: the class has come to A', R' and the reference too -/
theorem Inv.fin {B B' : Nat} {A A' : Nat → Nat} {R R' : Nat → Int32} {X : XT} {hi hi1 hi2 : HI} {hl : HL} (I : Inv B A R X hi hl) (hB : B ≤ B') (ok : rowOk B' A') (h64 : A' 64 ≤ 9999) (c1 : Fp hi1 1 A') (c2 : Rp hi1 R') (cf : fX hi hi1) (mr : Mr hi2 A') (m2 : Rm hi2 R') (mf : fY hi1 hi2) : InvE B' hi2 hl := by
  obtain ⟨⟨o1, o2, o3⟩, ⟨p1, p2, p3⟩, q1, q2, q3⟩ := I
  have h9 := ok.2.2.2.2.2.1
  have f5 : ∀ o, o < 51 → hi2 o = hi1 o := fun o ho => mf.1 o (by omega) (by omega) (by omega) (by omega) (by omega)
  refine ⟨A', R', X, ⟨ok, h64, o3.mono hB⟩, ⟨c1.keep h9 (fun o _ ho => f5 o (by omega)), fun i h => by rw [f5 42 (by omega)]; exact c2 i h, ((p3.fr o3 cf).fo o3 f5)⟩, mr, m2, (q3.fr (fun o ho => cf o (by omega))).fy mf⟩
section E1
variable {u : UV} {hi : HI} {hl : HL} {K : Option Value → HI → HL → Prop} {A : Nat → Nat} {B : Nat} {R : Nat → Int32}
theorem isF1 : isF 1 := .inl rfl
theorem isF13 : isF 13 := .inr (.inl rfl)
theorem isF25 : isF 25 := .inr (.inr rfl)
theorem c_isWithinN {n : Nat} {x : Int32} (hn : n < 100000000) (h1 : vp_in x (n + 1) → K (some (.int 1)) hi hl) (h0 : ¬ vp_in x (n + 1) → K (some (.int 0)) hi hl) : Call u 117 [.int x, .int (nI 0), .int (nI n)] hi hl K :=
  c_isWithin (fun h => h1 ((q_iff (by omega)).mpr h)) (fun h => h0 (fun q => h ((q_iff (by omega)).mp q)))
theorem c_withinN {n : Nat} {x : Int32} (hn : n < 100000000) (h1 : vp_in x (n + 1) → K (some (.int 1)) hi hl) (h0 : ¬ vp_in x (n + 1) → K (some (.int 0)) hi hl) : Call u 119 [.int x, .int (nI 0), .int (nI n)] hi hl K :=
  c_within (fun h => h1 ((q_iff (by omega)).mpr h)) (fun h => h0 (fun q => h ((q_iff (by omega)).mp q)))
def in1 (x : Int32) (n : Nat) : Prop := nI 1 ≤ x ∧ x ≤ nI n
theorem in1_of {x : Int32} {n : Nat} (hn : n < 100000000) (h : in1 x n) : ∃ j, (1 ≤ j ∧ j ≤ n) ∧ x = nI j := by
  obtain ⟨a, b⟩ := h
  have : vp_in x (n + 1) := (q_iff (by omega)).mpr ⟨by rw [q_le] at a ⊢; have e1 : (nI 1).toInt = 1 := by decide
                                                       have e0 : (0 : Int32).toInt = 0 := by decide
                                                       omega, b⟩
  obtain ⟨j, hj, rfl⟩ := q_of this (by omega)
  rw [n_le (by omega) (by omega)] at a
  exact ⟨j, ⟨a, by omega⟩, rfl⟩
theorem in1_nI {j n : Nat} (hn : n < 100000000) (h : 1 ≤ j) (h2 : j ≤ n) : in1 (nI j) n := by
  unfold in1; rw [n_le (by omega) (by omega), n_le (by omega) (by omega)]; exact ⟨h, h2⟩
theorem c_isWithin1 {n : Nat} {x : Int32} (h1 : in1 x n → K (some (.int 1)) hi hl) (h0 : ¬ in1 x n → K (some (.int 0)) hi hl) : Call u 117 [.int x, .int (nI 1), .int (nI n)] hi hl K := c_isWithin h1 h0
theorem c_within1 {n : Nat} {x : Int32} (h1 : in1 x n → K (some (.int 1)) hi hl) (h0 : ¬ in1 x n → K (some (.int 0)) hi hl) : Call u 119 [.int x, .int (nI 1), .int (nI n)] hi hl K := c_within h1 h0
theorem c_refuse {j : Nat} (hj : j < 7) (hR : Rp hi R) (h : ∀ hi', Rp hi' (upR R j) → (∀ o, o ≠ 42 → hi' o = hi o) → K (some (.int (fd j))) hi' hl) : Call u 107 [.ref 0, .int (fd j)] hi hl K := by
  refine i_E_refuse ?_
  simp (disch := omega) only [b_E_refuse_0, b_E_refuse_12, b_E_refuse_15, b_E_refuse_25, true_and, and_true, true_implies, false_implies, not_true_eq_false, not_false_eq_true, eq_self, or_true, true_or, false_or, or_false, false_and, and_false, Option.toList_some, Option.toList_none, List.cons_append, List.nil_append, n10, n01, e10, e01, e08, e18, e28, e38, e48, e58, e68, e78, exI, exL, ↓fd0, ↓fd1, ↓fd2, ↓fd3, ↓fd4, ↓fd5, ↓fd6, ↓m1e, lt_lit, nI_add, pk_mul, n_le, n_lt, n_eq, n_cl, n_in, n_sub, n_div, n_rem, n_ite, Nat.zero_add, r_0_0, r_0_1, r_0_2, r_0_4, r_0_5, r_0_6, r_0_7, r_37_0, r_39_0, r_40_0, k_0, k_1, k_13, k_25, k_37, k_38, k_39, k_40, k_41, k_42, n_38, n_41, n_42, r_51_0, r_51_1, r_51_2, r_51_4, r_51_6, r_51_13, r_51_14, r_51_18, r_51_19, r_51_20, r_51_21, k_51, k_52, k_53, k_54, k_55, k_56, k_57, k_58, k_59, k_60, k_61, k_62, n_52, n_53, n_54, n_55, n_56, n_57, n_58, n_59, n_60, n_61, n_62, ix1, ix2, ix3, ix4, ix5, ix6, ix7, Nat.add_zero, ofn, x88, F_k isF1, F_k isF13, F_k isF25, F_k1 isF1, F_k1 isF13, F_k1 isF25, F_l1 isF1, F_l1 isF13, F_l1 isF25, F_r0 isF1, F_r0 isF13, F_r0 isF25, F_r1 isF1, F_r1 isF13, F_r1 isF25, F_k2 isF1, F_k2 isF13, F_k2 isF25, F_l2 isF1, F_l2 isF13, F_l2 isF25, F_rg isF1, F_rg isF13, F_rg isF25, F_kg isF1, F_kg isF13, F_kg isF25, fd_sub]
  refine c_isWithinN (by omega) (fun _ => ?_) (fun q => absurd (q_in (by omega) (by omega)) q)
  simp (disch := omega) only [b_E_refuse_0, b_E_refuse_12, b_E_refuse_15, b_E_refuse_25, true_and, and_true, true_implies, false_implies, not_true_eq_false, not_false_eq_true, eq_self, or_true, true_or, false_or, or_false, false_and, and_false, Option.toList_some, Option.toList_none, List.cons_append, List.nil_append, n10, n01, e10, e01, e08, e18, e28, e38, e48, e58, e68, e78, exI, exL, ↓fd0, ↓fd1, ↓fd2, ↓fd3, ↓fd4, ↓fd5, ↓fd6, ↓m1e, lt_lit, nI_add, pk_mul, n_le, n_lt, n_eq, n_cl, n_in, n_sub, n_div, n_rem, n_ite, Nat.zero_add, r_0_0, r_0_1, r_0_2, r_0_4, r_0_5, r_0_6, r_0_7, r_37_0, r_39_0, r_40_0, k_0, k_1, k_13, k_25, k_37, k_38, k_39, k_40, k_41, k_42, n_38, n_41, n_42, r_51_0, r_51_1, r_51_2, r_51_4, r_51_6, r_51_13, r_51_14, r_51_18, r_51_19, r_51_20, r_51_21, k_51, k_52, k_53, k_54, k_55, k_56, k_57, k_58, k_59, k_60, k_61, k_62, n_52, n_53, n_54, n_55, n_56, n_57, n_58, n_59, n_60, n_61, n_62, ix1, ix2, ix3, ix4, ix5, ix6, ix7, Nat.add_zero, ofn, x88, F_k isF1, F_k isF13, F_k isF25, F_k1 isF1, F_k1 isF13, F_k1 isF25, F_l1 isF1, F_l1 isF13, F_l1 isF25, F_r0 isF1, F_r0 isF13, F_r0 isF25, F_r1 isF1, F_r1 isF13, F_r1 isF25, F_k2 isF1, F_k2 isF13, F_k2 isF25, F_l2 isF1, F_l2 isF13, F_l2 isF25, F_rg isF1, F_rg isF13, F_rg isF25, F_kg isF1, F_kg isF13, F_kg isF25, fd_sub]
  refine h _ (fun i hi2 => ?_) (fun o ho => by funext k; exact u2_nh ho)
  unfold upR
  by_cases q : i = j
  · subst q; rw [u2_eq, if_pos rfl, hR i hi2]; rfl
  · rw [u2_nk q, if_neg q, hR i hi2]
theorem c_mfind {j : Nat} (hj : j < 7) (hR : Rm hi R) (h : ∀ hi', Rm hi' (upR R j) → (∀ o, o ≠ 55 → hi' o = hi o) → K (some (.int (fd j))) hi' hl) : Call u 118 [.ref 51, .int (fd j)] hi hl K := by
  refine c_mfinding hj (by rw [fd0]; exact fd_sub hj) (h _ ⟨fun i hi2 => ?_, ?_⟩ (fun o ho => by funext k; rw [u2_nh ho, u2_nh ho]))
  · rw [u2_nk (by omega)]
    unfold upR
    by_cases q : i = j
    · subst q; rw [u2_eq, if_pos rfl, hR.1 i hi2]; rfl
    · rw [u2_nk (by omega), if_neg q, hR.1 i hi2]
  · rw [u2_eq, hR.2, sumR_up hj]; rfl
theorem c_isGleaner {x : Int32} (hp : Fp hi 1 A) (hn : A 68 ≤ 9) (h1 : vp_in x (A 68) → K (some (.int 1)) hi hl) (h0 : ¬ vp_in x (A 68) → K (some (.int 0)) hi hl) : Call u 108 [.ref 0, .int x] hi hl K := by
  refine i_E_isGleaner ?_
  simp (disch := omega) only [b_E_isGleaner_0, b_E_isGleaner_14, true_and, and_true, true_implies, false_implies, not_true_eq_false, not_false_eq_true, eq_self, or_true, true_or, false_or, or_false, false_and, and_false, Option.toList_some, Option.toList_none, List.cons_append, List.nil_append, n10, n01, e10, e01, e08, e18, e28, e38, e48, e58, e68, e78, exI, exL, ↓fd0, ↓fd1, ↓fd2, ↓fd3, ↓fd4, ↓fd5, ↓fd6, ↓m1e, lt_lit, nI_add, pk_mul, n_le, n_lt, n_eq, n_cl, n_in, n_sub, n_div, n_rem, n_ite, Nat.zero_add, r_0_0, r_0_1, r_0_2, r_0_4, r_0_5, r_0_6, r_0_7, r_37_0, r_39_0, r_40_0, k_0, k_1, k_13, k_25, k_37, k_38, k_39, k_40, k_41, k_42, n_38, n_41, n_42, r_51_0, r_51_1, r_51_2, r_51_4, r_51_6, r_51_13, r_51_14, r_51_18, r_51_19, r_51_20, r_51_21, k_51, k_52, k_53, k_54, k_55, k_56, k_57, k_58, k_59, k_60, k_61, k_62, n_52, n_53, n_54, n_55, n_56, n_57, n_58, n_59, n_60, n_61, n_62, ix1, ix2, ix3, ix4, ix5, ix6, ix7, Nat.add_zero, ofn, x88, F_k isF1, F_k isF13, F_k isF25, F_k1 isF1, F_k1 isF13, F_k1 isF25, F_l1 isF1, F_l1 isF13, F_l1 isF25, F_r0 isF1, F_r0 isF13, F_r0 isF25, F_r1 isF1, F_r1 isF13, F_r1 isF25, F_k2 isF1, F_k2 isF13, F_k2 isF25, F_l2 isF1, F_l2 isF13, F_l2 isF25, F_rg isF1, F_rg isF13, F_rg isF25, F_kg isF1, F_kg isF13, F_kg isF25, Fp.s2 hp, Fp.s3 hp, Fp.s4 hp, Fp.s5 hp, Fp.s6 hp, Fp.p hp, Fp.r0 hp, Fp.r1 hp, Fp.r2 hp, Fp.r3 hp, Fp.r4 hp, Fp.r5 hp, Fp.r6 hp, Fp.r7 hp]
  refine c_isWithin (fun h => ?_) (fun h => ?_)
  · simp (disch := omega) only [b_E_isGleaner_0, b_E_isGleaner_14, true_and, and_true, true_implies, false_implies, not_true_eq_false, not_false_eq_true, eq_self, or_true, true_or, false_or, or_false, false_and, and_false, Option.toList_some, Option.toList_none, List.cons_append, List.nil_append, n10, n01, e10, e01, e08, e18, e28, e38, e48, e58, e68, e78, exI, exL, ↓fd0, ↓fd1, ↓fd2, ↓fd3, ↓fd4, ↓fd5, ↓fd6, ↓m1e, lt_lit, nI_add, pk_mul, n_le, n_lt, n_eq, n_cl, n_in, n_sub, n_div, n_rem, n_ite, Nat.zero_add, r_0_0, r_0_1, r_0_2, r_0_4, r_0_5, r_0_6, r_0_7, r_37_0, r_39_0, r_40_0, k_0, k_1, k_13, k_25, k_37, k_38, k_39, k_40, k_41, k_42, n_38, n_41, n_42, r_51_0, r_51_1, r_51_2, r_51_4, r_51_6, r_51_13, r_51_14, r_51_18, r_51_19, r_51_20, r_51_21, k_51, k_52, k_53, k_54, k_55, k_56, k_57, k_58, k_59, k_60, k_61, k_62, n_52, n_53, n_54, n_55, n_56, n_57, n_58, n_59, n_60, n_61, n_62, ix1, ix2, ix3, ix4, ix5, ix6, ix7, Nat.add_zero, ofn, x88, F_k isF1, F_k isF13, F_k isF25, F_k1 isF1, F_k1 isF13, F_k1 isF25, F_l1 isF1, F_l1 isF13, F_l1 isF25, F_r0 isF1, F_r0 isF13, F_r0 isF25, F_r1 isF1, F_r1 isF13, F_r1 isF25, F_k2 isF1, F_k2 isF13, F_k2 isF25, F_l2 isF1, F_l2 isF13, F_l2 isF25, F_rg isF1, F_rg isF13, F_rg isF25, F_kg isF1, F_kg isF13, F_kg isF25]; exact h1 ((q_iff2 (by omega)).mpr h)
  · simp (disch := omega) only [b_E_isGleaner_0, b_E_isGleaner_14, true_and, and_true, true_implies, false_implies, not_true_eq_false, not_false_eq_true, eq_self, or_true, true_or, false_or, or_false, false_and, and_false, Option.toList_some, Option.toList_none, List.cons_append, List.nil_append, n10, n01, e10, e01, e08, e18, e28, e38, e48, e58, e68, e78, exI, exL, ↓fd0, ↓fd1, ↓fd2, ↓fd3, ↓fd4, ↓fd5, ↓fd6, ↓m1e, lt_lit, nI_add, pk_mul, n_le, n_lt, n_eq, n_cl, n_in, n_sub, n_div, n_rem, n_ite, Nat.zero_add, r_0_0, r_0_1, r_0_2, r_0_4, r_0_5, r_0_6, r_0_7, r_37_0, r_39_0, r_40_0, k_0, k_1, k_13, k_25, k_37, k_38, k_39, k_40, k_41, k_42, n_38, n_41, n_42, r_51_0, r_51_1, r_51_2, r_51_4, r_51_6, r_51_13, r_51_14, r_51_18, r_51_19, r_51_20, r_51_21, k_51, k_52, k_53, k_54, k_55, k_56, k_57, k_58, k_59, k_60, k_61, k_62, n_52, n_53, n_54, n_55, n_56, n_57, n_58, n_59, n_60, n_61, n_62, ix1, ix2, ix3, ix4, ix5, ix6, ix7, Nat.add_zero, ofn, x88, F_k isF1, F_k isF13, F_k isF25, F_k1 isF1, F_k1 isF13, F_k1 isF25, F_l1 isF1, F_l1 isF13, F_l1 isF25, F_r0 isF1, F_r0 isF13, F_r0 isF25, F_r1 isF1, F_r1 isF13, F_r1 isF25, F_k2 isF1, F_k2 isF13, F_k2 isF25, F_l2 isF1, F_l2 isF13, F_l2 isF25, F_rg isF1, F_rg isF13, F_rg isF25, F_kg isF1, F_kg isF13, F_kg isF25]; exact h0 (fun q => h ((q_iff2 (by omega)).mp q))
theorem c_isTooLateFor {n : Nat} (hp : Fp hi 1 A) (hA : A 64 ≤ 10200) (hn : n ≤ 200) (h1 : 9999 < A 64 + n → K (some (.int 1)) hi hl) (h0 : A 64 + n ≤ 9999 → K (some (.int 0)) hi hl) : Call u 110 [.ref 0, .int (nI n)] hi hl K := by
  refine i_E_isTooLateFor ?_
  simp (disch := omega) only [b_E_isTooLateFor_0, b_E_isTooLateFor_15, b_E_isTooLateFor_19, b_E_isTooLateFor_20, true_and, and_true, true_implies, false_implies, not_true_eq_false, not_false_eq_true, eq_self, or_true, true_or, false_or, or_false, false_and, and_false, Option.toList_some, Option.toList_none, List.cons_append, List.nil_append, n10, n01, e10, e01, e08, e18, e28, e38, e48, e58, e68, e78, exI, exL, ↓fd0, ↓fd1, ↓fd2, ↓fd3, ↓fd4, ↓fd5, ↓fd6, ↓m1e, lt_lit, nI_add, pk_mul, n_le, n_lt, n_eq, n_cl, n_in, n_sub, n_div, n_rem, n_ite, Nat.zero_add, r_0_0, r_0_1, r_0_2, r_0_4, r_0_5, r_0_6, r_0_7, r_37_0, r_39_0, r_40_0, k_0, k_1, k_13, k_25, k_37, k_38, k_39, k_40, k_41, k_42, n_38, n_41, n_42, r_51_0, r_51_1, r_51_2, r_51_4, r_51_6, r_51_13, r_51_14, r_51_18, r_51_19, r_51_20, r_51_21, k_51, k_52, k_53, k_54, k_55, k_56, k_57, k_58, k_59, k_60, k_61, k_62, n_52, n_53, n_54, n_55, n_56, n_57, n_58, n_59, n_60, n_61, n_62, ix1, ix2, ix3, ix4, ix5, ix6, ix7, Nat.add_zero, ofn, x88, F_k isF1, F_k isF13, F_k isF25, F_k1 isF1, F_k1 isF13, F_k1 isF25, F_l1 isF1, F_l1 isF13, F_l1 isF25, F_r0 isF1, F_r0 isF13, F_r0 isF25, F_r1 isF1, F_r1 isF13, F_r1 isF25, F_k2 isF1, F_k2 isF13, F_k2 isF25, F_l2 isF1, F_l2 isF13, F_l2 isF25, F_rg isF1, F_rg isF13, F_rg isF25, F_kg isF1, F_kg isF13, F_kg isF25, Fp.s2 hp, Fp.s3 hp, Fp.s4 hp, Fp.s5 hp, Fp.s6 hp, Fp.p hp, Fp.r0 hp, Fp.r1 hp, Fp.r2 hp, Fp.r3 hp, Fp.r4 hp, Fp.r5 hp, Fp.r6 hp, Fp.r7 hp]
  exact ⟨fun q => h0 q, fun q => h1 (by omega)⟩
theorem c_tryOn {n : Nat} (hp : Fp hi 1 A) (ok : rowOk B A) (hn : n ≤ 200) (hA : A 64 ≤ 9999) (hB : B + 909 * n < 100000000) (h : ∀ hi', Fp hi' 13 (minsN all1 n A) → fF 13 hi hi' → K none hi' hl) : Call u 78 [.ref 0, .int (nI n)] hi hl K := by
  refine i_E_tryOn ?_
  simp (disch := omega) only [b_E_tryOn_0, b_E_tryOn_11, b_E_tryOn_19, true_and, and_true, true_implies, false_implies, not_true_eq_false, not_false_eq_true, eq_self, or_true, true_or, false_or, or_false, false_and, and_false, Option.toList_some, Option.toList_none, List.cons_append, List.nil_append, n10, n01, e10, e01, e08, e18, e28, e38, e48, e58, e68, e78, exI, exL, ↓fd0, ↓fd1, ↓fd2, ↓fd3, ↓fd4, ↓fd5, ↓fd6, ↓m1e, lt_lit, nI_add, pk_mul, n_le, n_lt, n_eq, n_cl, n_in, n_sub, n_div, n_rem, n_ite, Nat.zero_add, r_0_0, r_0_1, r_0_2, r_0_4, r_0_5, r_0_6, r_0_7, r_37_0, r_39_0, r_40_0, k_0, k_1, k_13, k_25, k_37, k_38, k_39, k_40, k_41, k_42, n_38, n_41, n_42, r_51_0, r_51_1, r_51_2, r_51_4, r_51_6, r_51_13, r_51_14, r_51_18, r_51_19, r_51_20, r_51_21, k_51, k_52, k_53, k_54, k_55, k_56, k_57, k_58, k_59, k_60, k_61, k_62, n_52, n_53, n_54, n_55, n_56, n_57, n_58, n_59, n_60, n_61, n_62, ix1, ix2, ix3, ix4, ix5, ix6, ix7, Nat.add_zero, ofn, x88, F_k isF1, F_k isF13, F_k isF25, F_k1 isF1, F_k1 isF13, F_k1 isF25, F_l1 isF1, F_l1 isF13, F_l1 isF25, F_r0 isF1, F_r0 isF13, F_r0 isF25, F_r1 isF1, F_r1 isF13, F_r1 isF25, F_k2 isF1, F_k2 isF13, F_k2 isF25, F_l2 isF1, F_l2 isF13, F_l2 isF25, F_rg isF1, F_rg isF13, F_rg isF25, F_kg isF1, F_kg isF13, F_kg isF25]
  refine c_becomeAs isF13 isF1 (by omega) hp ok (fun hi2 a b => ?_)
  simp (disch := omega) only [b_E_tryOn_0, b_E_tryOn_11, b_E_tryOn_19, true_and, and_true, true_implies, false_implies, not_true_eq_false, not_false_eq_true, eq_self, or_true, true_or, false_or, or_false, false_and, and_false, Option.toList_some, Option.toList_none, List.cons_append, List.nil_append, n10, n01, e10, e01, e08, e18, e28, e38, e48, e58, e68, e78, exI, exL, ↓fd0, ↓fd1, ↓fd2, ↓fd3, ↓fd4, ↓fd5, ↓fd6, ↓m1e, lt_lit, nI_add, pk_mul, n_le, n_lt, n_eq, n_cl, n_in, n_sub, n_div, n_rem, n_ite, Nat.zero_add, r_0_0, r_0_1, r_0_2, r_0_4, r_0_5, r_0_6, r_0_7, r_37_0, r_39_0, r_40_0, k_0, k_1, k_13, k_25, k_37, k_38, k_39, k_40, k_41, k_42, n_38, n_41, n_42, r_51_0, r_51_1, r_51_2, r_51_4, r_51_6, r_51_13, r_51_14, r_51_18, r_51_19, r_51_20, r_51_21, k_51, k_52, k_53, k_54, k_55, k_56, k_57, k_58, k_59, k_60, k_61, k_62, n_52, n_53, n_54, n_55, n_56, n_57, n_58, n_59, n_60, n_61, n_62, ix1, ix2, ix3, ix4, ix5, ix6, ix7, Nat.add_zero, ofn, x88, F_k isF1, F_k isF13, F_k isF25, F_k1 isF1, F_k1 isF13, F_k1 isF25, F_l1 isF1, F_l1 isF13, F_l1 isF25, F_r0 isF1, F_r0 isF13, F_r0 isF25, F_r1 isF1, F_r1 isF13, F_r1 isF25, F_k2 isF1, F_k2 isF13, F_k2 isF25, F_l2 isF1, F_l2 isF13, F_l2 isF25, F_rg isF1, F_rg isF13, F_rg isF25, F_kg isF1, F_kg isF13, F_kg isF25]
  refine c_goOn isF13 a ok hn (by omega) hB (fun hi3 a3 b3 => ?_)
  simp (disch := omega) only [b_E_tryOn_0, b_E_tryOn_11, b_E_tryOn_19, true_and, and_true, true_implies, false_implies, not_true_eq_false, not_false_eq_true, eq_self, or_true, true_or, false_or, or_false, false_and, and_false, Option.toList_some, Option.toList_none, List.cons_append, List.nil_append, n10, n01, e10, e01, e08, e18, e28, e38, e48, e58, e68, e78, exI, exL, ↓fd0, ↓fd1, ↓fd2, ↓fd3, ↓fd4, ↓fd5, ↓fd6, ↓m1e, lt_lit, nI_add, pk_mul, n_le, n_lt, n_eq, n_cl, n_in, n_sub, n_div, n_rem, n_ite, Nat.zero_add, r_0_0, r_0_1, r_0_2, r_0_4, r_0_5, r_0_6, r_0_7, r_37_0, r_39_0, r_40_0, k_0, k_1, k_13, k_25, k_37, k_38, k_39, k_40, k_41, k_42, n_38, n_41, n_42, r_51_0, r_51_1, r_51_2, r_51_4, r_51_6, r_51_13, r_51_14, r_51_18, r_51_19, r_51_20, r_51_21, k_51, k_52, k_53, k_54, k_55, k_56, k_57, k_58, k_59, k_60, k_61, k_62, n_52, n_53, n_54, n_55, n_56, n_57, n_58, n_59, n_60, n_61, n_62, ix1, ix2, ix3, ix4, ix5, ix6, ix7, Nat.add_zero, ofn, x88, F_k isF1, F_k isF13, F_k isF25, F_k1 isF1, F_k1 isF13, F_k1 isF25, F_l1 isF1, F_l1 isF13, F_l1 isF25, F_r0 isF1, F_r0 isF13, F_r0 isF25, F_r1 isF1, F_r1 isF13, F_r1 isF25, F_k2 isF1, F_k2 isF13, F_k2 isF25, F_l2 isF1, F_l2 isF13, F_l2 isF25, F_rg isF1, F_rg isF13, F_rg isF25, F_kg isF1, F_kg isF13, F_kg isF25]
  exact ⟨rfl, h _ a3 (b.trans b3)⟩
end E1
