/-! 50.field -/
/-! a field of the class as a row of numbers -/
def isF (f : Nat) : Prop := f = 1 ∨ f = 13 ∨ f = 25
def lh (f k : Nat) : Nat := if k < 64 then f + 1 else if k < 69 then f else f + 3 + (k - 69) / 8
def lj (k : Nat) : Nat := if k < 64 then k else if k = 64 then 4 else if k = 65 then 5 else if k = 66 then 6 else if k = 67 then 3 else if k = 68 then 2 else (k - 69) % 8
def Fp (hi : HI) (f : Nat) (A : Nat → Nat) : Prop := ∀ k, k < 69 + 8 * A 68 → hi (lh f k) (lj k) = nI (A k)
theorem lhj_inj {f k k' : Nat} (h : lh f k' = lh f k) (h2 : lj k' = lj k) : k' = k := by
  unfold lh at h; unfold lj at h2
  (repeat' split at h) <;> (repeat' split at h2) <;> omega
theorem Fp.upk {hi : HI} {f k v : Nat} {A : Nat → Nat} (h : Fp hi f A) (hk : k ≠ 68) : Fp (up2 hi (lh f k) (lj k) (nI v)) f (up A k v) := by
  intro j hj
  rw [up_ne A (show (68 : Nat) ≠ k from fun q => hk q.symm)] at hj
  by_cases q : j = k
  · subst q; rw [u2_eq, up_eq]
  · rw [up_ne A q, ← h j hj]
    by_cases q2 : lh f j = lh f k
    · rw [q2, u2_nk (fun q3 => q (lhj_inj q2 q3))]
    · rw [u2_nh q2]
theorem lh_p {f k : Nat} (h : k < 64) : lh f k = f + 1 := by unfold lh; rw [if_pos h]
theorem lj_p {k : Nat} (h : k < 64) : lj k = k := by unfold lj; rw [if_pos h]
theorem lh_g {f g j : Nat} (h : j < 8) : lh f (69 + 8 * g + j) = f + 3 + g := by
  unfold lh; rw [if_neg (by omega), if_neg (by omega)]; omega
theorem lj_g {g j : Nat} (h : j < 8) : lj (69 + 8 * g + j) = j := by
  unfold lj; rw [if_neg (by omega), if_neg (by omega), if_neg (by omega), if_neg (by omega), if_neg (by omega), if_neg (by omega)]; omega
theorem Fp.p {hi : HI} {f : Nat} {A : Nat → Nat} (h : Fp hi f A) {k : Nat} (hk : k < 64) : hi (f + 1) k = nI (A k) := by
  have := h k (by omega); rwa [lh_p hk, lj_p hk] at this
theorem Fp.g {hi : HI} {f : Nat} {A : Nat → Nat} (h : Fp hi f A) {g j : Nat} (hg : g < A 68) (hj : j < 8) : hi (f + 3 + g) j = nI (A (69 + 8 * g + j)) := by
  have := h (69 + 8 * g + j) (by omega); rwa [lh_g hj, lj_g hj] at this
theorem Fp.s4 {hi : HI} {f : Nat} {A : Nat → Nat} (h : Fp hi f A) : hi f 4 = nI (A 64) := h 64 (by omega)
theorem Fp.s5 {hi : HI} {f : Nat} {A : Nat → Nat} (h : Fp hi f A) : hi f 5 = nI (A 65) := h 65 (by omega)
theorem Fp.s6 {hi : HI} {f : Nat} {A : Nat → Nat} (h : Fp hi f A) : hi f 6 = nI (A 66) := h 66 (by omega)
theorem Fp.s3 {hi : HI} {f : Nat} {A : Nat → Nat} (h : Fp hi f A) : hi f 3 = nI (A 67) := h 67 (by omega)
theorem Fp.s2 {hi : HI} {f : Nat} {A : Nat → Nat} (h : Fp hi f A) : hi f 2 = nI (A 68) := h 68 (by omega)
theorem Fp.upp {hi : HI} {f k v : Nat} {A : Nat → Nat} (h : Fp hi f A) (hk : k < 64) : Fp (up2 hi (f + 1) k (nI v)) f (up A k v) := by
  have := h.upk (k := k) (v := v) (by omega); rwa [lh_p hk, lj_p hk] at this
theorem Fp.upg {hi : HI} {f g j v : Nat} {A : Nat → Nat} (h : Fp hi f A) (hj : j < 8) : Fp (up2 hi (f + 3 + g) j (nI v)) f (up A (69 + 8 * g + j) v) := by
  have := h.upk (k := 69 + 8 * g + j) (v := v) (by omega); rwa [lh_g hj, lj_g hj] at this
theorem Fp.up4 {hi : HI} {f v : Nat} {A : Nat → Nat} (h : Fp hi f A) : Fp (up2 hi f 4 (nI v)) f (up A 64 v) := h.upk (k := 64) (by omega)
theorem Fp.up5 {hi : HI} {f v : Nat} {A : Nat → Nat} (h : Fp hi f A) : Fp (up2 hi f 5 (nI v)) f (up A 65 v) := h.upk (k := 65) (by omega)
theorem Fp.up6 {hi : HI} {f v : Nat} {A : Nat → Nat} (h : Fp hi f A) : Fp (up2 hi f 6 (nI v)) f (up A 66 v) := h.upk (k := 66) (by omega)
theorem Fp.up3 {hi : HI} {f v : Nat} {A : Nat → Nat} (h : Fp hi f A) : Fp (up2 hi f 3 (nI v)) f (up A 67 v) := h.upk (k := 67) (by omega)
/-- only the field f changes -/
def fF (f : Nat) (hi hi' : HI) : Prop := ∀ o, (o < f ∨ f + 12 ≤ o) → hi' o = hi o
theorem fF.refl (f : Nat) (hi : HI) : fF f hi hi := fun _ _ => rfl
theorem fF.trans {f : Nat} {a b c : HI} (h : fF f a b) (h2 : fF f b c) : fF f a c := fun o ho => (h2 o ho).trans (h o ho)
theorem fF.up {f : Nat} {a b : HI} (h : fF f a b) {o j : Nat} {v : Int32} (ho : f ≤ o ∧ o < f + 12) : fF f a (up2 b o j v) := fun p hp => by
  rw [← h p hp]; funext i; exact u2_nh (by omega)
theorem F_k {f : Nat} (h : isF f) : kd f = 0 := by rcases h with h | h | h <;> subst h <;> decide
theorem F_k1 {f : Nat} (h : isF f) : kd (f + 1) = 8 := by rcases h with h | h | h <;> subst h <;> decide
theorem F_l1 {f : Nat} (h : isF f) : ln (f + 1) = 64 := by rcases h with h | h | h <;> subst h <;> decide
theorem F_r0 {f : Nat} (h : isF f) : rf f 0 = f + 1 := by rcases h with h | h | h <;> subst h <;> decide
theorem F_r1 {f : Nat} (h : isF f) : rf f 1 = f + 2 := by rcases h with h | h | h <;> subst h <;> decide
theorem F_k2 {f : Nat} (h : isF f) : (11 ≤ kd (f + 2) ∧ kd (f + 2) ≤ 13) = True := by rcases h with h | h | h <;> subst h <;> decide
theorem F_l2 {f : Nat} (h : isF f) : ln (f + 2) = 9 := by rcases h with h | h | h <;> subst h <;> decide
theorem F_rg {f g : Nat} (h : isF f) (hg : g < 9) : rf (f + 2) g = f + 3 + g := by
  have : g = 0 ∨ g = 1 ∨ g = 2 ∨ g = 3 ∨ g = 4 ∨ g = 5 ∨ g = 6 ∨ g = 7 ∨ g = 8 := by omega
  rcases h with h | h | h <;> subst h <;> rcases this with h | h | h | h | h | h | h | h | h <;> subst h <;> decide
theorem F_kg {f g : Nat} (h : isF f) (hg : g < 9) : kd (f + 3 + g) = 1 := by
  have : g = 0 ∨ g = 1 ∨ g = 2 ∨ g = 3 ∨ g = 4 ∨ g = 5 ∨ g = 6 ∨ g = 7 ∨ g = 8 := by omega
  rcases h with h | h | h <;> subst h <;> rcases this with h | h | h | h | h | h | h | h | h <;> subst h <;> decide
/-! 51.fld -/
theorem ix1 (g : Nat) : 69 + 8 * g + 1 = 70 + 8 * g := by omega
theorem ix2 (g : Nat) : 69 + 8 * g + 2 = 71 + 8 * g := by omega
theorem ix3 (g : Nat) : 69 + 8 * g + 3 = 72 + 8 * g := by omega
theorem ix4 (g : Nat) : 69 + 8 * g + 4 = 73 + 8 * g := by omega
theorem ix5 (g : Nat) : 69 + 8 * g + 5 = 74 + 8 * g := by omega
theorem ix6 (g : Nat) : 69 + 8 * g + 6 = 75 + 8 * g := by omega
theorem ix7 (g : Nat) : 69 + 8 * g + 7 = 76 + 8 * g := by omega
theorem x88 : (8 ≤ 8 ∧ 8 ≤ 13) = True := by decide
theorem ofn (n : Nat) : Int32.ofNat n = nI n := id rfl
section R1
variable {hi : HI} {f g v : Nat} {A : Nat → Nat}
theorem Fp.r0 (h : Fp hi f A) (hg : g < A 68) : hi (f + 3 + g) 0 = nI (A (69 + 8 * g)) := h.g (j := 0) hg (by omega)
theorem Fp.r1 (h : Fp hi f A) (hg : g < A 68) : hi (f + 3 + g) 1 = nI (A (70 + 8 * g)) := by rw [h.g (j := 1) hg (by omega), ix1]
theorem Fp.r2 (h : Fp hi f A) (hg : g < A 68) : hi (f + 3 + g) 2 = nI (A (71 + 8 * g)) := by rw [h.g (j := 2) hg (by omega), ix2]
theorem Fp.r3 (h : Fp hi f A) (hg : g < A 68) : hi (f + 3 + g) 3 = nI (A (72 + 8 * g)) := by rw [h.g (j := 3) hg (by omega), ix3]
theorem Fp.r4 (h : Fp hi f A) (hg : g < A 68) : hi (f + 3 + g) 4 = nI (A (73 + 8 * g)) := by rw [h.g (j := 4) hg (by omega), ix4]
theorem Fp.r5 (h : Fp hi f A) (hg : g < A 68) : hi (f + 3 + g) 5 = nI (A (74 + 8 * g)) := by rw [h.g (j := 5) hg (by omega), ix5]
theorem Fp.r6 (h : Fp hi f A) (hg : g < A 68) : hi (f + 3 + g) 6 = nI (A (75 + 8 * g)) := by rw [h.g (j := 6) hg (by omega), ix6]
theorem Fp.r7 (h : Fp hi f A) (hg : g < A 68) : hi (f + 3 + g) 7 = nI (A (76 + 8 * g)) := by rw [h.g (j := 7) hg (by omega), ix7]
theorem Fp.ug0 (h : Fp hi f A) : Fp (up2 hi (f + 3 + g) 0 (nI v)) f (up A (69 + 8 * g) v) := h.upg (j := 0) (by omega)
theorem Fp.ug1 (h : Fp hi f A) : Fp (up2 hi (f + 3 + g) 1 (nI v)) f (up A (70 + 8 * g) v) := by have := h.upg (g := g) (j := 1) (v := v) (by omega); rwa [ix1] at this
theorem Fp.ug2 (h : Fp hi f A) : Fp (up2 hi (f + 3 + g) 2 (nI v)) f (up A (71 + 8 * g) v) := by have := h.upg (g := g) (j := 2) (v := v) (by omega); rwa [ix2] at this
theorem Fp.ug3 (h : Fp hi f A) : Fp (up2 hi (f + 3 + g) 3 (nI v)) f (up A (72 + 8 * g) v) := by have := h.upg (g := g) (j := 3) (v := v) (by omega); rwa [ix3] at this
theorem Fp.ug4 (h : Fp hi f A) : Fp (up2 hi (f + 3 + g) 4 (nI v)) f (up A (73 + 8 * g) v) := by have := h.upg (g := g) (j := 4) (v := v) (by omega); rwa [ix4] at this
theorem Fp.ug5 (h : Fp hi f A) : Fp (up2 hi (f + 3 + g) 5 (nI v)) f (up A (74 + 8 * g) v) := by have := h.upg (g := g) (j := 5) (v := v) (by omega); rwa [ix5] at this
theorem Fp.ug6 (h : Fp hi f A) : Fp (up2 hi (f + 3 + g) 6 (nI v)) f (up A (75 + 8 * g) v) := by have := h.upg (g := g) (j := 6) (v := v) (by omega); rwa [ix6] at this
theorem Fp.ug7 (h : Fp hi f A) : Fp (up2 hi (f + 3 + g) 7 (nI v)) f (up A (76 + 8 * g) v) := by have := h.upg (g := g) (j := 7) (v := v) (by omega); rwa [ix7] at this
end R1
section F1
variable {u : UV} {hi : HI} {hl : HL} {K : Option Value → HI → HL → Prop} {A : Nat → Nat} {B f : Nat}
theorem c_earsAt {r p : Nat} (hf : isF f) (hp : Fp hi f A) (hr8 : r < 8) (hp8 : p < 8) (h : K (some (.int (nI (A (8 * r + p))))) hi hl) : Call u 1 [.ref f, .int (nI r), .int (nI p)] hi hl K := by
  refine i_F_earsAt ?_
  simp (disch := omega) only [b_F_earsAt_0, b_F_earsAt_4, b_F_earsAt_7, b_F_earsAt_11, b_F_earsAt_14, b_F_earsAt_28, b_F_earsAt_29, true_and, and_true, true_implies, false_implies, not_true_eq_false, not_false_eq_true, eq_self, or_true, true_or, false_or, or_false, false_and, and_false, Option.toList_some, Option.toList_none, List.cons_append, List.nil_append, n10, n01, e10, e01, e08, e18, e28, e38, e48, e58, e68, e78, lt_lit, nI_add, pk_mul, n_le, n_lt, n_eq, n_cl, n_in, n_sub, n_div, n_rem, n_ite, Nat.zero_add, F_k hf, F_k1 hf, F_l1 hf, F_r0 hf, F_r1 hf, F_k2 hf, F_l2 hf, F_rg hf, F_kg hf]
  refine c_isRow (fun _ => ?_) (fun q => absurd (q_in (by omega) (by omega)) q)
  simp (disch := omega) only [b_F_earsAt_0, b_F_earsAt_4, b_F_earsAt_7, b_F_earsAt_11, b_F_earsAt_14, b_F_earsAt_28, b_F_earsAt_29, true_and, and_true, true_implies, false_implies, not_true_eq_false, not_false_eq_true, eq_self, or_true, true_or, false_or, or_false, false_and, and_false, Option.toList_some, Option.toList_none, List.cons_append, List.nil_append, n10, n01, e10, e01, e08, e18, e28, e38, e48, e58, e68, e78, lt_lit, nI_add, pk_mul, n_le, n_lt, n_eq, n_cl, n_in, n_sub, n_div, n_rem, n_ite, Nat.zero_add, F_k hf, F_k1 hf, F_l1 hf, F_r0 hf, F_r1 hf, F_k2 hf, F_l2 hf, F_rg hf, F_kg hf]
  refine c_isPlace (fun _ => ?_) (fun q => absurd (q_in (by omega) (by omega)) q)
  simp (disch := omega) only [b_F_earsAt_0, b_F_earsAt_4, b_F_earsAt_7, b_F_earsAt_11, b_F_earsAt_14, b_F_earsAt_28, b_F_earsAt_29, true_and, and_true, true_implies, false_implies, not_true_eq_false, not_false_eq_true, eq_self, or_true, true_or, false_or, or_false, false_and, and_false, Option.toList_some, Option.toList_none, List.cons_append, List.nil_append, n10, n01, e10, e01, e08, e18, e28, e38, e48, e58, e68, e78, lt_lit, nI_add, pk_mul, n_le, n_lt, n_eq, n_cl, n_in, n_sub, n_div, n_rem, n_ite, Nat.zero_add, F_k hf, F_k1 hf, F_l1 hf, F_r0 hf, F_r1 hf, F_k2 hf, F_l2 hf, F_rg hf, F_kg hf]
  rw [hp.p (by omega), show r * 8 + p = 8 * r + p by omega]
  exact h
theorem c_putEars {r p v : Nat} (hf : isF f) (hp : Fp hi f A) (hr8 : r < 8) (hp8 : p < 8) (h : ∀ hi', Fp hi' f (up A (8 * r + p) v) → fF f hi hi' → K none hi' hl) : Call u 2 [.ref f, .int (nI r), .int (nI p), .int (nI v)] hi hl K := by
  refine i_F_putEars ?_
  simp (disch := omega) only [b_F_putEars_0, b_F_putEars_4, b_F_putEars_7, b_F_putEars_11, b_F_putEars_14, b_F_putEars_26, true_and, and_true, true_implies, false_implies, not_true_eq_false, not_false_eq_true, eq_self, or_true, true_or, false_or, or_false, false_and, and_false, Option.toList_some, Option.toList_none, List.cons_append, List.nil_append, n10, n01, e10, e01, e08, e18, e28, e38, e48, e58, e68, e78, lt_lit, nI_add, pk_mul, n_le, n_lt, n_eq, n_cl, n_in, n_sub, n_div, n_rem, n_ite, Nat.zero_add, F_k hf, F_k1 hf, F_l1 hf, F_r0 hf, F_r1 hf, F_k2 hf, F_l2 hf, F_rg hf, F_kg hf]
  refine c_isRow (fun _ => ?_) (fun q => absurd (q_in (by omega) (by omega)) q)
  simp (disch := omega) only [b_F_putEars_0, b_F_putEars_4, b_F_putEars_7, b_F_putEars_11, b_F_putEars_14, b_F_putEars_26, true_and, and_true, true_implies, false_implies, not_true_eq_false, not_false_eq_true, eq_self, or_true, true_or, false_or, or_false, false_and, and_false, Option.toList_some, Option.toList_none, List.cons_append, List.nil_append, n10, n01, e10, e01, e08, e18, e28, e38, e48, e58, e68, e78, lt_lit, nI_add, pk_mul, n_le, n_lt, n_eq, n_cl, n_in, n_sub, n_div, n_rem, n_ite, Nat.zero_add, F_k hf, F_k1 hf, F_l1 hf, F_r0 hf, F_r1 hf, F_k2 hf, F_l2 hf, F_rg hf, F_kg hf]
  refine c_isPlace (fun _ => ?_) (fun q => absurd (q_in (by omega) (by omega)) q)
  simp (disch := omega) only [b_F_putEars_0, b_F_putEars_4, b_F_putEars_7, b_F_putEars_11, b_F_putEars_14, b_F_putEars_26, true_and, and_true, true_implies, false_implies, not_true_eq_false, not_false_eq_true, eq_self, or_true, true_or, false_or, or_false, false_and, and_false, Option.toList_some, Option.toList_none, List.cons_append, List.nil_append, n10, n01, e10, e01, e08, e18, e28, e38, e48, e58, e68, e78, lt_lit, nI_add, pk_mul, n_le, n_lt, n_eq, n_cl, n_in, n_sub, n_div, n_rem, n_ite, Nat.zero_add, F_k hf, F_k1 hf, F_l1 hf, F_r0 hf, F_r1 hf, F_k2 hf, F_l2 hf, F_rg hf, F_kg hf]
  rw [show r * 8 + p = 8 * r + p by omega]
  exact ⟨rfl, h _ (hp.upp (by omega)) ((fF.refl f hi).up (by omega))⟩
theorem c_gstep {g : Nat} (hf : isF f) (hp : Fp hi f A) (ok : rowOk B A) (hg : g < A 68) (h : ∀ hi', Fp hi' f (stepN A g) → fF f hi hi' → K none hi' hl) : Call u 27 [.ref (f + 3 + g)] hi hl K := by
  obtain ⟨o1, o2, o3, o4, o5, o6, o7⟩ := ok
  obtain ⟨g1, g2, g3, g4, g5, g6, g7, g8⟩ := o7 g hg
  have fin : ∀ {hi' A'}, Fp hi' f A' → fF f hi hi' → A' = stepN A g → K none hi' hl := fun a b c => h _ (c ▸ a) b
  have fr := fF.refl f hi
  refine i_G_step ?_
  simp (disch := omega) only [b_G_step_0, b_G_step_7, b_G_step_14, b_G_step_27, b_G_step_34, b_G_step_43, b_G_step_56, b_G_step_65, b_G_step_83, b_G_step_87, b_G_step_88, b_G_step_94, b_G_step_99, true_and, and_true, true_implies, false_implies, not_true_eq_false, not_false_eq_true, eq_self, or_true, true_or, false_or, or_false, false_and, and_false, Option.toList_some, Option.toList_none, List.cons_append, List.nil_append, n10, n01, e10, e01, e08, e18, e28, e38, e48, e58, e68, e78, lt_lit, nI_add, pk_mul, n_le, n_lt, n_eq, n_cl, n_in, n_sub, n_div, n_rem, n_ite, Nat.zero_add, F_k hf, F_k1 hf, F_l1 hf, F_r0 hf, F_r1 hf, F_k2 hf, F_l2 hf, F_rg hf, F_kg hf, Fp.s2 hp, Fp.s3 hp, Fp.s4 hp, Fp.s5 hp, Fp.s6 hp, Fp.p hp, Fp.r0 hp, Fp.r1 hp, Fp.r2 hp, Fp.r3 hp, Fp.r4 hp, Fp.r5 hp, Fp.r6 hp, Fp.r7 hp, u2_eq, u2_nk, u2_nh]
  repeat' (first | apply And.intro | intro _)
  all_goals first
    | omega
    | rfl
    | (rw [n_sub (by omega)]; refine fin (hp.ug2) (fr.up (by omega)) ?_; unfold stepN; (repeat' split) <;> first | rfl | (exfalso; omega))
    | (refine fin (hp.ug2) (fr.up (by omega)) ?_; unfold stepN; (repeat' split) <;> first | rfl | (exfalso; omega))
    | (refine fin (hp.ug7) (fr.up (by omega)) ?_; unfold stepN; (repeat' split) <;> first | rfl | (exfalso; omega))
    | (refine fin (hp.ug1.ug6) ((fr.up (by omega)).up (by omega)) ?_; unfold stepN; (repeat' split) <;> first | rfl | (exfalso; omega))
theorem c_clearRow {r : Nat} (hf : isF f) (hp : Fp hi f A) (hr8 : r < 8) (h : ∀ hi', Fp hi' f (wipeN A (8 * r) 8) → fF f hi hi' → K none hi' hl) : Call u 5 [.ref f, .int (nI r)] hi hl K := by
  have loop : ∀ n k hi' A', k + n = 8 → Fp hi' f A' → fF f hi hi' → (∀ hi2, Fp hi2 f (wipeN A' (8 * r + k) n) → fF f hi hi2 → K none hi2 hl) → Wp u 5 9 [.ref f, .int (nI r), .int (nI k)] [] hi' hl K := by
    intro n
    induction n with
    | zero =>
      intro k hi' A' e hp fr h
      refine wv (by decide) ?_
      simp (disch := omega) only [b_F_clearRow_0, b_F_clearRow_4, b_F_clearRow_7, b_F_clearRow_9, b_F_clearRow_15, b_F_clearRow_33, true_and, and_true, true_implies, false_implies, not_true_eq_false, not_false_eq_true, eq_self, or_true, true_or, false_or, or_false, false_and, and_false, Option.toList_some, Option.toList_none, List.cons_append, List.nil_append, n10, n01, e10, e01, e08, e18, e28, e38, e48, e58, e68, e78, lt_lit, nI_add, pk_mul, n_le, n_lt, n_eq, n_cl, n_in, n_sub, n_div, n_rem, n_ite, Nat.zero_add, F_k hf, F_k1 hf, F_l1 hf, F_r0 hf, F_r1 hf, F_k2 hf, F_l2 hf, F_rg hf, F_kg hf]
      exact ⟨fun _ => ⟨rfl, h _ hp fr⟩, fun q => absurd (by omega) q⟩
    | succ n ih =>
      intro k hi' A' e hp fr h
      refine wv (by decide) ?_
      simp (disch := omega) only [b_F_clearRow_0, b_F_clearRow_4, b_F_clearRow_7, b_F_clearRow_9, b_F_clearRow_15, b_F_clearRow_33, true_and, and_true, true_implies, false_implies, not_true_eq_false, not_false_eq_true, eq_self, or_true, true_or, false_or, or_false, false_and, and_false, Option.toList_some, Option.toList_none, List.cons_append, List.nil_append, n10, n01, e10, e01, e08, e18, e28, e38, e48, e58, e68, e78, lt_lit, nI_add, pk_mul, n_le, n_lt, n_eq, n_cl, n_in, n_sub, n_div, n_rem, n_ite, Nat.zero_add, F_k hf, F_k1 hf, F_l1 hf, F_r0 hf, F_r1 hf, F_k2 hf, F_l2 hf, F_rg hf, F_kg hf]
      refine ⟨fun q => absurd q (by omega), fun _ => ?_⟩
      rw [show r * 8 + k = 8 * r + k by omega]
      exact ih (k + 1) _ _ (by omega) (hp.upp (by omega)) (fr.up (by omega)) (fun hi2 a b => h hi2 a b)
  refine i_F_clearRow ?_
  simp (disch := omega) only [b_F_clearRow_0, b_F_clearRow_4, b_F_clearRow_7, b_F_clearRow_9, b_F_clearRow_15, b_F_clearRow_33, true_and, and_true, true_implies, false_implies, not_true_eq_false, not_false_eq_true, eq_self, or_true, true_or, false_or, or_false, false_and, and_false, Option.toList_some, Option.toList_none, List.cons_append, List.nil_append, n10, n01, e10, e01, e08, e18, e28, e38, e48, e58, e68, e78, lt_lit, nI_add, pk_mul, n_le, n_lt, n_eq, n_cl, n_in, n_sub, n_div, n_rem, n_ite, Nat.zero_add, F_k hf, F_k1 hf, F_l1 hf, F_r0 hf, F_r1 hf, F_k2 hf, F_l2 hf, F_rg hf, F_kg hf]
  refine c_isRow (fun _ => ?_) (fun q => absurd (q_in (by omega) (by omega)) q)
  simp (disch := omega) only [b_F_clearRow_0, b_F_clearRow_4, b_F_clearRow_7, b_F_clearRow_9, b_F_clearRow_15, b_F_clearRow_33, true_and, and_true, true_implies, false_implies, not_true_eq_false, not_false_eq_true, eq_self, or_true, true_or, false_or, or_false, false_and, and_false, Option.toList_some, Option.toList_none, List.cons_append, List.nil_append, n10, n01, e10, e01, e08, e18, e28, e38, e48, e58, e68, e78, lt_lit, nI_add, pk_mul, n_le, n_lt, n_eq, n_cl, n_in, n_sub, n_div, n_rem, n_ite, Nat.zero_add, F_k hf, F_k1 hf, F_l1 hf, F_r0 hf, F_r1 hf, F_k2 hf, F_l2 hf, F_rg hf, F_kg hf]
  exact loop 8 0 hi A (by omega) hp (fF.refl f hi) h
theorem c_ftakeAll (hf : isF f) (hp : Fp hi f A) (ok : rowOk B A) (hB : B + 909 < 100000000) (h : ∀ hi', Fp hi' f (takeAll all1 0 (A 68) A) → fF f hi hi' → K (some (.int (nI (tookAll all1 0 (A 68) A)))) hi' hl) : Call u 13 [.ref f] hi hl K := by
  have loop : ∀ n g t B' A' hi' l3 l4 l5 l6, g + n = A' 68 → B' + 101 * n < 100000000 → t ≤ 101 * g → Fp hi' f A' → rowOk B' A' → fF f hi hi' → (∀ hi2, Fp hi2 f (takeAll all1 g n A') → fF f hi hi2 → K (some (.int (nI (t + tookAll all1 g n A')))) hi2 hl) → Wp u 13 4 [.ref f, .int (nI t), .int (nI g), l3, l4, l5, l6] [] hi' hl K := by
    intro n
    induction n with
    | zero =>
      intro g t B' A' hi' l3 l4 l5 l6 e hB ht hp ok fr h
      have o6 := ok.2.2.2.2.2.1
      refine wv (by decide) ?_
      simp (disch := omega) only [b_F_takeAll_0, b_F_takeAll_4, b_F_takeAll_12, b_F_takeAll_40, b_F_takeAll_45, b_F_takeAll_55, b_F_takeAll_69, b_F_takeAll_82, b_F_takeAll_147, b_F_takeAll_153, true_and, and_true, true_implies, false_implies, not_true_eq_false, not_false_eq_true, eq_self, or_true, true_or, false_or, or_false, false_and, and_false, Option.toList_some, Option.toList_none, List.cons_append, List.nil_append, n10, n01, e10, e01, e08, e18, e28, e38, e48, e58, e68, e78, lt_lit, nI_add, pk_mul, n_le, n_lt, n_eq, n_cl, n_in, n_sub, n_div, n_rem, n_ite, Nat.zero_add, F_k hf, F_k1 hf, F_l1 hf, F_r0 hf, F_r1 hf, F_k2 hf, F_l2 hf, F_rg hf, F_kg hf, Fp.s2 hp]
      exact ⟨fun _ => h _ hp fr, fun q => absurd (by omega) q⟩
    | succ n ih =>
      intro g t B' A' hi' l3 l4 l5 l6 e hB ht hp ok fr h
      have hg : g < A' 68 := by omega
      have hat := ok.at hg
      have ht1 := tk1_le ok hg
      have hd1 := dr1_le A' g
      have s := same4_take (g := g) hat
      have okt := ok.take hg
      obtain ⟨o1, o2, o3, o4, o5, o6, o7⟩ := ok
      obtain ⟨g1, g2, g3, g4, g5, g6, g7, g8⟩ := o7 g hg
      have ha99 := o1 _ hat
      have hsh : tk1 A' g ≤ A' (atN A' g) := share_le _ _
      have hdr : dr1 A' g ≤ A' 67 := by unfold dr1; omega
      have hpl := pull_le (A' (69 + 8 * g)) (A' 64)
      have eat : A' (70 + 8 * g) * 8 + A' (71 + 8 * g) = atN A' g := by unfold atN; omega
      have etk : shareN (A' (69 + 8 * g)) (A' (atN A' g)) = tk1 A' g := id rfl
      have edr : (if A' 67 < pullN (A' (69 + 8 * g)) (A' 64) then A' 67 else pullN (A' (69 + 8 * g)) (A' 64)) = dr1 A' g := by unfold dr1; split <;> omega
      refine wv (by decide) ?_
      simp (disch := omega) only [b_F_takeAll_0, b_F_takeAll_4, b_F_takeAll_12, b_F_takeAll_40, b_F_takeAll_45, b_F_takeAll_55, b_F_takeAll_69, b_F_takeAll_82, b_F_takeAll_147, b_F_takeAll_153, true_and, and_true, true_implies, false_implies, not_true_eq_false, not_false_eq_true, eq_self, or_true, true_or, false_or, or_false, false_and, and_false, Option.toList_some, Option.toList_none, List.cons_append, List.nil_append, n10, n01, e10, e01, e08, e18, e28, e38, e48, e58, e68, e78, lt_lit, nI_add, pk_mul, n_le, n_lt, n_eq, n_cl, n_in, n_sub, n_div, n_rem, n_ite, Nat.zero_add, F_k hf, F_k1 hf, F_l1 hf, F_r0 hf, F_r1 hf, F_k2 hf, F_l2 hf, F_rg hf, F_kg hf, Fp.s2 hp, Fp.s3 hp, Fp.s4 hp, Fp.s5 hp, Fp.s6 hp, Fp.p hp, Fp.r0 hp, Fp.r1 hp, Fp.r2 hp, Fp.r3 hp, Fp.r4 hp, Fp.r5 hp, Fp.r6 hp, Fp.r7 hp, u2_eq, u2_nk, u2_nh, ix1, ix2, ix3, ix4, ix5, ix6, ix7, Nat.add_zero, ofn, x88, eat]
      refine ⟨fun q => absurd q (by omega), fun _ => ⟨fun q => ?_, fun q => ⟨fun q2 => absurd q2 (by omega), fun _ => ⟨fun q3 => absurd q3 (by omega), fun _ => ?_⟩⟩⟩⟩
      · refine ih (g + 1) t B' A' hi' _ _ _ _ (by omega) (by omega) (by omega) hp ⟨o1, o2, o3, o4, o5, o6, o7⟩ fr (fun hi2 a b => ?_)
        rw [takeAll, if_neg (fun z => q z.2), tookAll, if_neg (fun z => q z.2)] at h
        exact h hi2 a b
      · refine c_share (by omega) (by omega) ?_
        simp (disch := omega) only [b_F_takeAll_0, b_F_takeAll_4, b_F_takeAll_12, b_F_takeAll_40, b_F_takeAll_45, b_F_takeAll_55, b_F_takeAll_69, b_F_takeAll_82, b_F_takeAll_147, b_F_takeAll_153, true_and, and_true, true_implies, false_implies, not_true_eq_false, not_false_eq_true, eq_self, or_true, true_or, false_or, or_false, false_and, and_false, Option.toList_some, Option.toList_none, List.cons_append, List.nil_append, n10, n01, e10, e01, e08, e18, e28, e38, e48, e58, e68, e78, lt_lit, nI_add, pk_mul, n_le, n_lt, n_eq, n_cl, n_in, n_sub, n_div, n_rem, n_ite, Nat.zero_add, F_k hf, F_k1 hf, F_l1 hf, F_r0 hf, F_r1 hf, F_k2 hf, F_l2 hf, F_rg hf, F_kg hf, Fp.s2 hp, Fp.s3 hp, Fp.s4 hp, Fp.s5 hp, Fp.s6 hp, Fp.p hp, Fp.r0 hp, Fp.r1 hp, Fp.r2 hp, Fp.r3 hp, Fp.r4 hp, Fp.r5 hp, Fp.r6 hp, Fp.r7 hp, u2_eq, u2_nk, u2_nh, ix1, ix2, ix3, ix4, ix5, ix6, ix7, Nat.add_zero, ofn, x88, eat, etk]
        refine c_pull (by omega) (by omega) ?_
        simp (disch := omega) only [b_F_takeAll_0, b_F_takeAll_4, b_F_takeAll_12, b_F_takeAll_40, b_F_takeAll_45, b_F_takeAll_55, b_F_takeAll_69, b_F_takeAll_82, b_F_takeAll_147, b_F_takeAll_153, true_and, and_true, true_implies, false_implies, not_true_eq_false, not_false_eq_true, eq_self, or_true, true_or, false_or, or_false, false_and, and_false, Option.toList_some, Option.toList_none, List.cons_append, List.nil_append, n10, n01, e10, e01, e08, e18, e28, e38, e48, e58, e68, e78, lt_lit, nI_add, pk_mul, n_le, n_lt, n_eq, n_cl, n_in, n_sub, n_div, n_rem, n_ite, Nat.zero_add, F_k hf, F_k1 hf, F_l1 hf, F_r0 hf, F_r1 hf, F_k2 hf, F_l2 hf, F_rg hf, F_kg hf, Fp.s2 hp, Fp.s3 hp, Fp.s4 hp, Fp.s5 hp, Fp.s6 hp, Fp.p hp, Fp.r0 hp, Fp.r1 hp, Fp.r2 hp, Fp.r3 hp, Fp.r4 hp, Fp.r5 hp, Fp.r6 hp, Fp.r7 hp, u2_eq, u2_nk, u2_nh, ix1, ix2, ix3, ix4, ix5, ix6, ix7, Nat.add_zero, ofn, x88, eat, etk, edr]
        refine ih (g + 1) _ (B' + 101) (take A' g) _ _ _ _ _ (by rw [s.2.2.2]; omega) (by omega) (by omega) (hp.upp hat).up3.ug4.ug5 okt ((((fr.up (by omega)).up (by omega)).up (by omega)).up (by omega)) (fun hi2 a b => ?_)
        rw [takeAll, if_pos ⟨rfl, q⟩, tookAll, if_pos ⟨rfl, q⟩, ← Nat.add_assoc] at h
        exact h hi2 a b
  refine i_F_takeAll ?_
  simp (disch := omega) only [b_F_takeAll_0, b_F_takeAll_4, b_F_takeAll_12, b_F_takeAll_40, b_F_takeAll_45, b_F_takeAll_55, b_F_takeAll_69, b_F_takeAll_82, b_F_takeAll_147, b_F_takeAll_153, true_and, and_true, true_implies, false_implies, not_true_eq_false, not_false_eq_true, eq_self, or_true, true_or, false_or, or_false, false_and, and_false, Option.toList_some, Option.toList_none, List.cons_append, List.nil_append, n10, n01, e10, e01, e08, e18, e28, e38, e48, e58, e68, e78, lt_lit, nI_add, pk_mul, n_le, n_lt, n_eq, n_cl, n_in, n_sub, n_div, n_rem, n_ite, Nat.zero_add, F_k hf, F_k1 hf, F_l1 hf, F_r0 hf, F_r1 hf, F_k2 hf, F_l2 hf, F_rg hf, F_kg hf]
  have h9 := ok.2.2.2.2.2.1
  refine loop (A 68) 0 0 B A hi _ _ _ _ (by omega) (by omega) (by omega) hp ok (fF.refl f hi) (fun hi2 a b => ?_)
  rw [Nat.zero_add]; exact h hi2 a b
theorem c_fgoAll (hf : isF f) (hp : Fp hi f A) (ok : rowOk B A) (h : ∀ hi', Fp hi' f (goAll all1 0 (A 68) A) → fF f hi hi' → K none hi' hl) : Call u 14 [.ref f] hi hl K := by
  have loop : ∀ n g A' hi' l2 l3 l4, g + n = A' 68 → Fp hi' f A' → rowOk B A' → fF f hi hi' → (∀ hi2, Fp hi2 f (goAll all1 g n A') → fF f hi hi2 → K none hi2 hl) → Wp u 14 2 [.ref f, .int (nI g), l2, l3, l4] [] hi' hl K := by
    intro n
    induction n with
    | zero =>
      intro g A' hi' l2 l3 l4 e hp ok fr h
      have o6 := ok.2.2.2.2.2.1
      refine wv (by decide) ?_
      simp (disch := omega) only [b_F_goAll_0, b_F_goAll_2, b_F_goAll_10, b_F_goAll_28, b_F_goAll_32, b_F_goAll_38, b_F_goAll_45, b_F_goAll_49, b_F_goAll_55, b_F_goAll_61, true_and, and_true, true_implies, false_implies, not_true_eq_false, not_false_eq_true, eq_self, or_true, true_or, false_or, or_false, false_and, and_false, Option.toList_some, Option.toList_none, List.cons_append, List.nil_append, n10, n01, e10, e01, e08, e18, e28, e38, e48, e58, e68, e78, lt_lit, nI_add, pk_mul, n_le, n_lt, n_eq, n_cl, n_in, n_sub, n_div, n_rem, n_ite, Nat.zero_add, F_k hf, F_k1 hf, F_l1 hf, F_r0 hf, F_r1 hf, F_k2 hf, F_l2 hf, F_rg hf, F_kg hf, Fp.s2 hp]
      exact ⟨fun _ => ⟨rfl, h _ hp fr⟩, fun q => absurd (by omega) q⟩
    | succ n ih =>
      intro g A' hi' l2 l3 l4 e hp ok fr h
      have hg : g < A' 68 := by omega
      have o2 := ok.2.1
      have o6 := ok.2.2.2.2.2.1
      have g1 := (ok.2.2.2.2.2.2 g hg).1
      have inner : ∀ (m k p : Nat) (A2 : Nat → Nat) (hi2 : HI), k + m = p → p ≤ 2 → same4 A' A2 → Fp hi2 f A2 → rowOk B A2 → fF f hi hi2 → (∀ hi3 l3 l4, Fp hi3 f (steps all1 g m A2) → fF f hi hi3 → Wp u 14 2 [.ref f, .int (nI (g + 1)), .ref (f + 3 + g), l3, l4] [] hi3 hl K) → Wp u 14 32 [.ref f, .int (nI g), .ref (f + 3 + g), .int (nI p), .int (nI k)] [] hi2 hl K := by
        intro m
        induction m with
        | zero =>
          intro k p A2 hi2 e2 hp2 s hp ok fr h
          refine wv (by decide) ?_
          simp (disch := omega) only [b_F_goAll_0, b_F_goAll_2, b_F_goAll_10, b_F_goAll_28, b_F_goAll_32, b_F_goAll_38, b_F_goAll_45, b_F_goAll_49, b_F_goAll_55, b_F_goAll_61, true_and, and_true, true_implies, false_implies, not_true_eq_false, not_false_eq_true, eq_self, or_true, true_or, false_or, or_false, false_and, and_false, Option.toList_some, Option.toList_none, List.cons_append, List.nil_append, n10, n01, e10, e01, e08, e18, e28, e38, e48, e58, e68, e78, lt_lit, nI_add, pk_mul, n_le, n_lt, n_eq, n_cl, n_in, n_sub, n_div, n_rem, n_ite, Nat.zero_add, F_k hf, F_k1 hf, F_l1 hf, F_r0 hf, F_r1 hf, F_k2 hf, F_l2 hf, F_rg hf, F_kg hf]
          exact ⟨fun _ => h _ _ _ hp fr, fun q => absurd (by omega) q⟩
        | succ m ihm =>
          intro k p A2 hi2 e2 hp2 s hp ok fr h
          have hg2 : g < A2 68 := by rw [s.2.2.2]; exact hg
          have g8 := (ok.2.2.2.2.2.2 g hg2).2.2.2.2.2.2.2
          refine wv (by decide) ?_
          simp (disch := omega) only [b_F_goAll_0, b_F_goAll_2, b_F_goAll_10, b_F_goAll_28, b_F_goAll_32, b_F_goAll_38, b_F_goAll_45, b_F_goAll_49, b_F_goAll_55, b_F_goAll_61, true_and, and_true, true_implies, false_implies, not_true_eq_false, not_false_eq_true, eq_self, or_true, true_or, false_or, or_false, false_and, and_false, Option.toList_some, Option.toList_none, List.cons_append, List.nil_append, n10, n01, e10, e01, e08, e18, e28, e38, e48, e58, e68, e78, lt_lit, nI_add, pk_mul, n_le, n_lt, n_eq, n_cl, n_in, n_sub, n_div, n_rem, n_ite, Nat.zero_add, F_k hf, F_k1 hf, F_l1 hf, F_r0 hf, F_r1 hf, F_k2 hf, F_l2 hf, F_rg hf, F_kg hf, Fp.s2 hp, Fp.s3 hp, Fp.s4 hp, Fp.s5 hp, Fp.s6 hp, Fp.p hp, Fp.r0 hp, Fp.r1 hp, Fp.r2 hp, Fp.r3 hp, Fp.r4 hp, Fp.r5 hp, Fp.r6 hp, Fp.r7 hp]
          refine ⟨fun q => absurd q (by omega), fun _ => ⟨fun q => ?_, fun q => ?_⟩⟩
          · rw [steps, if_neg (fun z => q z.2)] at h
            exact h _ _ _ hp fr
          · refine c_gstep hf hp ok hg2 (fun hi3 a b => ?_)
            simp (disch := omega) only [b_F_goAll_0, b_F_goAll_2, b_F_goAll_10, b_F_goAll_28, b_F_goAll_32, b_F_goAll_38, b_F_goAll_45, b_F_goAll_49, b_F_goAll_55, b_F_goAll_61, true_and, and_true, true_implies, false_implies, not_true_eq_false, not_false_eq_true, eq_self, or_true, true_or, false_or, or_false, false_and, and_false, Option.toList_some, Option.toList_none, List.cons_append, List.nil_append, n10, n01, e10, e01, e08, e18, e28, e38, e48, e58, e68, e78, lt_lit, nI_add, pk_mul, n_le, n_lt, n_eq, n_cl, n_in, n_sub, n_div, n_rem, n_ite, Nat.zero_add, F_k hf, F_k1 hf, F_l1 hf, F_r0 hf, F_r1 hf, F_k2 hf, F_l2 hf, F_rg hf, F_kg hf]
            refine ihm (k + 1) p (stepN A2 g) hi3 (by omega) hp2 (s.trans same4_step) a (ok.step hg2) (fr.trans b) ?_
            rw [steps, if_pos ⟨rfl, q⟩] at h
            exact h
      have pc : paceN (A' (69 + 8 * g)) (A' 64) ≤ 2 := by unfold paceN; (repeat' split) <;> omega
      obtain ⟨ok2, s2⟩ := steps_ok all1 g (paceN (A' (69 + 8 * g)) (A' 64)) (A := A') hg ok
      refine wv (by decide) ?_
      simp (disch := omega) only [b_F_goAll_0, b_F_goAll_2, b_F_goAll_10, b_F_goAll_28, b_F_goAll_32, b_F_goAll_38, b_F_goAll_45, b_F_goAll_49, b_F_goAll_55, b_F_goAll_61, true_and, and_true, true_implies, false_implies, not_true_eq_false, not_false_eq_true, eq_self, or_true, true_or, false_or, or_false, false_and, and_false, Option.toList_some, Option.toList_none, List.cons_append, List.nil_append, n10, n01, e10, e01, e08, e18, e28, e38, e48, e58, e68, e78, lt_lit, nI_add, pk_mul, n_le, n_lt, n_eq, n_cl, n_in, n_sub, n_div, n_rem, n_ite, Nat.zero_add, F_k hf, F_k1 hf, F_l1 hf, F_r0 hf, F_r1 hf, F_k2 hf, F_l2 hf, F_rg hf, F_kg hf, Fp.s2 hp, Fp.s3 hp, Fp.s4 hp, Fp.s5 hp, Fp.s6 hp, Fp.p hp, Fp.r0 hp, Fp.r1 hp, Fp.r2 hp, Fp.r3 hp, Fp.r4 hp, Fp.r5 hp, Fp.r6 hp, Fp.r7 hp]
      refine ⟨fun q => absurd q (by omega), fun _ => ?_⟩
      refine c_pace (by omega) (by omega) ?_
      simp (disch := omega) only [b_F_goAll_0, b_F_goAll_2, b_F_goAll_10, b_F_goAll_28, b_F_goAll_32, b_F_goAll_38, b_F_goAll_45, b_F_goAll_49, b_F_goAll_55, b_F_goAll_61, true_and, and_true, true_implies, false_implies, not_true_eq_false, not_false_eq_true, eq_self, or_true, true_or, false_or, or_false, false_and, and_false, Option.toList_some, Option.toList_none, List.cons_append, List.nil_append, n10, n01, e10, e01, e08, e18, e28, e38, e48, e58, e68, e78, lt_lit, nI_add, pk_mul, n_le, n_lt, n_eq, n_cl, n_in, n_sub, n_div, n_rem, n_ite, Nat.zero_add, F_k hf, F_k1 hf, F_l1 hf, F_r0 hf, F_r1 hf, F_k2 hf, F_l2 hf, F_rg hf, F_kg hf, Fp.s2 hp, Fp.s3 hp, Fp.s4 hp, Fp.s5 hp, Fp.s6 hp, Fp.p hp, Fp.r0 hp, Fp.r1 hp, Fp.r2 hp, Fp.r3 hp, Fp.r4 hp, Fp.r5 hp, Fp.r6 hp, Fp.r7 hp]
      refine inner (paceN (A' (69 + 8 * g)) (A' 64)) 0 (paceN (A' (69 + 8 * g)) (A' 64)) A' hi' (by omega) pc (same4.refl A') hp ok fr (fun hi3 l3 l4 a b => ?_)
      refine ih (g + 1) _ hi3 _ l3 l4 (by rw [s2.2.2.2]; omega) a ok2 b (fun hi4 c d => ?_)
      rw [goAll] at h
      exact h hi4 c d
  refine i_F_goAll ?_
  simp (disch := omega) only [b_F_goAll_0, b_F_goAll_2, b_F_goAll_10, b_F_goAll_28, b_F_goAll_32, b_F_goAll_38, b_F_goAll_45, b_F_goAll_49, b_F_goAll_55, b_F_goAll_61, true_and, and_true, true_implies, false_implies, not_true_eq_false, not_false_eq_true, eq_self, or_true, true_or, false_or, or_false, false_and, and_false, Option.toList_some, Option.toList_none, List.cons_append, List.nil_append, n10, n01, e10, e01, e08, e18, e28, e38, e48, e58, e68, e78, lt_lit, nI_add, pk_mul, n_le, n_lt, n_eq, n_cl, n_in, n_sub, n_div, n_rem, n_ite, Nat.zero_add, F_k hf, F_k1 hf, F_l1 hf, F_r0 hf, F_r1 hf, F_k2 hf, F_l2 hf, F_rg hf, F_kg hf]
  exact loop (A 68) 0 A hi _ _ _ (by omega) hp ok (fF.refl f hi) h
end F1
/-! 52.fpass -/
section F2
variable {u : UV} {hi : HI} {hl : HL} {K : Option Value → HI → HL → Prop} {A : Nat → Nat} {B f : Nat}
theorem c_passMinute (hf : isF f) (hp : Fp hi f A) (ok : rowOk B A) (hB : B + 909 < 100000000) (h : ∀ hi', Fp hi' f (minN all1 A) → fF f hi hi' → K (some (.int (nI (tookN all1 A)))) hi' hl) : Call u 12 [.ref f] hi hl K := by
  have o2 := ok.2.1
  have o3 := ok.2.2.1
  have o4 := ok.2.2.2.1
  obtain ⟨okg, sg⟩ := geese_ok ok
  have J : ∀ n hi' l1, Fp hi' f (geeseN A) → fF f hi hi' → vc u (n + 50) 12 21 [.ref f, l1] [] hi' hl K := by
    intro n hi' l1 hg fr
    obtain ⟨s1, s2, s3, s4⟩ := sg
    simp (disch := omega) only [b_F_passMinute_0, b_F_passMinute_11, b_F_passMinute_16, b_F_passMinute_21, b_F_passMinute_34, b_F_passMinute_38, b_F_passMinute_43, true_and, and_true, true_implies, false_implies, not_true_eq_false, not_false_eq_true, eq_self, or_true, true_or, false_or, or_false, false_and, and_false, Option.toList_some, Option.toList_none, List.cons_append, List.nil_append, n10, n01, e10, e01, e08, e18, e28, e38, e48, e58, e68, e78, lt_lit, nI_add, pk_mul, n_le, n_lt, n_eq, n_cl, n_in, n_sub, n_div, n_rem, n_ite, Nat.zero_add, F_k hf, F_k1 hf, F_l1 hf, F_r0 hf, F_r1 hf, F_k2 hf, F_l2 hf, F_rg hf, F_kg hf, Fp.s2 hg, Fp.s3 hg, Fp.s4 hg, Fp.s5 hg, Fp.s6 hg, Fp.p hg, Fp.r0 hg, Fp.r1 hg, Fp.r2 hg, Fp.r3 hg, Fp.r4 hg, Fp.r5 hg, Fp.r6 hg, Fp.r7 hg, u2_eq, u2_nk, u2_nh, s1, s2]
    refine ⟨fun q => ?_, fun q => ?_⟩
    · rw [tookN, if_pos q, minN, openN, s1, s2, if_pos q] at h
      exact h _ hg.up4 (fr.up (by omega))
    · refine c_ftakeAll hf hg okg hB (fun hi2 a b => ?_)
      obtain ⟨c, d, e⟩ := takeAll_ok all1 (geeseN A 68) (A := geeseN A) (g := 0) (by omega) okg
      simp (disch := omega) only [b_F_passMinute_0, b_F_passMinute_11, b_F_passMinute_16, b_F_passMinute_21, b_F_passMinute_34, b_F_passMinute_38, b_F_passMinute_43, true_and, and_true, true_implies, false_implies, not_true_eq_false, not_false_eq_true, eq_self, or_true, true_or, false_or, or_false, false_and, and_false, Option.toList_some, Option.toList_none, List.cons_append, List.nil_append, n10, n01, e10, e01, e08, e18, e28, e38, e48, e58, e68, e78, lt_lit, nI_add, pk_mul, n_le, n_lt, n_eq, n_cl, n_in, n_sub, n_div, n_rem, n_ite, Nat.zero_add, F_k hf, F_k1 hf, F_l1 hf, F_r0 hf, F_r1 hf, F_k2 hf, F_l2 hf, F_rg hf, F_kg hf, Fp.s2 hg, Fp.s3 hg, Fp.s4 hg, Fp.s5 hg, Fp.s6 hg, Fp.p hg, Fp.r0 hg, Fp.r1 hg, Fp.r2 hg, Fp.r3 hg, Fp.r4 hg, Fp.r5 hg, Fp.r6 hg, Fp.r7 hg, u2_eq, u2_nk, u2_nh, s1, s2]
      refine c_fgoAll hf a c (fun hi3 a3 b3 => ?_)
      obtain ⟨c4, d4⟩ := goAll_ok all1 (takeAll all1 0 (geeseN A 68) (geeseN A) 68) (A := takeAll all1 0 (geeseN A 68) (geeseN A)) (g := 0) (by omega) c
      have e1 : hi3 f 4 = nI (A 64) := by rw [a3.s4, d4.1, d.1, s1]
      simp (disch := omega) only [b_F_passMinute_0, b_F_passMinute_11, b_F_passMinute_16, b_F_passMinute_21, b_F_passMinute_34, b_F_passMinute_38, b_F_passMinute_43, true_and, and_true, true_implies, false_implies, not_true_eq_false, not_false_eq_true, eq_self, or_true, true_or, false_or, or_false, false_and, and_false, Option.toList_some, Option.toList_none, List.cons_append, List.nil_append, n10, n01, e10, e01, e08, e18, e28, e38, e48, e58, e68, e78, lt_lit, nI_add, pk_mul, n_le, n_lt, n_eq, n_cl, n_in, n_sub, n_div, n_rem, n_ite, Nat.zero_add, F_k hf, F_k1 hf, F_l1 hf, F_r0 hf, F_r1 hf, F_k2 hf, F_l2 hf, F_rg hf, F_kg hf, e1]
      rw [tookN, if_neg q, minN, openN, s1, s2, if_neg q, s4] at h
      rw [d.2.2.2, s4] at a3
      rw [s4]
      exact h _ a3.up4 (((fr.trans b).trans b3).up (by omega))
  refine i_F_passMinute ?_
  simp (disch := omega) only [b_F_passMinute_0, b_F_passMinute_11, b_F_passMinute_16, b_F_passMinute_34, b_F_passMinute_38, b_F_passMinute_43, true_and, and_true, true_implies, false_implies, not_true_eq_false, not_false_eq_true, eq_self, or_true, true_or, false_or, or_false, false_and, and_false, Option.toList_some, Option.toList_none, List.cons_append, List.nil_append, n10, n01, e10, e01, e08, e18, e28, e38, e48, e58, e68, e78, lt_lit, nI_add, pk_mul, n_le, n_lt, n_eq, n_cl, n_in, n_sub, n_div, n_rem, n_ite, Nat.zero_add, F_k hf, F_k1 hf, F_l1 hf, F_r0 hf, F_r1 hf, F_k2 hf, F_l2 hf, F_rg hf, F_kg hf, Fp.s2 hp, Fp.s3 hp, Fp.s4 hp, Fp.s5 hp, Fp.s6 hp, Fp.p hp, Fp.r0 hp, Fp.r1 hp, Fp.r2 hp, Fp.r3 hp, Fp.r4 hp, Fp.r5 hp, Fp.r6 hp, Fp.r7 hp]
  refine ⟨fun q => J _ _ _ (by unfold geeseN; rw [if_neg q]; exact hp) (fF.refl f hi), fun q => ?_⟩
  refine c_clearRow (r := 0) hf hp (by omega) (fun hi1 a1 b1 => ?_)
  simp (disch := omega) only [b_F_passMinute_0, b_F_passMinute_11, b_F_passMinute_16, b_F_passMinute_34, b_F_passMinute_38, b_F_passMinute_43, true_and, and_true, true_implies, false_implies, not_true_eq_false, not_false_eq_true, eq_self, or_true, true_or, false_or, or_false, false_and, and_false, Option.toList_some, Option.toList_none, List.cons_append, List.nil_append, n10, n01, e10, e01, e08, e18, e28, e38, e48, e58, e68, e78, lt_lit, nI_add, pk_mul, n_le, n_lt, n_eq, n_cl, n_in, n_sub, n_div, n_rem, n_ite, Nat.zero_add, F_k hf, F_k1 hf, F_l1 hf, F_r0 hf, F_r1 hf, F_k2 hf, F_l2 hf, F_rg hf, F_kg hf]
  refine c_clearRow (r := 1) hf a1 (by omega) (fun hi2 a2 b2 => ?_)
  simp (disch := omega) only [b_F_passMinute_0, b_F_passMinute_11, b_F_passMinute_16, b_F_passMinute_34, b_F_passMinute_38, b_F_passMinute_43, true_and, and_true, true_implies, false_implies, not_true_eq_false, not_false_eq_true, eq_self, or_true, true_or, false_or, or_false, false_and, and_false, Option.toList_some, Option.toList_none, List.cons_append, List.nil_append, n10, n01, e10, e01, e08, e18, e28, e38, e48, e58, e68, e78, lt_lit, nI_add, pk_mul, n_le, n_lt, n_eq, n_cl, n_in, n_sub, n_div, n_rem, n_ite, Nat.zero_add, F_k hf, F_k1 hf, F_l1 hf, F_r0 hf, F_r1 hf, F_k2 hf, F_l2 hf, F_rg hf, F_kg hf]
  refine J _ _ _ ?_ (b1.trans b2)
  unfold geeseN
  rw [if_pos q]
  exact a2
theorem c_goOn {n : Nat} (hf : isF f) (hp : Fp hi f A) (ok : rowOk B A) (hn : n ≤ 200) (hA : A 64 + n ≤ 10200) (hB : B + 909 * n < 100000000) (h : ∀ hi', Fp hi' f (minsN all1 n A) → fF f hi hi' → K (some (.int (nI (tooksN all1 n A)))) hi' hl) : Call u 9 [.ref f, .int (nI n)] hi hl K := by
  have loop : ∀ m k t A' B' hi', k + m = n → t ≤ 909 * k → A' 64 + m ≤ 10200 → B' + 909 * m < 100000000 → Fp hi' f A' → rowOk B' A' → fF f hi hi' → (∀ hi2, Fp hi2 f (minsN all1 m A') → fF f hi hi2 → K (some (.int (nI (t + tooksN all1 m A')))) hi2 hl) → Wp u 9 4 [.ref f, .int (nI n), .int (nI t), .int (nI k)] [] hi' hl K := by
    intro m
    induction m with
    | zero =>
      intro k t A' B' hi' e ht hA hB hp ok fr h
      refine wv (by decide) ?_
      simp (disch := omega) only [b_F_goOn_0, b_F_goOn_4, b_F_goOn_9, b_F_goOn_14, b_F_goOn_22, true_and, and_true, true_implies, false_implies, not_true_eq_false, not_false_eq_true, eq_self, or_true, true_or, false_or, or_false, false_and, and_false, Option.toList_some, Option.toList_none, List.cons_append, List.nil_append, n10, n01, e10, e01, e08, e18, e28, e38, e48, e58, e68, e78, lt_lit, nI_add, pk_mul, n_le, n_lt, n_eq, n_cl, n_in, n_sub, n_div, n_rem, n_ite, Nat.zero_add, F_k hf, F_k1 hf, F_l1 hf, F_r0 hf, F_r1 hf, F_k2 hf, F_l2 hf, F_rg hf, F_kg hf]
      exact ⟨fun _ => h _ hp fr, fun q => absurd (by omega) q⟩
    | succ m ih =>
      intro k t A' B' hi' e ht hA hB hp ok fr h
      refine wv (by decide) ?_
      simp (disch := omega) only [b_F_goOn_0, b_F_goOn_4, b_F_goOn_9, b_F_goOn_14, b_F_goOn_22, true_and, and_true, true_implies, false_implies, not_true_eq_false, not_false_eq_true, eq_self, or_true, true_or, false_or, or_false, false_and, and_false, Option.toList_some, Option.toList_none, List.cons_append, List.nil_append, n10, n01, e10, e01, e08, e18, e28, e38, e48, e58, e68, e78, lt_lit, nI_add, pk_mul, n_le, n_lt, n_eq, n_cl, n_in, n_sub, n_div, n_rem, n_ite, Nat.zero_add, F_k hf, F_k1 hf, F_l1 hf, F_r0 hf, F_r1 hf, F_k2 hf, F_l2 hf, F_rg hf, F_kg hf]
      refine ⟨fun q => absurd q (by omega), fun _ => ?_⟩
      have hB2 : B' + 909 < 100000000 := Nat.lt_of_le_of_lt (Nat.add_le_add_left (by omega : 909 ≤ 909 * (m + 1)) B') hB
      refine c_passMinute hf hp ok hB2 (fun hi2 a b => ?_)
      obtain ⟨m1, m2, m3, m4, m5, m6⟩ := min_ok all1 ok (by omega)
      simp (disch := omega) only [b_F_goOn_0, b_F_goOn_4, b_F_goOn_9, b_F_goOn_14, b_F_goOn_22, true_and, and_true, true_implies, false_implies, not_true_eq_false, not_false_eq_true, eq_self, or_true, true_or, false_or, or_false, false_and, and_false, Option.toList_some, Option.toList_none, List.cons_append, List.nil_append, n10, n01, e10, e01, e08, e18, e28, e38, e48, e58, e68, e78, lt_lit, nI_add, pk_mul, n_le, n_lt, n_eq, n_cl, n_in, n_sub, n_div, n_rem, n_ite, Nat.zero_add, F_k hf, F_k1 hf, F_l1 hf, F_r0 hf, F_r1 hf, F_k2 hf, F_l2 hf, F_rg hf, F_kg hf]
      refine ih (k + 1) _ (minN all1 A') (B' + 909) hi2 (by omega) (by omega) (by omega) (by omega) a m1 (fr.trans b) (fun hi3 c d => ?_)
      rw [minsN, tooksN, ← Nat.add_assoc] at h
      exact h hi3 c d
  refine i_F_goOn ?_
  simp (disch := omega) only [b_F_goOn_0, b_F_goOn_4, b_F_goOn_9, b_F_goOn_14, b_F_goOn_22, true_and, and_true, true_implies, false_implies, not_true_eq_false, not_false_eq_true, eq_self, or_true, true_or, false_or, or_false, false_and, and_false, Option.toList_some, Option.toList_none, List.cons_append, List.nil_append, n10, n01, e10, e01, e08, e18, e28, e38, e48, e58, e68, e78, lt_lit, nI_add, pk_mul, n_le, n_lt, n_eq, n_cl, n_in, n_sub, n_div, n_rem, n_ite, Nat.zero_add, F_k hf, F_k1 hf, F_l1 hf, F_r0 hf, F_r1 hf, F_k2 hf, F_l2 hf, F_rg hf, F_kg hf]
  refine loop n 0 0 A B hi (by omega) (by omega) hA hB hp ok (fF.refl f hi) (fun hi2 a b => ?_)
  rw [Nat.zero_add]; exact h hi2 a b
theorem c_isAny (hf : isF f) (hp : Fp hi f A) (ok : rowOk B A) (h1 : someN all1 A = true → K (some (.int 1)) hi hl) (h0 : ¬ someN all1 A = true → K (some (.int 0)) hi hl) : Call u 11 [.ref f] hi hl K := by
  have o6 := ok.2.2.2.2.2.1
  have o7 := ok.2.2.2.2.2.2
  have loop : ∀ m k, k + m = A 68 → (anyN (workN all1 A) k m = true → K (some (.int 1)) hi hl) → (¬ anyN (workN all1 A) k m = true → K (some (.int 0)) hi hl) → Wp u 11 2 [.ref f, .int (nI k)] [] hi hl K := by
    intro m
    induction m with
    | zero =>
      intro k e1 h1 h0
      refine wv (by decide) ?_
      simp (disch := omega) only [b_F_isAnyOnTheWay_0, b_F_isAnyOnTheWay_2, b_F_isAnyOnTheWay_10, b_F_isAnyOnTheWay_22, b_F_isAnyOnTheWay_24, b_F_isAnyOnTheWay_30, true_and, and_true, true_implies, false_implies, not_true_eq_false, not_false_eq_true, eq_self, or_true, true_or, false_or, or_false, false_and, and_false, Option.toList_some, Option.toList_none, List.cons_append, List.nil_append, n10, n01, e10, e01, e08, e18, e28, e38, e48, e58, e68, e78, lt_lit, nI_add, pk_mul, n_le, n_lt, n_eq, n_cl, n_in, n_sub, n_div, n_rem, n_ite, Nat.zero_add, F_k hf, F_k1 hf, F_l1 hf, F_r0 hf, F_r1 hf, F_k2 hf, F_l2 hf, F_rg hf, F_kg hf, Fp.s2 hp, Fp.s3 hp, Fp.s4 hp, Fp.s5 hp, Fp.s6 hp, Fp.p hp, Fp.r0 hp, Fp.r1 hp, Fp.r2 hp, Fp.r3 hp, Fp.r4 hp, Fp.r5 hp, Fp.r6 hp, Fp.r7 hp]
      exact ⟨fun _ => h0 (by simp [anyN]), fun q => absurd (by omega) q⟩
    | succ m ih =>
      intro k e1 h1 h0
      have g8 := (o7 k (by omega)).2.2.2.2.2.2.2
      refine wv (by decide) ?_
      simp (disch := omega) only [b_F_isAnyOnTheWay_0, b_F_isAnyOnTheWay_2, b_F_isAnyOnTheWay_10, b_F_isAnyOnTheWay_22, b_F_isAnyOnTheWay_24, b_F_isAnyOnTheWay_30, true_and, and_true, true_implies, false_implies, not_true_eq_false, not_false_eq_true, eq_self, or_true, true_or, false_or, or_false, false_and, and_false, Option.toList_some, Option.toList_none, List.cons_append, List.nil_append, n10, n01, e10, e01, e08, e18, e28, e38, e48, e58, e68, e78, lt_lit, nI_add, pk_mul, n_le, n_lt, n_eq, n_cl, n_in, n_sub, n_div, n_rem, n_ite, Nat.zero_add, F_k hf, F_k1 hf, F_l1 hf, F_r0 hf, F_r1 hf, F_k2 hf, F_l2 hf, F_rg hf, F_kg hf, Fp.s2 hp, Fp.s3 hp, Fp.s4 hp, Fp.s5 hp, Fp.s6 hp, Fp.p hp, Fp.r0 hp, Fp.r1 hp, Fp.r2 hp, Fp.r3 hp, Fp.r4 hp, Fp.r5 hp, Fp.r6 hp, Fp.r7 hp]
      refine ⟨fun q => absurd q (by omega), fun _ => ⟨fun q => ?_, fun q => ?_⟩⟩
      · have hf : workN all1 A k = false := by simp [workN, q]
        refine ih (k + 1) (by omega) (fun q => h1 ?_) (fun q => h0 ?_)
        · rw [anyN, hf, Bool.false_or]; exact q
        · rw [anyN, hf, Bool.false_or]; exact q
      · exact h1 (by simp [anyN, workN, all1, q])
  refine i_F_isAnyOnTheWay ?_
  simp (disch := omega) only [b_F_isAnyOnTheWay_0, b_F_isAnyOnTheWay_2, b_F_isAnyOnTheWay_10, b_F_isAnyOnTheWay_22, b_F_isAnyOnTheWay_24, b_F_isAnyOnTheWay_30, true_and, and_true, true_implies, false_implies, not_true_eq_false, not_false_eq_true, eq_self, or_true, true_or, false_or, or_false, false_and, and_false, Option.toList_some, Option.toList_none, List.cons_append, List.nil_append, n10, n01, e10, e01, e08, e18, e28, e38, e48, e58, e68, e78, lt_lit, nI_add, pk_mul, n_le, n_lt, n_eq, n_cl, n_in, n_sub, n_div, n_rem, n_ite, Nat.zero_add, F_k hf, F_k1 hf, F_l1 hf, F_r0 hf, F_r1 hf, F_k2 hf, F_l2 hf, F_rg hf, F_kg hf]
  exact loop (A 68) 0 (by omega) h1 h0
theorem c_goToEnd (hf : isF f) (hp : Fp hi f A) (ok : rowOk B A) (hA : A 64 ≤ 9999) (hB : B < 99000000) (h : ∀ hi', Fp hi' f (endN all1 200 A) → fF f hi hi' → K none hi' hl) : Call u 10 [.ref f] hi hl K := by
  have loop : ∀ m k A' B' hi', k + m = 200 → A' 64 + m ≤ 10200 → B' + 909 * m < 100000000 → Fp hi' f A' → rowOk B' A' → fF f hi hi' → (∀ hi2, Fp hi2 f (endN all1 m A') → fF f hi hi2 → K none hi2 hl) → Wp u 10 2 [.ref f, .int (nI k)] [] hi' hl K := by
    intro m
    induction m with
    | zero =>
      intro k A' B' hi' e hA hB hp ok fr h
      refine wv (by decide) ?_
      simp (disch := omega) only [b_F_goToEnd_0, b_F_goToEnd_2, b_F_goToEnd_9, b_F_goToEnd_13, b_F_goToEnd_16, b_F_goToEnd_20, b_F_goToEnd_27, true_and, and_true, true_implies, false_implies, not_true_eq_false, not_false_eq_true, eq_self, or_true, true_or, false_or, or_false, false_and, and_false, Option.toList_some, Option.toList_none, List.cons_append, List.nil_append, n10, n01, e10, e01, e08, e18, e28, e38, e48, e58, e68, e78, lt_lit, nI_add, pk_mul, n_le, n_lt, n_eq, n_cl, n_in, n_sub, n_div, n_rem, n_ite, Nat.zero_add, F_k hf, F_k1 hf, F_l1 hf, F_r0 hf, F_r1 hf, F_k2 hf, F_l2 hf, F_rg hf, F_kg hf]
      exact ⟨fun _ => ⟨rfl, h _ hp fr⟩, fun q => absurd (by omega) q⟩
    | succ m ih =>
      intro k A' B' hi' e hA hB hp ok fr h
      refine wv (by decide) ?_
      simp (disch := omega) only [b_F_goToEnd_0, b_F_goToEnd_2, b_F_goToEnd_9, b_F_goToEnd_13, b_F_goToEnd_16, b_F_goToEnd_20, b_F_goToEnd_27, true_and, and_true, true_implies, false_implies, not_true_eq_false, not_false_eq_true, eq_self, or_true, true_or, false_or, or_false, false_and, and_false, Option.toList_some, Option.toList_none, List.cons_append, List.nil_append, n10, n01, e10, e01, e08, e18, e28, e38, e48, e58, e68, e78, lt_lit, nI_add, pk_mul, n_le, n_lt, n_eq, n_cl, n_in, n_sub, n_div, n_rem, n_ite, Nat.zero_add, F_k hf, F_k1 hf, F_l1 hf, F_r0 hf, F_r1 hf, F_k2 hf, F_l2 hf, F_rg hf, F_kg hf]
      refine ⟨fun q => absurd q (by omega), fun _ => ?_⟩
      refine c_isAny hf hp ok (fun q => ?_) (fun q => ?_)
      · simp (disch := omega) only [b_F_goToEnd_0, b_F_goToEnd_2, b_F_goToEnd_9, b_F_goToEnd_13, b_F_goToEnd_16, b_F_goToEnd_20, b_F_goToEnd_27, true_and, and_true, true_implies, false_implies, not_true_eq_false, not_false_eq_true, eq_self, or_true, true_or, false_or, or_false, false_and, and_false, Option.toList_some, Option.toList_none, List.cons_append, List.nil_append, n10, n01, e10, e01, e08, e18, e28, e38, e48, e58, e68, e78, lt_lit, nI_add, pk_mul, n_le, n_lt, n_eq, n_cl, n_in, n_sub, n_div, n_rem, n_ite, Nat.zero_add, F_k hf, F_k1 hf, F_l1 hf, F_r0 hf, F_r1 hf, F_k2 hf, F_l2 hf, F_rg hf, F_kg hf]
        have hB2 : B' + 909 < 100000000 := Nat.lt_of_le_of_lt (Nat.add_le_add_left (by omega : 909 ≤ 909 * (m + 1)) B') hB
        refine c_passMinute hf hp ok hB2 (fun hi2 a b => ?_)
        obtain ⟨m1, m2, m3, m4, m5, m6⟩ := min_ok all1 ok (by omega)
        simp (disch := omega) only [b_F_goToEnd_0, b_F_goToEnd_2, b_F_goToEnd_9, b_F_goToEnd_13, b_F_goToEnd_16, b_F_goToEnd_20, b_F_goToEnd_27, true_and, and_true, true_implies, false_implies, not_true_eq_false, not_false_eq_true, eq_self, or_true, true_or, false_or, or_false, false_and, and_false, Option.toList_some, Option.toList_none, List.cons_append, List.nil_append, n10, n01, e10, e01, e08, e18, e28, e38, e48, e58, e68, e78, lt_lit, nI_add, pk_mul, n_le, n_lt, n_eq, n_cl, n_in, n_sub, n_div, n_rem, n_ite, Nat.zero_add, F_k hf, F_k1 hf, F_l1 hf, F_r0 hf, F_r1 hf, F_k2 hf, F_l2 hf, F_rg hf, F_kg hf]
        refine ih (k + 1) (minN all1 A') (B' + 909) hi2 (by omega) (by omega) (by omega) a m1 (fr.trans b) (fun hi3 c d => ?_)
        rw [endN, if_pos q] at h
        exact h hi3 c d
      · simp (disch := omega) only [b_F_goToEnd_0, b_F_goToEnd_2, b_F_goToEnd_9, b_F_goToEnd_13, b_F_goToEnd_16, b_F_goToEnd_20, b_F_goToEnd_27, true_and, and_true, true_implies, false_implies, not_true_eq_false, not_false_eq_true, eq_self, or_true, true_or, false_or, or_false, false_and, and_false, Option.toList_some, Option.toList_none, List.cons_append, List.nil_append, n10, n01, e10, e01, e08, e18, e28, e38, e48, e58, e68, e78, lt_lit, nI_add, pk_mul, n_le, n_lt, n_eq, n_cl, n_in, n_sub, n_div, n_rem, n_ite, Nat.zero_add, F_k hf, F_k1 hf, F_l1 hf, F_r0 hf, F_r1 hf, F_k2 hf, F_l2 hf, F_rg hf, F_kg hf]
        rw [endN, if_neg q] at h
        exact ⟨rfl, h _ hp fr⟩
  refine i_F_goToEnd ?_
  simp (disch := omega) only [b_F_goToEnd_0, b_F_goToEnd_2, b_F_goToEnd_9, b_F_goToEnd_13, b_F_goToEnd_16, b_F_goToEnd_20, b_F_goToEnd_27, true_and, and_true, true_implies, false_implies, not_true_eq_false, not_false_eq_true, eq_self, or_true, true_or, false_or, or_false, false_and, and_false, Option.toList_some, Option.toList_none, List.cons_append, List.nil_append, n10, n01, e10, e01, e08, e18, e28, e38, e48, e58, e68, e78, lt_lit, nI_add, pk_mul, n_le, n_lt, n_eq, n_cl, n_in, n_sub, n_div, n_rem, n_ite, Nat.zero_add, F_k hf, F_k1 hf, F_l1 hf, F_r0 hf, F_r1 hf, F_k2 hf, F_l2 hf, F_rg hf, F_kg hf]
  exact loop 200 0 A B hi (by omega) (by omega) (by omega) hp ok (fF.refl f hi) h
end F2
/-! 53.fsum -/
theorem smN_app (p : Nat → Nat) (m : Nat) : ∀ (a n : Nat), smN p a (m + n) = smN p a m + smN p (a + m) n := by
  induction m with
  | zero => intro a n; rw [Nat.zero_add, smN, Nat.zero_add, Nat.add_zero]
  | succ m ih => intro a n; rw [show m + 1 + n = (m + n) + 1 by omega, smN, smN, ih, show a + 1 + m = a + (m + 1) by omega, Nat.add_assoc]
theorem smN_le (p : Nat → Nat) (c : Nat) (n : Nat) : ∀ (a : Nat), (∀ k, a ≤ k → k < a + n → p k ≤ c) → smN p a n ≤ c * n := by
  induction n with
  | zero => intro a _; exact Nat.zero_le _
  | succ n ih =>
    intro a h
    have h1 := h a (Nat.le_refl _) (by omega)
    have h2 := ih (a + 1) (fun k x y => h k (by omega) (by omega))
    rw [smN, Nat.mul_add, Nat.mul_one]
    omega
theorem smN_cong {p q : Nat → Nat} (n : Nat) : ∀ (a : Nat), (∀ k, a ≤ k → k < a + n → p k = q k) → smN p a n = smN q a n := by
  induction n with
  | zero => intro a _; rfl
  | succ n ih => intro a h; rw [smN, smN, h a (Nat.le_refl _) (by omega), ih (a + 1) (fun k x y => h k (by omega) (by omega))]
def bunN (A : Nat → Nat) : Nat := smN (fun g => A (73 + 8 * g)) 0 (A 68)
def cutN (A : Nat → Nat) : Nat := smN (fun g => A (74 + 8 * g)) 0 (A 68)
def dnN (A : Nat → Nat) : Nat := smN (fun g => A (76 + 8 * g)) 0 (A 68)
def cntH (A : Nat → Nat) (h : Nat) : Nat := smN (fun g => if A (72 + 8 * g) = h then 1 else 0) 0 (A 68)
def bunH (A : Nat → Nat) (h : Nat) : Nat := smN (fun g => if A (72 + 8 * g) = h then A (73 + 8 * g) else 0) 0 (A 68)
def shH (A : Nat → Nat) (h : Nat) : Nat := if cntH A h = 0 then 0 else bunH A h / cntH A h
def fillN (A : Nat → Nat) (v : Nat) : Nat → Nat := fun k => if k < 64 then v else A k
def addN (A : Nat → Nat) (k r p h b : Nat) : Nat → Nat := fun j =>
  if j = 68 then A 68 + 1 else if j = 69 + 8 * A 68 then k else if j = 70 + 8 * A 68 then r else if j = 71 + 8 * A 68 then p else if j = 72 + 8 * A 68 then h else if j = 73 + 8 * A 68 then 0 else if j = 74 + 8 * A 68 then 0 else if j = 75 + 8 * A 68 then b else if j = 76 + 8 * A 68 then 0 else A j
section F3
variable {u : UV} {hi : HI} {hl : HL} {K : Option Value → HI → HL → Prop} {A : Nat → Nat} {B f : Nat}
theorem c_earsOfRow {r : Nat} (hf : isF f) (hp : Fp hi f A) (hok : ∀ k, k < 64 → A k ≤ 99) (hr8 : r < 8) (h : K (some (.int (nI (smN A (8 * r) 8)))) hi hl) : Call u 3 [.ref f, .int (nI r)] hi hl K := by
  have loop : ∀ n p s, p + n = 8 → s ≤ 100 * p → K (some (.int (nI (s + smN A (8 * r + p) n)))) hi hl → Wp u 3 4 [.ref f, .int (nI r), .int (nI s), .int (nI p)] [] hi hl K := by
    intro n
    induction n with
    | zero =>
      intro p s e hs h
      refine wv (by decide) ?_
      simp (disch := omega) only [b_F_earsOfRow_0, b_F_earsOfRow_4, b_F_earsOfRow_10, b_F_earsOfRow_17, b_F_earsOfRow_25, true_and, and_true, true_implies, false_implies, not_true_eq_false, not_false_eq_true, eq_self, or_true, true_or, false_or, or_false, false_and, and_false, Option.toList_some, Option.toList_none, List.cons_append, List.nil_append, n10, n01, e10, e01, e08, e18, e28, e38, e48, e58, e68, e78, lt_lit, nI_add, pk_mul, n_le, n_lt, n_eq, n_cl, n_in, n_sub, n_div, n_rem, n_ite, Nat.zero_add, F_k hf, F_k1 hf, F_l1 hf, F_r0 hf, F_r1 hf, F_k2 hf, F_l2 hf, F_rg hf, F_kg hf]
      exact ⟨fun _ => h, fun q => absurd (by omega) q⟩
    | succ n ih =>
      intro p s e hs h
      refine wv (by decide) ?_
      simp (disch := omega) only [b_F_earsOfRow_0, b_F_earsOfRow_4, b_F_earsOfRow_10, b_F_earsOfRow_17, b_F_earsOfRow_25, true_and, and_true, true_implies, false_implies, not_true_eq_false, not_false_eq_true, eq_self, or_true, true_or, false_or, or_false, false_and, and_false, Option.toList_some, Option.toList_none, List.cons_append, List.nil_append, n10, n01, e10, e01, e08, e18, e28, e38, e48, e58, e68, e78, lt_lit, nI_add, pk_mul, n_le, n_lt, n_eq, n_cl, n_in, n_sub, n_div, n_rem, n_ite, Nat.zero_add, F_k hf, F_k1 hf, F_l1 hf, F_r0 hf, F_r1 hf, F_k2 hf, F_l2 hf, F_rg hf, F_kg hf]
      refine ⟨fun q => absurd q (by omega), fun _ => ?_⟩
      refine c_earsAt hf hp hr8 (by omega) ?_
      simp (disch := omega) only [b_F_earsOfRow_0, b_F_earsOfRow_4, b_F_earsOfRow_10, b_F_earsOfRow_17, b_F_earsOfRow_25, true_and, and_true, true_implies, false_implies, not_true_eq_false, not_false_eq_true, eq_self, or_true, true_or, false_or, or_false, false_and, and_false, Option.toList_some, Option.toList_none, List.cons_append, List.nil_append, n10, n01, e10, e01, e08, e18, e28, e38, e48, e58, e68, e78, lt_lit, nI_add, pk_mul, n_le, n_lt, n_eq, n_cl, n_in, n_sub, n_div, n_rem, n_ite, Nat.zero_add, F_k hf, F_k1 hf, F_l1 hf, F_r0 hf, F_r1 hf, F_k2 hf, F_l2 hf, F_rg hf, F_kg hf]
      have := hok (8 * r + p) (by omega)
      refine ih (p + 1) _ (by omega) (by omega) ?_
      rw [smN, ← Nat.add_assoc] at h; exact h
  refine i_F_earsOfRow ?_
  simp (disch := omega) only [b_F_earsOfRow_0, b_F_earsOfRow_4, b_F_earsOfRow_10, b_F_earsOfRow_17, b_F_earsOfRow_25, true_and, and_true, true_implies, false_implies, not_true_eq_false, not_false_eq_true, eq_self, or_true, true_or, false_or, or_false, false_and, and_false, Option.toList_some, Option.toList_none, List.cons_append, List.nil_append, n10, n01, e10, e01, e08, e18, e28, e38, e48, e58, e68, e78, lt_lit, nI_add, pk_mul, n_le, n_lt, n_eq, n_cl, n_in, n_sub, n_div, n_rem, n_ite, Nat.zero_add, F_k hf, F_k1 hf, F_l1 hf, F_r0 hf, F_r1 hf, F_k2 hf, F_l2 hf, F_rg hf, F_kg hf]
  refine loop 8 0 0 (by omega) (by omega) ?_
  rw [Nat.zero_add]; exact h
theorem c_earsOfAll (hf : isF f) (hp : Fp hi f A) (hok : ∀ k, k < 64 → A k ≤ 99) (h : K (some (.int (nI (smN A 0 64)))) hi hl) : Call u 4 [.ref f] hi hl K := by
  have loop : ∀ n r s, r + n = 8 → s ≤ 800 * r → K (some (.int (nI (s + smN A (8 * r) (8 * n))))) hi hl → Wp u 4 4 [.ref f, .int (nI s), .int (nI r)] [] hi hl K := by
    intro n
    induction n with
    | zero =>
      intro r s e hs h
      refine wv (by decide) ?_
      simp (disch := omega) only [b_F_earsOfAllRows_0, b_F_earsOfAllRows_4, b_F_earsOfAllRows_10, b_F_earsOfAllRows_16, b_F_earsOfAllRows_24, true_and, and_true, true_implies, false_implies, not_true_eq_false, not_false_eq_true, eq_self, or_true, true_or, false_or, or_false, false_and, and_false, Option.toList_some, Option.toList_none, List.cons_append, List.nil_append, n10, n01, e10, e01, e08, e18, e28, e38, e48, e58, e68, e78, lt_lit, nI_add, pk_mul, n_le, n_lt, n_eq, n_cl, n_in, n_sub, n_div, n_rem, n_ite, Nat.zero_add, F_k hf, F_k1 hf, F_l1 hf, F_r0 hf, F_r1 hf, F_k2 hf, F_l2 hf, F_rg hf, F_kg hf]
      exact ⟨fun _ => h, fun q => absurd (by omega) q⟩
    | succ n ih =>
      intro r s e hs h
      refine wv (by decide) ?_
      simp (disch := omega) only [b_F_earsOfAllRows_0, b_F_earsOfAllRows_4, b_F_earsOfAllRows_10, b_F_earsOfAllRows_16, b_F_earsOfAllRows_24, true_and, and_true, true_implies, false_implies, not_true_eq_false, not_false_eq_true, eq_self, or_true, true_or, false_or, or_false, false_and, and_false, Option.toList_some, Option.toList_none, List.cons_append, List.nil_append, n10, n01, e10, e01, e08, e18, e28, e38, e48, e58, e68, e78, lt_lit, nI_add, pk_mul, n_le, n_lt, n_eq, n_cl, n_in, n_sub, n_div, n_rem, n_ite, Nat.zero_add, F_k hf, F_k1 hf, F_l1 hf, F_r0 hf, F_r1 hf, F_k2 hf, F_l2 hf, F_rg hf, F_kg hf]
      refine ⟨fun q => absurd q (by omega), fun _ => ?_⟩
      refine c_earsOfRow hf hp hok (by omega) ?_
      simp (disch := omega) only [b_F_earsOfAllRows_0, b_F_earsOfAllRows_4, b_F_earsOfAllRows_10, b_F_earsOfAllRows_16, b_F_earsOfAllRows_24, true_and, and_true, true_implies, false_implies, not_true_eq_false, not_false_eq_true, eq_self, or_true, true_or, false_or, or_false, false_and, and_false, Option.toList_some, Option.toList_none, List.cons_append, List.nil_append, n10, n01, e10, e01, e08, e18, e28, e38, e48, e58, e68, e78, lt_lit, nI_add, pk_mul, n_le, n_lt, n_eq, n_cl, n_in, n_sub, n_div, n_rem, n_ite, Nat.zero_add, F_k hf, F_k1 hf, F_l1 hf, F_r0 hf, F_r1 hf, F_k2 hf, F_l2 hf, F_rg hf, F_kg hf]
      have := smN_le A 99 8 (8 * r) (fun k _ y => hok k (by omega))
      refine ih (r + 1) _ (by omega) (by omega) ?_
      rw [show 8 * (n + 1) = 8 + 8 * n by omega, smN_app, ← Nat.add_assoc, show 8 * r + 8 = 8 * (r + 1) by omega] at h; exact h
  refine i_F_earsOfAllRows ?_
  simp (disch := omega) only [b_F_earsOfAllRows_0, b_F_earsOfAllRows_4, b_F_earsOfAllRows_10, b_F_earsOfAllRows_16, b_F_earsOfAllRows_24, true_and, and_true, true_implies, false_implies, not_true_eq_false, not_false_eq_true, eq_self, or_true, true_or, false_or, or_false, false_and, and_false, Option.toList_some, Option.toList_none, List.cons_append, List.nil_append, n10, n01, e10, e01, e08, e18, e28, e38, e48, e58, e68, e78, lt_lit, nI_add, pk_mul, n_le, n_lt, n_eq, n_cl, n_in, n_sub, n_div, n_rem, n_ite, Nat.zero_add, F_k hf, F_k1 hf, F_l1 hf, F_r0 hf, F_r1 hf, F_k2 hf, F_l2 hf, F_rg hf, F_kg hf]
  refine loop 8 0 0 (by omega) (by omega) ?_
  rw [Nat.zero_add]; exact h
theorem c_fill1 {a v : Nat} (ka : kd a = 8) (la : ln a < 1000) (h : ∀ hi', (∀ k, k < ln a → hi' a k = nI v) → (∀ o, o ≠ a → hi' o = hi o) → K none hi' hl) : Call u 220 [.ref a, .int (nI v)] hi hl K := by
  have loop : ∀ n k hi', k + n = ln a → (∀ j, j < k → hi' a j = nI v) → (∀ o, o ≠ a → hi' o = hi o) → Wp u 220 5 [.ref a, .int (nI v), .int (nI k), .int (nI (ln a))] [] hi' hl K := by
    intro n
    induction n with
    | zero =>
      intro k hi' e h1 h2
      refine wv (by decide) ?_
      simp (disch := omega) only [b_A_fill1_0, b_A_fill1_5, b_A_fill1_10, b_A_fill1_20, true_and, and_true, true_implies, false_implies, not_true_eq_false, not_false_eq_true, eq_self, or_true, true_or, false_or, or_false, false_and, and_false, Option.toList_some, Option.toList_none, List.cons_append, List.nil_append, n10, n01, e10, e01, e08, e18, e28, e38, e48, e58, e68, e78, lt_lit, nI_add, pk_mul, n_le, n_lt, n_eq, n_cl, n_in, n_sub, n_div, n_rem, n_ite, Nat.zero_add, ix1, ix2, ix3, ix4, ix5, ix6, ix7, Nat.add_zero, ofn, x88]
      exact ⟨fun _ => ⟨rfl, h hi' (fun j hj => h1 j (by omega)) h2⟩, fun q => absurd (by omega) q⟩
    | succ n ih =>
      intro k hi' e h1 h2
      refine wv (by decide) ?_
      simp (disch := omega) only [b_A_fill1_0, b_A_fill1_5, b_A_fill1_10, b_A_fill1_20, true_and, and_true, true_implies, false_implies, not_true_eq_false, not_false_eq_true, eq_self, or_true, true_or, false_or, or_false, false_and, and_false, Option.toList_some, Option.toList_none, List.cons_append, List.nil_append, n10, n01, e10, e01, e08, e18, e28, e38, e48, e58, e68, e78, lt_lit, nI_add, pk_mul, n_le, n_lt, n_eq, n_cl, n_in, n_sub, n_div, n_rem, n_ite, Nat.zero_add, ix1, ix2, ix3, ix4, ix5, ix6, ix7, Nat.add_zero, ofn, x88, ka]
      refine ⟨fun q => absurd q (by omega), fun _ => ?_⟩
      refine ih (k + 1) _ (by omega) (fun j hj => ?_) (fun o ho => ?_)
      · by_cases q : j = k
        · subst q; rw [u2_eq]
        · rw [u2_nk q]; exact h1 j (by omega)
      · rw [← h2 o ho]; funext j; exact u2_nh ho
  refine i_A_fill1 ?_
  simp only [b_A_fill1_0, b_A_fill1_5, b_A_fill1_10, b_A_fill1_20, true_and, and_true, true_implies, false_implies, not_true_eq_false, not_false_eq_true, eq_self, or_true, true_or, false_or, or_false, false_and, and_false, Option.toList_some, Option.toList_none, List.cons_append, List.nil_append, n10, n01, e10, e01, e08, e18, e28, e38, e48, e58, e68, e78, ofn, ka]
  refine ⟨by omega, loop (ln a) 0 hi (by omega) (fun j hj => absurd hj (by omega)) (fun _ _ => rfl)⟩
theorem c_leaveEverywhere {v : Nat} (hf : isF f) (hp : Fp hi f A) (h : ∀ hi', Fp hi' f (fillN A v) → fF f hi hi' → K none hi' hl) : Call u 6 [.ref f, .int (nI v)] hi hl K := by
  refine i_F_leaveEverywhere ?_
  simp (disch := omega) only [b_F_leaveEverywhere_0, b_F_leaveEverywhere_8, true_and, and_true, true_implies, false_implies, not_true_eq_false, not_false_eq_true, eq_self, or_true, true_or, false_or, or_false, false_and, and_false, Option.toList_some, Option.toList_none, List.cons_append, List.nil_append, n10, n01, e10, e01, e08, e18, e28, e38, e48, e58, e68, e78, lt_lit, nI_add, pk_mul, n_le, n_lt, n_eq, n_cl, n_in, n_sub, n_div, n_rem, n_ite, Nat.zero_add, F_k hf, F_k1 hf, F_l1 hf, F_r0 hf, F_r1 hf, F_k2 hf, F_l2 hf, F_rg hf, F_kg hf]
  refine c_fill1 (F_k1 hf) (by rw [F_l1 hf]; omega) (fun hi' a b => ?_)
  simp (disch := omega) only [b_F_leaveEverywhere_0, b_F_leaveEverywhere_8, true_and, and_true, true_implies, false_implies, not_true_eq_false, not_false_eq_true, eq_self, or_true, true_or, false_or, or_false, false_and, and_false, Option.toList_some, Option.toList_none, List.cons_append, List.nil_append, n10, n01, e10, e01, e08, e18, e28, e38, e48, e58, e68, e78, lt_lit, nI_add, pk_mul, n_le, n_lt, n_eq, n_cl, n_in, n_sub, n_div, n_rem, n_ite, Nat.zero_add, F_k hf, F_k1 hf, F_l1 hf, F_r0 hf, F_r1 hf, F_k2 hf, F_l2 hf, F_rg hf, F_kg hf]
  rw [F_l1 hf] at a
  refine ⟨rfl, h hi' (fun k hk => ?_) (fun o ho => b o (by omega))⟩
  have e68 : fillN A v 68 = A 68 := by simp [fillN]
  rw [e68] at hk
  by_cases q : k < 64
  · rw [lh_p q, lj_p q, a k q]; simp [fillN, q]
  · have : lh f k ≠ f + 1 := by unfold lh; rw [if_neg q]; split <;> omega
    rw [b _ this, hp k hk]; simp [fillN, q]
theorem c_isFull (hf : isF f) (hp : Fp hi f A) (h9 : A 68 ≤ 9) (h1 : A 68 = 9 → K (some (.int 1)) hi hl) (h0 : A 68 < 9 → K (some (.int 0)) hi hl) : Call u 7 [.ref f] hi hl K := by
  refine i_F_isFull ?_
  simp (disch := omega) only [b_F_isFull_0, b_F_isFull_9, b_F_isFull_13, b_F_isFull_14, true_and, and_true, true_implies, false_implies, not_true_eq_false, not_false_eq_true, eq_self, or_true, true_or, false_or, or_false, false_and, and_false, Option.toList_some, Option.toList_none, List.cons_append, List.nil_append, n10, n01, e10, e01, e08, e18, e28, e38, e48, e58, e68, e78, F_k hf, F_k1 hf, F_l1 hf, F_r0 hf, F_r1 hf, F_k2 hf, F_l2 hf, F_rg hf, F_kg hf, Fp.s2 hp]
  rw [show (9 : Int32) = nI 9 from rfl, n_lt (by omega) (by omega)]
  exact ⟨fun q => h0 q, fun q => h1 (by omega)⟩
theorem c_goToStart {a : Nat} (ka : kd a = 1) (h : K none (up2 (up2 (up2 hi a 2 (nI 0)) a 6 (nI 0)) a 7 (nI 0)) hl) : Call u 25 [.ref a] hi hl K := by
  refine i_G_goToStart ?_
  simp only [b_G_goToStart_0, true_and, and_true, true_implies, false_implies, not_true_eq_false, not_false_eq_true, eq_self, or_true, true_or, false_or, or_false, false_and, and_false, Option.toList_some, Option.toList_none, List.cons_append, List.nil_append, n10, n01, e10, e01, e08, e18, e28, e38, e48, e58, e68, e78, ka]
  exact ⟨rfl, h⟩
theorem add_ne {A : Nat → Nat} {k r p h b j : Nat} (hj : j ≠ 68) (hj2 : j < 69 + 8 * A 68) : addN A k r p h b j = A j := by
  unfold addN
  rw [if_neg hj, if_neg (by omega), if_neg (by omega), if_neg (by omega), if_neg (by omega), if_neg (by omega), if_neg (by omega), if_neg (by omega), if_neg (by omega)]
theorem c_addGleaner {k r p : Nat} (hf : isF f) (hp : Fp hi f A) (h9 : A 68 < 9) (h : ∀ hi', Fp hi' f (addN A k r 0 p 0) → fF f hi hi' → K none hi' hl) : Call u 8 [.ref f, .int (nI k), .int (nI r), .int (nI p)] hi hl K := by
  refine i_F_addGleaner ?_
  simp (disch := omega) only [b_F_addGleaner_0, b_F_addGleaner_4, b_F_addGleaner_7, b_F_addGleaner_53, b_F_addGleaner_63, true_and, and_true, true_implies, false_implies, not_true_eq_false, not_false_eq_true, eq_self, or_true, true_or, false_or, or_false, false_and, and_false, Option.toList_some, Option.toList_none, List.cons_append, List.nil_append, n10, n01, e10, e01, e08, e18, e28, e38, e48, e58, e68, e78, lt_lit, nI_add, pk_mul, n_le, n_lt, n_eq, n_cl, n_in, n_sub, n_div, n_rem, n_ite, Nat.zero_add, F_k hf, F_k1 hf, F_l1 hf, F_r0 hf, F_r1 hf, F_k2 hf, F_l2 hf, F_rg hf, F_kg hf, Fp.s2 hp, Fp.s3 hp, Fp.s4 hp, Fp.s5 hp, Fp.s6 hp, Fp.p hp, Fp.r0 hp, Fp.r1 hp, Fp.r2 hp, Fp.r3 hp, Fp.r4 hp, Fp.r5 hp, Fp.r6 hp, Fp.r7 hp]
  refine c_isFull hf hp (by omega) (fun q => absurd q (by omega)) (fun _ => ?_)
  simp (disch := omega) only [b_F_addGleaner_0, b_F_addGleaner_4, b_F_addGleaner_7, b_F_addGleaner_53, b_F_addGleaner_63, true_and, and_true, true_implies, false_implies, not_true_eq_false, not_false_eq_true, eq_self, or_true, true_or, false_or, or_false, false_and, and_false, Option.toList_some, Option.toList_none, List.cons_append, List.nil_append, n10, n01, e10, e01, e08, e18, e28, e38, e48, e58, e68, e78, lt_lit, nI_add, pk_mul, n_le, n_lt, n_eq, n_cl, n_in, n_sub, n_div, n_rem, n_ite, Nat.zero_add, F_k hf, F_k1 hf, F_l1 hf, F_r0 hf, F_r1 hf, F_k2 hf, F_l2 hf, F_rg hf, F_kg hf, Fp.s2 hp, Fp.s3 hp, Fp.s4 hp, Fp.s5 hp, Fp.s6 hp, Fp.p hp, Fp.r0 hp, Fp.r1 hp, Fp.r2 hp, Fp.r3 hp, Fp.r4 hp, Fp.r5 hp, Fp.r6 hp, Fp.r7 hp]
  refine c_goToStart (F_kg hf h9) ?_
  simp (disch := omega) only [b_F_addGleaner_0, b_F_addGleaner_4, b_F_addGleaner_7, b_F_addGleaner_53, b_F_addGleaner_63, true_and, and_true, true_implies, false_implies, not_true_eq_false, not_false_eq_true, eq_self, or_true, true_or, false_or, or_false, false_and, and_false, Option.toList_some, Option.toList_none, List.cons_append, List.nil_append, n10, n01, e10, e01, e08, e18, e28, e38, e48, e58, e68, e78, lt_lit, nI_add, pk_mul, n_le, n_lt, n_eq, n_cl, n_in, n_sub, n_div, n_rem, n_ite, Nat.zero_add, F_k hf, F_k1 hf, F_l1 hf, F_r0 hf, F_r1 hf, F_k2 hf, F_l2 hf, F_rg hf, F_kg hf, Fp.s2 hp, Fp.s3 hp, Fp.s4 hp, Fp.s5 hp, Fp.s6 hp, Fp.p hp, Fp.r0 hp, Fp.r1 hp, Fp.r2 hp, Fp.r3 hp, Fp.r4 hp, Fp.r5 hp, Fp.r6 hp, Fp.r7 hp, u2_eq, u2_nk, u2_nh]
  refine ⟨rfl, h _ ?_ ?_⟩
  · intro j hj
    have e68 : addN A k r 0 p 0 68 = A 68 + 1 := by simp [addN]
    rw [e68] at hj
    by_cases q : j = 68
    · subst q
      show up2 _ f 2 _ f 2 = _
      rw [u2_eq, e68]
    · by_cases q2 : j < 69 + 8 * A 68
      · rw [add_ne q q2, ← hp j q2]
        have l1 : lh f j ≠ f + 3 + A 68 := by unfold lh; (repeat' split) <;> omega
        have l2 : lh f j = f → lj j ≠ 2 := by unfold lh lj; (repeat' split) <;> omega
        by_cases q3 : lh f j = f
        · rw [q3, u2_nk (l2 q3)]
          rw [q3] at l1
          simp only [u2_nh l1]
        · rw [u2_nh q3]
          simp only [u2_nh l1]
      · have l1 : lh f j = f + 3 + A 68 := by unfold lh; rw [if_neg (by omega), if_neg (by omega)]; omega
        have hj2 : j = 69 + 8 * A 68 ∨ j = 70 + 8 * A 68 ∨ j = 71 + 8 * A 68 ∨ j = 72 + 8 * A 68 ∨ j = 73 + 8 * A 68 ∨ j = 74 + 8 * A 68 ∨ j = 75 + 8 * A 68 ∨ j = 76 + 8 * A 68 := by omega
        rw [l1, u2_nh (by omega)]
        rcases hj2 with e | e | e | e | e | e | e | e <;> subst e
        · have : lj (69 + 8 * A 68) = 0 := lj_g (g := A 68) (j := 0) (by omega)
          rw [this]; simp (disch := omega) only [u2_eq, u2_nk, u2_nh]; simp [addN, q]
        · have : lj (70 + 8 * A 68) = 1 := by rw [← ix1]; exact lj_g (by omega)
          rw [this]; simp (disch := omega) only [u2_eq, u2_nk, u2_nh]; simp [addN, q]
        · have : lj (71 + 8 * A 68) = 2 := by rw [← ix2]; exact lj_g (by omega)
          rw [this]; simp (disch := omega) only [u2_eq, u2_nk, u2_nh]; simp [addN, q]
        · have : lj (72 + 8 * A 68) = 3 := by rw [← ix3]; exact lj_g (by omega)
          rw [this]; simp (disch := omega) only [u2_eq, u2_nk, u2_nh]; simp [addN, q]
        · have : lj (73 + 8 * A 68) = 4 := by rw [← ix4]; exact lj_g (by omega)
          rw [this]; simp (disch := omega) only [u2_eq, u2_nk, u2_nh]; simp [addN, q]
        · have : lj (74 + 8 * A 68) = 5 := by rw [← ix5]; exact lj_g (by omega)
          rw [this]; simp (disch := omega) only [u2_eq, u2_nk, u2_nh]; simp [addN, q]
        · have : lj (75 + 8 * A 68) = 6 := by rw [← ix6]; exact lj_g (by omega)
          rw [this]; simp (disch := omega) only [u2_eq, u2_nk, u2_nh]; simp [addN, q]
        · have : lj (76 + 8 * A 68) = 7 := by rw [← ix7]; exact lj_g (by omega)
          rw [this]; simp (disch := omega) only [u2_eq, u2_nk, u2_nh]; simp [addN, q]
  · repeat (first | exact fF.refl f hi | refine fF.up ?_ (by omega))
end F3
/-! 54.fcnt -/
section F4
variable {u : UV} {hi : HI} {hl : HL} {K : Option Value → HI → HL → Prop} {A : Nat → Nat} {B f : Nat}
theorem c_bundlesOfAll (hf : isF f) (hp : Fp hi f A) (ok : rowOk B A) (hB : B < 100000000) (h : K (some (.int (nI (bunN A)))) hi hl) : Call u 19 [.ref f] hi hl K := by
  have o6 := ok.2.2.2.2.2.1
  have loop : ∀ n g s, g + n = A 68 → s ≤ 100000000 * g → K (some (.int (nI (s + smN (fun g => A (73 + 8 * g)) g n)))) hi hl → Wp u 19 4 [.ref f, .int (nI s), .int (nI g)] [] hi hl K := by
    intro n
    induction n with
    | zero =>
      intro g s e hs h
      refine wv (by decide) ?_
      simp (disch := omega) only [b_F_bundlesOfAll_0, b_F_bundlesOfAll_4, b_F_bundlesOfAll_12, b_F_bundlesOfAll_30, true_and, and_true, true_implies, false_implies, not_true_eq_false, not_false_eq_true, eq_self, or_true, true_or, false_or, or_false, false_and, and_false, Option.toList_some, Option.toList_none, List.cons_append, List.nil_append, n10, n01, e10, e01, e08, e18, e28, e38, e48, e58, e68, e78, lt_lit, nI_add, pk_mul, n_le, n_lt, n_eq, n_cl, n_in, n_sub, n_div, n_rem, n_ite, Nat.zero_add, F_k hf, F_k1 hf, F_l1 hf, F_r0 hf, F_r1 hf, F_k2 hf, F_l2 hf, F_rg hf, F_kg hf, Fp.s2 hp, Fp.s3 hp, Fp.s4 hp, Fp.s5 hp, Fp.s6 hp, Fp.p hp, Fp.r0 hp, Fp.r1 hp, Fp.r2 hp, Fp.r3 hp, Fp.r4 hp, Fp.r5 hp, Fp.r6 hp, Fp.r7 hp]
      exact ⟨fun _ => h, fun q => absurd (by omega) q⟩
    | succ n ih =>
      intro g s e hs h
      obtain ⟨g1, g2, g3, g4, g5, g6, g7, g8⟩ := ok.2.2.2.2.2.2 g (by omega)
      refine wv (by decide) ?_
      simp (disch := omega) only [b_F_bundlesOfAll_0, b_F_bundlesOfAll_4, b_F_bundlesOfAll_12, b_F_bundlesOfAll_30, true_and, and_true, true_implies, false_implies, not_true_eq_false, not_false_eq_true, eq_self, or_true, true_or, false_or, or_false, false_and, and_false, Option.toList_some, Option.toList_none, List.cons_append, List.nil_append, n10, n01, e10, e01, e08, e18, e28, e38, e48, e58, e68, e78, lt_lit, nI_add, pk_mul, n_le, n_lt, n_eq, n_cl, n_in, n_sub, n_div, n_rem, n_ite, Nat.zero_add, F_k hf, F_k1 hf, F_l1 hf, F_r0 hf, F_r1 hf, F_k2 hf, F_l2 hf, F_rg hf, F_kg hf, Fp.s2 hp, Fp.s3 hp, Fp.s4 hp, Fp.s5 hp, Fp.s6 hp, Fp.p hp, Fp.r0 hp, Fp.r1 hp, Fp.r2 hp, Fp.r3 hp, Fp.r4 hp, Fp.r5 hp, Fp.r6 hp, Fp.r7 hp]
      refine ⟨fun q => absurd q (by omega), fun _ => ?_⟩
      refine ih (g + 1) _ (by omega) (by omega) ?_
      rw [smN, ← Nat.add_assoc] at h; exact h
  refine i_F_bundlesOfAll ?_
  simp (disch := omega) only [b_F_bundlesOfAll_0, b_F_bundlesOfAll_4, b_F_bundlesOfAll_12, b_F_bundlesOfAll_30, true_and, and_true, true_implies, false_implies, not_true_eq_false, not_false_eq_true, eq_self, or_true, true_or, false_or, or_false, false_and, and_false, Option.toList_some, Option.toList_none, List.cons_append, List.nil_append, n10, n01, e10, e01, e08, e18, e28, e38, e48, e58, e68, e78, lt_lit, nI_add, pk_mul, n_le, n_lt, n_eq, n_cl, n_in, n_sub, n_div, n_rem, n_ite, Nat.zero_add, F_k hf, F_k1 hf, F_l1 hf, F_r0 hf, F_r1 hf, F_k2 hf, F_l2 hf, F_rg hf, F_kg hf]
  refine loop (A 68) 0 0 (by omega) (by omega) ?_
  rw [Nat.zero_add]; exact h
theorem c_cutOfAll (hf : isF f) (hp : Fp hi f A) (ok : rowOk B A) (hB : B < 100000000) (h : K (some (.int (nI (cutN A)))) hi hl) : Call u 20 [.ref f] hi hl K := by
  have o6 := ok.2.2.2.2.2.1
  have loop : ∀ n g s, g + n = A 68 → s ≤ 100000000 * g → K (some (.int (nI (s + smN (fun g => A (74 + 8 * g)) g n)))) hi hl → Wp u 20 4 [.ref f, .int (nI s), .int (nI g)] [] hi hl K := by
    intro n
    induction n with
    | zero =>
      intro g s e hs h
      refine wv (by decide) ?_
      simp (disch := omega) only [b_F_cutOfAll_0, b_F_cutOfAll_4, b_F_cutOfAll_12, b_F_cutOfAll_30, true_and, and_true, true_implies, false_implies, not_true_eq_false, not_false_eq_true, eq_self, or_true, true_or, false_or, or_false, false_and, and_false, Option.toList_some, Option.toList_none, List.cons_append, List.nil_append, n10, n01, e10, e01, e08, e18, e28, e38, e48, e58, e68, e78, lt_lit, nI_add, pk_mul, n_le, n_lt, n_eq, n_cl, n_in, n_sub, n_div, n_rem, n_ite, Nat.zero_add, F_k hf, F_k1 hf, F_l1 hf, F_r0 hf, F_r1 hf, F_k2 hf, F_l2 hf, F_rg hf, F_kg hf, Fp.s2 hp, Fp.s3 hp, Fp.s4 hp, Fp.s5 hp, Fp.s6 hp, Fp.p hp, Fp.r0 hp, Fp.r1 hp, Fp.r2 hp, Fp.r3 hp, Fp.r4 hp, Fp.r5 hp, Fp.r6 hp, Fp.r7 hp]
      exact ⟨fun _ => h, fun q => absurd (by omega) q⟩
    | succ n ih =>
      intro g s e hs h
      obtain ⟨g1, g2, g3, g4, g5, g6, g7, g8⟩ := ok.2.2.2.2.2.2 g (by omega)
      refine wv (by decide) ?_
      simp (disch := omega) only [b_F_cutOfAll_0, b_F_cutOfAll_4, b_F_cutOfAll_12, b_F_cutOfAll_30, true_and, and_true, true_implies, false_implies, not_true_eq_false, not_false_eq_true, eq_self, or_true, true_or, false_or, or_false, false_and, and_false, Option.toList_some, Option.toList_none, List.cons_append, List.nil_append, n10, n01, e10, e01, e08, e18, e28, e38, e48, e58, e68, e78, lt_lit, nI_add, pk_mul, n_le, n_lt, n_eq, n_cl, n_in, n_sub, n_div, n_rem, n_ite, Nat.zero_add, F_k hf, F_k1 hf, F_l1 hf, F_r0 hf, F_r1 hf, F_k2 hf, F_l2 hf, F_rg hf, F_kg hf, Fp.s2 hp, Fp.s3 hp, Fp.s4 hp, Fp.s5 hp, Fp.s6 hp, Fp.p hp, Fp.r0 hp, Fp.r1 hp, Fp.r2 hp, Fp.r3 hp, Fp.r4 hp, Fp.r5 hp, Fp.r6 hp, Fp.r7 hp]
      refine ⟨fun q => absurd q (by omega), fun _ => ?_⟩
      refine ih (g + 1) _ (by omega) (by omega) ?_
      rw [smN, ← Nat.add_assoc] at h; exact h
  refine i_F_cutOfAll ?_
  simp (disch := omega) only [b_F_cutOfAll_0, b_F_cutOfAll_4, b_F_cutOfAll_12, b_F_cutOfAll_30, true_and, and_true, true_implies, false_implies, not_true_eq_false, not_false_eq_true, eq_self, or_true, true_or, false_or, or_false, false_and, and_false, Option.toList_some, Option.toList_none, List.cons_append, List.nil_append, n10, n01, e10, e01, e08, e18, e28, e38, e48, e58, e68, e78, lt_lit, nI_add, pk_mul, n_le, n_lt, n_eq, n_cl, n_in, n_sub, n_div, n_rem, n_ite, Nat.zero_add, F_k hf, F_k1 hf, F_l1 hf, F_r0 hf, F_r1 hf, F_k2 hf, F_l2 hf, F_rg hf, F_kg hf]
  refine loop (A 68) 0 0 (by omega) (by omega) ?_
  rw [Nat.zero_add]; exact h
theorem c_countDone (hf : isF f) (hp : Fp hi f A) (ok : rowOk B A) (h : K (some (.int (nI (dnN A)))) hi hl) : Call u 17 [.ref f] hi hl K := by
  have o6 := ok.2.2.2.2.2.1
  have loop : ∀ n g s, g + n = A 68 → s ≤ g → K (some (.int (nI (s + smN (fun g => A (76 + 8 * g)) g n)))) hi hl → Wp u 17 4 [.ref f, .int (nI s), .int (nI g)] [] hi hl K := by
    intro n
    induction n with
    | zero =>
      intro g s e hs h
      refine wv (by decide) ?_
      simp (disch := omega) only [b_F_countDone_0, b_F_countDone_4, b_F_countDone_12, b_F_countDone_24, b_F_countDone_27, b_F_countDone_33, true_and, and_true, true_implies, false_implies, not_true_eq_false, not_false_eq_true, eq_self, or_true, true_or, false_or, or_false, false_and, and_false, Option.toList_some, Option.toList_none, List.cons_append, List.nil_append, n10, n01, e10, e01, e08, e18, e28, e38, e48, e58, e68, e78, lt_lit, nI_add, pk_mul, n_le, n_lt, n_eq, n_cl, n_in, n_sub, n_div, n_rem, n_ite, Nat.zero_add, F_k hf, F_k1 hf, F_l1 hf, F_r0 hf, F_r1 hf, F_k2 hf, F_l2 hf, F_rg hf, F_kg hf, Fp.s2 hp, Fp.s3 hp, Fp.s4 hp, Fp.s5 hp, Fp.s6 hp, Fp.p hp, Fp.r0 hp, Fp.r1 hp, Fp.r2 hp, Fp.r3 hp, Fp.r4 hp, Fp.r5 hp, Fp.r6 hp, Fp.r7 hp]
      exact ⟨fun _ => h, fun q => absurd (by omega) q⟩
    | succ n ih =>
      intro g s e hs h
      obtain ⟨g1, g2, g3, g4, g5, g6, g7, g8⟩ := ok.2.2.2.2.2.2 g (by omega)
      refine wv (by decide) ?_
      simp (disch := omega) only [b_F_countDone_0, b_F_countDone_4, b_F_countDone_12, b_F_countDone_24, b_F_countDone_27, b_F_countDone_33, true_and, and_true, true_implies, false_implies, not_true_eq_false, not_false_eq_true, eq_self, or_true, true_or, false_or, or_false, false_and, and_false, Option.toList_some, Option.toList_none, List.cons_append, List.nil_append, n10, n01, e10, e01, e08, e18, e28, e38, e48, e58, e68, e78, lt_lit, nI_add, pk_mul, n_le, n_lt, n_eq, n_cl, n_in, n_sub, n_div, n_rem, n_ite, Nat.zero_add, F_k hf, F_k1 hf, F_l1 hf, F_r0 hf, F_r1 hf, F_k2 hf, F_l2 hf, F_rg hf, F_kg hf, Fp.s2 hp, Fp.s3 hp, Fp.s4 hp, Fp.s5 hp, Fp.s6 hp, Fp.p hp, Fp.r0 hp, Fp.r1 hp, Fp.r2 hp, Fp.r3 hp, Fp.r4 hp, Fp.r5 hp, Fp.r6 hp, Fp.r7 hp]
      refine ⟨fun q => absurd q (by omega), fun _ => ⟨fun q => ?_, fun q => ?_⟩⟩
      · refine ih (g + 1) s (by omega) (by omega) ?_
        rw [smN, q, Nat.zero_add] at h; exact h
      · refine ih (g + 1) (s + 1) (by omega) (by omega) ?_
        rw [smN, show A (76 + 8 * g) = 1 by omega, ← Nat.add_assoc] at h; exact h
  refine i_F_countDone ?_
  simp (disch := omega) only [b_F_countDone_0, b_F_countDone_4, b_F_countDone_12, b_F_countDone_24, b_F_countDone_27, b_F_countDone_33, true_and, and_true, true_implies, false_implies, not_true_eq_false, not_false_eq_true, eq_self, or_true, true_or, false_or, or_false, false_and, and_false, Option.toList_some, Option.toList_none, List.cons_append, List.nil_append, n10, n01, e10, e01, e08, e18, e28, e38, e48, e58, e68, e78, lt_lit, nI_add, pk_mul, n_le, n_lt, n_eq, n_cl, n_in, n_sub, n_div, n_rem, n_ite, Nat.zero_add, F_k hf, F_k1 hf, F_l1 hf, F_r0 hf, F_r1 hf, F_k2 hf, F_l2 hf, F_rg hf, F_kg hf]
  refine loop (A 68) 0 0 (by omega) (by omega) ?_
  rw [Nat.zero_add]; exact h
theorem c_countOfHouse {w : Nat} (hw : w < 5) (hf : isF f) (hp : Fp hi f A) (ok : rowOk B A) (hB : B < 100000000) (h : K (some (.int (nI (cntH A w)))) hi hl) : Call u 21 [.ref f, .int (nI w)] hi hl K := by
  have o6 := ok.2.2.2.2.2.1
  have loop : ∀ n g s, g + n = A 68 → s ≤ 1 * g → K (some (.int (nI (s + smN (fun g => if A (72 + 8 * g) = w then 1 else 0) g n)))) hi hl → Wp u 21 4 [.ref f, .int (nI w), .int (nI s), .int (nI g)] [] hi hl K := by
    intro n
    induction n with
    | zero =>
      intro g s e hs h
      refine wv (by decide) ?_
      simp (disch := omega) only [b_F_countOfHouse_0, b_F_countOfHouse_4, b_F_countOfHouse_12, b_F_countOfHouse_25, b_F_countOfHouse_28, b_F_countOfHouse_34, true_and, and_true, true_implies, false_implies, not_true_eq_false, not_false_eq_true, eq_self, or_true, true_or, false_or, or_false, false_and, and_false, Option.toList_some, Option.toList_none, List.cons_append, List.nil_append, n10, n01, e10, e01, e08, e18, e28, e38, e48, e58, e68, e78, lt_lit, nI_add, pk_mul, n_le, n_lt, n_eq, n_cl, n_in, n_sub, n_div, n_rem, n_ite, Nat.zero_add, F_k hf, F_k1 hf, F_l1 hf, F_r0 hf, F_r1 hf, F_k2 hf, F_l2 hf, F_rg hf, F_kg hf, Fp.s2 hp, Fp.s3 hp, Fp.s4 hp, Fp.s5 hp, Fp.s6 hp, Fp.p hp, Fp.r0 hp, Fp.r1 hp, Fp.r2 hp, Fp.r3 hp, Fp.r4 hp, Fp.r5 hp, Fp.r6 hp, Fp.r7 hp]
      exact ⟨fun _ => h, fun q => absurd (by omega) q⟩
    | succ n ih =>
      intro g s e hs h
      obtain ⟨g1, g2, g3, g4, g5, g6, g7, g8⟩ := ok.2.2.2.2.2.2 g (by omega)
      refine wv (by decide) ?_
      simp (disch := omega) only [b_F_countOfHouse_0, b_F_countOfHouse_4, b_F_countOfHouse_12, b_F_countOfHouse_25, b_F_countOfHouse_28, b_F_countOfHouse_34, true_and, and_true, true_implies, false_implies, not_true_eq_false, not_false_eq_true, eq_self, or_true, true_or, false_or, or_false, false_and, and_false, Option.toList_some, Option.toList_none, List.cons_append, List.nil_append, n10, n01, e10, e01, e08, e18, e28, e38, e48, e58, e68, e78, lt_lit, nI_add, pk_mul, n_le, n_lt, n_eq, n_cl, n_in, n_sub, n_div, n_rem, n_ite, Nat.zero_add, F_k hf, F_k1 hf, F_l1 hf, F_r0 hf, F_r1 hf, F_k2 hf, F_l2 hf, F_rg hf, F_kg hf, Fp.s2 hp, Fp.s3 hp, Fp.s4 hp, Fp.s5 hp, Fp.s6 hp, Fp.p hp, Fp.r0 hp, Fp.r1 hp, Fp.r2 hp, Fp.r3 hp, Fp.r4 hp, Fp.r5 hp, Fp.r6 hp, Fp.r7 hp]
      refine ⟨fun q => absurd q (by omega), fun _ => ⟨fun q => ?_, fun q => ?_⟩⟩
      · refine ih (g + 1) s (by omega) (by omega) ?_
        simp only [smN, if_neg q, Nat.zero_add] at h; exact h
      · refine ih (g + 1) _ (by omega) (by omega) ?_
        simp only [smN, if_pos q] at h; rw [← Nat.add_assoc] at h; exact h
  refine i_F_countOfHouse ?_
  simp (disch := omega) only [b_F_countOfHouse_0, b_F_countOfHouse_4, b_F_countOfHouse_12, b_F_countOfHouse_25, b_F_countOfHouse_28, b_F_countOfHouse_34, true_and, and_true, true_implies, false_implies, not_true_eq_false, not_false_eq_true, eq_self, or_true, true_or, false_or, or_false, false_and, and_false, Option.toList_some, Option.toList_none, List.cons_append, List.nil_append, n10, n01, e10, e01, e08, e18, e28, e38, e48, e58, e68, e78, lt_lit, nI_add, pk_mul, n_le, n_lt, n_eq, n_cl, n_in, n_sub, n_div, n_rem, n_ite, Nat.zero_add, F_k hf, F_k1 hf, F_l1 hf, F_r0 hf, F_r1 hf, F_k2 hf, F_l2 hf, F_rg hf, F_kg hf]
  refine loop (A 68) 0 0 (by omega) (by omega) ?_
  rw [Nat.zero_add]; exact h
theorem c_bundlesOfHouse {w : Nat} (hw : w < 5) (hf : isF f) (hp : Fp hi f A) (ok : rowOk B A) (hB : B < 100000000) (h : K (some (.int (nI (bunH A w)))) hi hl) : Call u 22 [.ref f, .int (nI w)] hi hl K := by
  have o6 := ok.2.2.2.2.2.1
  have loop : ∀ n g s, g + n = A 68 → s ≤ 100000000 * g → K (some (.int (nI (s + smN (fun g => if A (72 + 8 * g) = w then A (73 + 8 * g) else 0) g n)))) hi hl → Wp u 22 4 [.ref f, .int (nI w), .int (nI s), .int (nI g)] [] hi hl K := by
    intro n
    induction n with
    | zero =>
      intro g s e hs h
      refine wv (by decide) ?_
      simp (disch := omega) only [b_F_bundlesOfHouse_0, b_F_bundlesOfHouse_4, b_F_bundlesOfHouse_12, b_F_bundlesOfHouse_25, b_F_bundlesOfHouse_37, b_F_bundlesOfHouse_43, true_and, and_true, true_implies, false_implies, not_true_eq_false, not_false_eq_true, eq_self, or_true, true_or, false_or, or_false, false_and, and_false, Option.toList_some, Option.toList_none, List.cons_append, List.nil_append, n10, n01, e10, e01, e08, e18, e28, e38, e48, e58, e68, e78, lt_lit, nI_add, pk_mul, n_le, n_lt, n_eq, n_cl, n_in, n_sub, n_div, n_rem, n_ite, Nat.zero_add, F_k hf, F_k1 hf, F_l1 hf, F_r0 hf, F_r1 hf, F_k2 hf, F_l2 hf, F_rg hf, F_kg hf, Fp.s2 hp, Fp.s3 hp, Fp.s4 hp, Fp.s5 hp, Fp.s6 hp, Fp.p hp, Fp.r0 hp, Fp.r1 hp, Fp.r2 hp, Fp.r3 hp, Fp.r4 hp, Fp.r5 hp, Fp.r6 hp, Fp.r7 hp]
      exact ⟨fun _ => h, fun q => absurd (by omega) q⟩
    | succ n ih =>
      intro g s e hs h
      obtain ⟨g1, g2, g3, g4, g5, g6, g7, g8⟩ := ok.2.2.2.2.2.2 g (by omega)
      refine wv (by decide) ?_
      simp (disch := omega) only [b_F_bundlesOfHouse_0, b_F_bundlesOfHouse_4, b_F_bundlesOfHouse_12, b_F_bundlesOfHouse_25, b_F_bundlesOfHouse_37, b_F_bundlesOfHouse_43, true_and, and_true, true_implies, false_implies, not_true_eq_false, not_false_eq_true, eq_self, or_true, true_or, false_or, or_false, false_and, and_false, Option.toList_some, Option.toList_none, List.cons_append, List.nil_append, n10, n01, e10, e01, e08, e18, e28, e38, e48, e58, e68, e78, lt_lit, nI_add, pk_mul, n_le, n_lt, n_eq, n_cl, n_in, n_sub, n_div, n_rem, n_ite, Nat.zero_add, F_k hf, F_k1 hf, F_l1 hf, F_r0 hf, F_r1 hf, F_k2 hf, F_l2 hf, F_rg hf, F_kg hf, Fp.s2 hp, Fp.s3 hp, Fp.s4 hp, Fp.s5 hp, Fp.s6 hp, Fp.p hp, Fp.r0 hp, Fp.r1 hp, Fp.r2 hp, Fp.r3 hp, Fp.r4 hp, Fp.r5 hp, Fp.r6 hp, Fp.r7 hp]
      refine ⟨fun q => absurd q (by omega), fun _ => ⟨fun q => ?_, fun q => ?_⟩⟩
      · refine ih (g + 1) s (by omega) (by omega) ?_
        simp only [smN, if_neg q, Nat.zero_add] at h; exact h
      · refine ih (g + 1) _ (by omega) (by omega) ?_
        simp only [smN, if_pos q] at h; rw [← Nat.add_assoc] at h; exact h
  refine i_F_bundlesOfHouse ?_
  simp (disch := omega) only [b_F_bundlesOfHouse_0, b_F_bundlesOfHouse_4, b_F_bundlesOfHouse_12, b_F_bundlesOfHouse_25, b_F_bundlesOfHouse_37, b_F_bundlesOfHouse_43, true_and, and_true, true_implies, false_implies, not_true_eq_false, not_false_eq_true, eq_self, or_true, true_or, false_or, or_false, false_and, and_false, Option.toList_some, Option.toList_none, List.cons_append, List.nil_append, n10, n01, e10, e01, e08, e18, e28, e38, e48, e58, e68, e78, lt_lit, nI_add, pk_mul, n_le, n_lt, n_eq, n_cl, n_in, n_sub, n_div, n_rem, n_ite, Nat.zero_add, F_k hf, F_k1 hf, F_l1 hf, F_r0 hf, F_r1 hf, F_k2 hf, F_l2 hf, F_rg hf, F_kg hf]
  refine loop (A 68) 0 0 (by omega) (by omega) ?_
  rw [Nat.zero_add]; exact h
theorem cntH_le (A : Nat → Nat) (w : Nat) : cntH A w ≤ A 68 := by
  have := smN_le (fun g => if A (72 + 8 * g) = w then 1 else 0) 1 (A 68) 0 (fun k _ _ => by split <;> omega)
  unfold cntH; omega
theorem bunH_le {A : Nat → Nat} {B : Nat} (ok : rowOk B A) (w : Nat) : bunH A w ≤ B * A 68 := by
  have := smN_le (fun g => if A (72 + 8 * g) = w then A (73 + 8 * g) else 0) B (A 68) 0 (fun k _ y => by
    have := (ok.2.2.2.2.2.2 k (by omega)).2.2.2.2.1
    split <;> omega)
  exact this
theorem bunH_lt {A : Nat → Nat} {B : Nat} (ok : rowOk B A) (hB : B < 100000000) (w : Nat) : bunH A w ≤ 900000000 := by
  have h1 := bunH_le ok w
  have h2 := ok.2.2.2.2.2.1
  have h3 : B * A 68 ≤ 100000000 * 9 := Nat.mul_le_mul (by omega) h2
  omega
theorem c_shareOfHouse {w : Nat} (hw : w < 5) (hf : isF f) (hp : Fp hi f A) (ok : rowOk B A) (hB : B < 100000000) (h : K (some (.int (nI (shH A w)))) hi hl) : Call u 23 [.ref f, .int (nI w)] hi hl K := by
  have c1 := cntH_le A w
  have c2 := ok.2.2.2.2.2.1
  have c3 := bunH_lt ok hB w
  refine i_F_shareOfHouse ?_
  simp (disch := omega) only [b_F_shareOfHouse_0, b_F_shareOfHouse_5, b_F_shareOfHouse_10, b_F_shareOfHouse_14, b_F_shareOfHouse_19, b_F_shareOfHouse_21, true_and, and_true, true_implies, false_implies, not_true_eq_false, not_false_eq_true, eq_self, or_true, true_or, false_or, or_false, false_and, and_false, Option.toList_some, Option.toList_none, List.cons_append, List.nil_append, n10, n01, e10, e01, e08, e18, e28, e38, e48, e58, e68, e78, lt_lit, nI_add, pk_mul, n_le, n_lt, n_eq, n_cl, n_in, n_sub, n_div, n_rem, n_ite, Nat.zero_add, F_k hf, F_k1 hf, F_l1 hf, F_r0 hf, F_r1 hf, F_k2 hf, F_l2 hf, F_rg hf, F_kg hf]
  refine c_countOfHouse hw hf hp ok hB ?_
  simp (disch := omega) only [b_F_shareOfHouse_0, b_F_shareOfHouse_5, b_F_shareOfHouse_10, b_F_shareOfHouse_14, b_F_shareOfHouse_19, b_F_shareOfHouse_21, true_and, and_true, true_implies, false_implies, not_true_eq_false, not_false_eq_true, eq_self, or_true, true_or, false_or, or_false, false_and, and_false, Option.toList_some, Option.toList_none, List.cons_append, List.nil_append, n10, n01, e10, e01, e08, e18, e28, e38, e48, e58, e68, e78, lt_lit, nI_add, pk_mul, n_le, n_lt, n_eq, n_cl, n_in, n_sub, n_div, n_rem, n_ite, Nat.zero_add, F_k hf, F_k1 hf, F_l1 hf, F_r0 hf, F_r1 hf, F_k2 hf, F_l2 hf, F_rg hf, F_kg hf]
  refine ⟨fun q => ?_, fun q => ?_⟩
  · refine c_bundlesOfHouse hw hf hp ok hB ?_
    simp (disch := omega) only [b_F_shareOfHouse_0, b_F_shareOfHouse_5, b_F_shareOfHouse_10, b_F_shareOfHouse_14, b_F_shareOfHouse_19, b_F_shareOfHouse_21, true_and, and_true, true_implies, false_implies, not_true_eq_false, not_false_eq_true, eq_self, or_true, true_or, false_or, or_false, false_and, and_false, Option.toList_some, Option.toList_none, List.cons_append, List.nil_append, n10, n01, e10, e01, e08, e18, e28, e38, e48, e58, e68, e78, lt_lit, nI_add, pk_mul, n_le, n_lt, n_eq, n_cl, n_in, n_sub, n_div, n_rem, n_ite, Nat.zero_add, F_k hf, F_k1 hf, F_l1 hf, F_r0 hf, F_r1 hf, F_k2 hf, F_l2 hf, F_rg hf, F_kg hf]
    unfold shH at h
    rw [if_neg q] at h
    exact ⟨q, h⟩
  · unfold shH at h
    rw [if_pos q] at h
    exact h
theorem c_eachHas {v : Nat} (hv : v < 1000000) (hf : isF f) (hp : Fp hi f A) (ok : rowOk B A) (hB : B < 100000000) (h1 : (∀ g, g < A 68 → v ≤ A (73 + 8 * g)) → K (some (.int 1)) hi hl) (h0 : ¬ (∀ g, g < A 68 → v ≤ A (73 + 8 * g)) → K (some (.int 0)) hi hl) : Call u 18 [.ref f, .int (nI v)] hi hl K := by
  have o6 := ok.2.2.2.2.2.1
  have loop : ∀ n g, g + n = A 68 → (∀ k, k < g → v ≤ A (73 + 8 * k)) → Wp u 18 2 [.ref f, .int (nI v), .int (nI g)] [] hi hl K := by
    intro n
    induction n with
    | zero =>
      intro g e hk
      refine wv (by decide) ?_
      simp (disch := omega) only [b_F_eachHas_0, b_F_eachHas_2, b_F_eachHas_10, b_F_eachHas_23, b_F_eachHas_25, b_F_eachHas_31, true_and, and_true, true_implies, false_implies, not_true_eq_false, not_false_eq_true, eq_self, or_true, true_or, false_or, or_false, false_and, and_false, Option.toList_some, Option.toList_none, List.cons_append, List.nil_append, n10, n01, e10, e01, e08, e18, e28, e38, e48, e58, e68, e78, lt_lit, nI_add, pk_mul, n_le, n_lt, n_eq, n_cl, n_in, n_sub, n_div, n_rem, n_ite, Nat.zero_add, F_k hf, F_k1 hf, F_l1 hf, F_r0 hf, F_r1 hf, F_k2 hf, F_l2 hf, F_rg hf, F_kg hf, Fp.s2 hp, Fp.s3 hp, Fp.s4 hp, Fp.s5 hp, Fp.s6 hp, Fp.p hp, Fp.r0 hp, Fp.r1 hp, Fp.r2 hp, Fp.r3 hp, Fp.r4 hp, Fp.r5 hp, Fp.r6 hp, Fp.r7 hp]
      exact ⟨fun _ => h1 (fun k hk2 => hk k (by omega)), fun q => absurd (by omega) q⟩
    | succ n ih =>
      intro g e hk
      obtain ⟨g1, g2, g3, g4, g5, g6, g7, g8⟩ := ok.2.2.2.2.2.2 g (by omega)
      refine wv (by decide) ?_
      simp (disch := omega) only [b_F_eachHas_0, b_F_eachHas_2, b_F_eachHas_10, b_F_eachHas_23, b_F_eachHas_25, b_F_eachHas_31, true_and, and_true, true_implies, false_implies, not_true_eq_false, not_false_eq_true, eq_self, or_true, true_or, false_or, or_false, false_and, and_false, Option.toList_some, Option.toList_none, List.cons_append, List.nil_append, n10, n01, e10, e01, e08, e18, e28, e38, e48, e58, e68, e78, lt_lit, nI_add, pk_mul, n_le, n_lt, n_eq, n_cl, n_in, n_sub, n_div, n_rem, n_ite, Nat.zero_add, F_k hf, F_k1 hf, F_l1 hf, F_r0 hf, F_r1 hf, F_k2 hf, F_l2 hf, F_rg hf, F_kg hf, Fp.s2 hp, Fp.s3 hp, Fp.s4 hp, Fp.s5 hp, Fp.s6 hp, Fp.p hp, Fp.r0 hp, Fp.r1 hp, Fp.r2 hp, Fp.r3 hp, Fp.r4 hp, Fp.r5 hp, Fp.r6 hp, Fp.r7 hp]
      refine ⟨fun q => absurd q (by omega), fun _ => ⟨fun q => ?_, fun q => ?_⟩⟩
      · refine ih (g + 1) (by omega) (fun k hk2 => ?_)
        by_cases q2 : k = g
        · subst q2; exact q
        · exact hk k (by omega)
      · exact h0 (fun z => q (z g (by omega)))
  refine i_F_eachHas ?_
  simp (disch := omega) only [b_F_eachHas_0, b_F_eachHas_2, b_F_eachHas_10, b_F_eachHas_23, b_F_eachHas_25, b_F_eachHas_31, true_and, and_true, true_implies, false_implies, not_true_eq_false, not_false_eq_true, eq_self, or_true, true_or, false_or, or_false, false_and, and_false, Option.toList_some, Option.toList_none, List.cons_append, List.nil_append, n10, n01, e10, e01, e08, e18, e28, e38, e48, e58, e68, e78, lt_lit, nI_add, pk_mul, n_le, n_lt, n_eq, n_cl, n_in, n_sub, n_div, n_rem, n_ite, Nat.zero_add, F_k hf, F_k1 hf, F_l1 hf, F_r0 hf, F_r1 hf, F_k2 hf, F_l2 hf, F_rg hf, F_kg hf]
  exact loop (A 68) 0 (by omega) (fun k hk => absurd hk (by omega))
theorem Fp.mk (h0 : ∀ k, k < 64 → hi (f + 1) k = nI (A k)) (h4 : hi f 4 = nI (A 64)) (h5 : hi f 5 = nI (A 65)) (h6 : hi f 6 = nI (A 66)) (h3 : hi f 3 = nI (A 67)) (h2 : hi f 2 = nI (A 68)) (hg : ∀ g, g < A 68 → ∀ j, j < 8 → hi (f + 3 + g) j = nI (A (69 + 8 * g + j))) : Fp hi f A := by
  intro k hk
  by_cases q : k < 64
  · rw [lh_p q, lj_p q]; exact h0 k q
  · by_cases q2 : k < 69
    · have : k = 64 ∨ k = 65 ∨ k = 66 ∨ k = 67 ∨ k = 68 := by omega
      rcases this with e | e | e | e | e <;> subst e
      · exact h4
      · exact h5
      · exact h6
      · exact h3
      · exact h2
    · obtain ⟨g, j, hj, e⟩ : ∃ g j, j < 8 ∧ k = 69 + 8 * g + j := ⟨(k - 69) / 8, (k - 69) % 8, by omega, by omega⟩
      subst e
      rw [lh_g hj, lj_g hj]
      exact hg g (by omega) j hj
theorem F_apart {e : Nat} (hf : isF f) (he : isF e) (hne : e ≠ f) : e + 12 ≤ f ∨ f + 12 ≤ e := by
  rcases hf with h | h | h <;> rcases he with h' | h' | h' <;> omega
theorem Fp.fr {hi' : HI} {e : Nat} (h : Fp hi e A) (h9 : A 68 ≤ 9) (hd : e + 12 ≤ f ∨ f + 12 ≤ e) (fr : fF f hi hi') : Fp hi' e A := by
  intro k hk
  rw [fr _ (by unfold lh; (repeat' split) <;> omega)]
  exact h k hk
theorem c_gbecomeAs {a b : Nat} (ka : kd a = 1) (kb : kd b = 1) (hab : b ≠ a) (h6 : hi b 6 = 0 ∨ hi b 6 = 1) (h7 : hi b 7 = 0 ∨ hi b 7 = 1) (h : ∀ hi', (∀ j, j < 8 → hi' a j = hi b j) → (∀ o, o ≠ a → hi' o = hi o) → K none hi' hl) : Call u 24 [.ref a, .ref b] hi hl K := by
  refine i_G_becomeAs ?_
  simp only [b_G_becomeAs_0, true_and, and_true, true_implies, false_implies, not_true_eq_false, not_false_eq_true, eq_self, or_true, true_or, false_or, or_false, false_and, and_false, Option.toList_some, Option.toList_none, List.cons_append, List.nil_append, n10, n01, e10, e01, e08, e18, e28, e38, e48, e58, e68, e78, ka, kb, u2_nh hab]
  refine ⟨h6, h7, rfl, h _ (fun j hj => ?_) (fun o ho => ?_)⟩
  · have : j = 0 ∨ j = 1 ∨ j = 2 ∨ j = 3 ∨ j = 4 ∨ j = 5 ∨ j = 6 ∨ j = 7 := by omega
    rcases this with e | e | e | e | e | e | e | e <;> subst e <;> simp (disch := omega) only [u2_eq, u2_nk, u2_nh]
  · funext j; simp only [u2_nh ho]
theorem c_becomeAs {e : Nat} (hf : isF f) (he : isF e) (hne : e ≠ f) (hp : Fp hi e A) (ok : rowOk B A) (h : ∀ hi', Fp hi' f A → fF f hi hi' → K none hi' hl) : Call u 0 [.ref f, .ref e] hi hl K := by
  have o6 := ok.2.2.2.2.2.1
  have o7 := ok.2.2.2.2.2.2
  have hd := F_apart hf he hne
  have loop : ∀ n g hi', g + n = A 68 → (∀ k, k < 64 → hi' (f + 1) k = nI (A k)) → (∀ i, i < g → ∀ j, j < 8 → hi' (f + 3 + i) j = nI (A (69 + 8 * i + j))) → fF f hi hi' → Wp u 0 17 [.ref f, .ref e, .int (nI g)] [] hi' hl K := by
    intro n
    induction n with
    | zero =>
      intro g hi' e1 a b fr
      have hp' := hp.fr o6 hd fr
      refine wv (by decide) ?_
      simp (disch := omega) only [b_F_becomeAs_0, b_F_becomeAs_17, b_F_becomeAs_25, b_F_becomeAs_40, b_F_becomeAs_46, true_and, and_true, true_implies, false_implies, not_true_eq_false, not_false_eq_true, eq_self, or_true, true_or, false_or, or_false, false_and, and_false, Option.toList_some, Option.toList_none, List.cons_append, List.nil_append, n10, n01, e10, e01, e08, e18, e28, e38, e48, e58, e68, e78, lt_lit, nI_add, pk_mul, n_le, n_lt, n_eq, n_cl, n_in, n_sub, n_div, n_rem, n_ite, Nat.zero_add, F_k hf, F_k he, Fp.s2 hp', Fp.s3 hp', Fp.s4 hp', Fp.s5 hp', Fp.s6 hp', Fp.p hp', Fp.r0 hp', Fp.r1 hp', Fp.r2 hp', Fp.r3 hp', Fp.r4 hp', Fp.r5 hp', Fp.r6 hp', Fp.r7 hp', u2_eq, u2_nk, u2_nh]
      refine ⟨fun _ => ⟨rfl, h _ ?_ ?_⟩, fun q => absurd (by omega) q⟩
      · refine Fp.mk (fun k hk => ?_) ?_ ?_ ?_ ?_ ?_ (fun g hg j hj => ?_)
        · simp (disch := omega) only [u2_eq, u2_nk, u2_nh]; exact a k hk
        · simp (disch := omega) only [u2_eq, u2_nk, u2_nh]
        · simp (disch := omega) only [u2_eq, u2_nk, u2_nh]
        · simp (disch := omega) only [u2_eq, u2_nk, u2_nh]
        · simp (disch := omega) only [u2_eq, u2_nk, u2_nh]
        · simp (disch := omega) only [u2_eq, u2_nk, u2_nh]
        · simp (disch := omega) only [u2_eq, u2_nk, u2_nh]; exact b g (by omega) j hj
      · repeat (first | exact fr | refine fF.up ?_ (by omega))
    | succ n ih =>
      intro g hi' e1 a b fr
      have hp' := hp.fr o6 hd fr
      obtain ⟨g1, g2, g3, g4, g5, g6, g7, g8⟩ := o7 g (by omega)
      refine wv (by decide) ?_
      simp (disch := omega) only [b_F_becomeAs_0, b_F_becomeAs_17, b_F_becomeAs_25, b_F_becomeAs_40, b_F_becomeAs_46, true_and, and_true, true_implies, false_implies, not_true_eq_false, not_false_eq_true, eq_self, or_true, true_or, false_or, or_false, false_and, and_false, Option.toList_some, Option.toList_none, List.cons_append, List.nil_append, n10, n01, e10, e01, e08, e18, e28, e38, e48, e58, e68, e78, lt_lit, nI_add, pk_mul, n_le, n_lt, n_eq, n_cl, n_in, n_sub, n_div, n_rem, n_ite, Nat.zero_add, F_k hf, F_k he, F_r1 hf, F_r1 he, F_k2 hf, F_k2 he, F_l2 hf, F_l2 he, F_rg hf, F_rg he, F_kg hf, Fp.s2 hp', Fp.s3 hp', Fp.s4 hp', Fp.s5 hp', Fp.s6 hp', Fp.p hp', Fp.r0 hp', Fp.r1 hp', Fp.r2 hp', Fp.r3 hp', Fp.r4 hp', Fp.r5 hp', Fp.r6 hp', Fp.r7 hp']
      refine ⟨fun q => absurd q (by omega), fun _ => ?_⟩
      have bb : ∀ x, x ≤ 1 → nI x = 0 ∨ nI x = 1 := fun x hx => by
        have : x = 0 ∨ x = 1 := by omega
        rcases this with q | q <;> subst q
        · exact .inl rfl
        · exact .inr rfl
      refine c_gbecomeAs (F_kg hf (by omega)) (F_kg he (by omega)) (by omega) (by rw [hp'.r6 (by omega)]; exact bb _ g7) (by rw [hp'.r7 (by omega)]; exact bb _ g8) (fun hi2 c d => ?_)
      simp (disch := omega) only [b_F_becomeAs_0, b_F_becomeAs_17, b_F_becomeAs_25, b_F_becomeAs_40, b_F_becomeAs_46, true_and, and_true, true_implies, false_implies, not_true_eq_false, not_false_eq_true, eq_self, or_true, true_or, false_or, or_false, false_and, and_false, Option.toList_some, Option.toList_none, List.cons_append, List.nil_append, n10, n01, e10, e01, e08, e18, e28, e38, e48, e58, e68, e78, lt_lit, nI_add, pk_mul, n_le, n_lt, n_eq, n_cl, n_in, n_sub, n_div, n_rem, n_ite, Nat.zero_add]
      refine ih (g + 1) hi2 (by omega) (fun k hk => by rw [d _ (by omega)]; exact a k hk) (fun i hi3 j hj => ?_) (fr.trans (fun o ho => d o (by omega)))
      by_cases q : i = g
      · subst q; rw [c j hj, hp'.g (by omega) hj]
      · rw [d _ (by omega)]; exact b i (by omega) j hj
  refine i_F_becomeAs ?_
  have c0 : (0 : Int32).toNatClampNeg = 0 := by decide
  have c64 : (64 : Int32).toNatClampNeg = 64 := by decide
  have l0 : ((0 : Int32) < 0) = False := by decide
  have l64 : ((64 : Int32) < 0) = False := by decide
  simp only [b_F_becomeAs_0, b_F_becomeAs_17, b_F_becomeAs_25, b_F_becomeAs_40, b_F_becomeAs_46, true_and, and_true, true_implies, false_implies, not_true_eq_false, not_false_eq_true, eq_self, or_true, true_or, false_or, or_false, false_and, and_false, Option.toList_some, Option.toList_none, List.cons_append, List.nil_append, n10, n01, e10, e01, e08, e18, e28, e38, e48, e58, e68, e78, F_k hf, F_k he, F_r0 hf, F_r0 he, F_k1 hf, F_k1 he, F_l1 hf, F_l1 he, c0, c64, l0, l64, Nat.zero_add, Nat.le_refl]
  refine loop (A 68) 0 _ (by omega) (fun k hk => ?_) (fun i hi2 => absurd hi2 (by omega)) (fun o ho => ?_)
  · simp only [cpi, if_true]
    rw [pk_cpy_in (by omega) (by omega), Nat.zero_add, Nat.sub_zero]
    exact hp.p hk
  · simp only [cpi]
    rw [if_neg (by omega)]
end F4
/-! 55.rain -/
/-! rain and a new day, the same way on both sides -/
def rainP : Nat → Nat → (Nat → Nat) → (Nat → Nat)
  | _, 0, A => A
  | k, n + 1, A => rainP (k + 1) n (up A k (A k - A k / 5))
def goneP : Nat → Nat → (Nat → Nat) → Nat
  | _, 0, _ => 0
  | k, n + 1, A => A k / 5 + goneP (k + 1) n (up A k (A k - A k / 5))
def rainG1 (A : Nat → Nat) (g : Nat) : Nat → Nat := up (up A (73 + 8 * g) (A (73 + 8 * g) - A (73 + 8 * g) / 10)) (74 + 8 * g) (A (74 + 8 * g) - A (74 + 8 * g) / 10)
def rainG : Nat → Nat → (Nat → Nat) → (Nat → Nat)
  | _, 0, A => A
  | g, n + 1, A => rainG (g + 1) n (rainG1 A g)
def goneG : Nat → Nat → (Nat → Nat) → Nat
  | _, 0, _ => 0
  | g, n + 1, A => A (73 + 8 * g) / 10 + goneG (g + 1) n (rainG1 A g)
def rainN (A : Nat → Nat) : Nat → Nat := rainG 0 (A 68) (rainP 0 64 A)
def goneN (A : Nat → Nat) : Nat := goneP 0 64 A + goneG 0 (A 68) (rainP 0 64 A)
def dayG1 (A : Nat → Nat) (g : Nat) : Nat → Nat := up (up (up A (71 + 8 * g) 0) (75 + 8 * g) 0) (76 + 8 * g) 0
def dayG : Nat → Nat → (Nat → Nat) → (Nat → Nat)
  | _, 0, A => A
  | g, n + 1, A => dayG (g + 1) n (dayG1 A g)
def dayN (A : Nat → Nat) : Nat → Nat := dayG 0 (A 68) (up A 64 0)
theorem rowOk.up_lo {A : Nat → Nat} {B k v : Nat} (ok : rowOk B A) (hk : k < 64) (hv : v ≤ 99) : rowOk B (up A k v) := by
  obtain ⟨o1, o2, o3, o4, o5, o6, o7⟩ := ok
  refine ⟨fun j hj => ?_, ?_, ?_, ?_, ?_, ?_, fun g hg => ?_⟩
  · unfold up; split
    · exact hv
    · exact o1 j hj
  · rw [up_ne _ (by omega)]; exact o2
  · rw [up_ne _ (by omega)]; exact o3
  · rw [up_ne _ (by omega)]; exact o4
  · rw [up_ne _ (by omega)]; exact o5
  · rw [up_ne _ (by omega)]; exact o6
  · rw [up_ne _ (by omega)] at hg
    unfold glOk
    simp (disch := omega) only [up_ne]
    exact o7 g hg
/-- a row with other numbers of one gleaner -/
theorem rowOk.glean {A A' : Nat → Nat} {B g : Nat} (ok : rowOk B A) (hne : ∀ j, (j < 69 + 8 * g ∨ 77 + 8 * g ≤ j) → A' j = A j) (hg : glOk B A' g) : rowOk B A' := by
  obtain ⟨o1, o2, o3, o4, o5, o6, o7⟩ := ok
  refine ⟨fun j hj => ?_, ?_, ?_, ?_, ?_, ?_, fun i hi => ?_⟩
  · rw [hne _ (by omega)]; exact o1 j hj
  · rw [hne _ (by omega)]; exact o2
  · rw [hne _ (by omega)]; exact o3
  · rw [hne _ (by omega)]; exact o4
  · rw [hne _ (by omega)]; exact o5
  · rw [hne _ (by omega)]; exact o6
  · rw [hne _ (by omega)] at hi
    by_cases q : i = g
    · subst q; exact hg
    · unfold glOk
      simp (disch := omega) only [hne]
      exact o7 i hi
theorem rainP_ok (n : Nat) : ∀ {A : Nat → Nat} {B k : Nat}, k + n ≤ 64 → rowOk B A → rowOk B (rainP k n A) ∧ (∀ j, 64 ≤ j → rainP k n A j = A j) ∧ goneP k n A ≤ 20 * n := by
  induction n with
  | zero => intro A B k _ ok; exact ⟨ok, fun _ _ => rfl, Nat.le_refl _⟩
  | succ n ih =>
    intro A B k h ok
    have h9 := ok.1 k (by omega)
    obtain ⟨a, b, c⟩ := ih (A := up A k (A k - A k / 5)) (k := k + 1) (by omega) (ok.up_lo (by omega) (by omega))
    refine ⟨a, fun j hj => ?_, ?_⟩
    · rw [rainP, b j hj, up_ne _ (by omega)]
    · rw [goneP]; omega
theorem rainG1_ne {A : Nat → Nat} {g j : Nat} (h : j < 69 + 8 * g ∨ 77 + 8 * g ≤ j) : rainG1 A g j = A j := by
  unfold rainG1; rw [up_ne _ (by omega), up_ne _ (by omega)]
theorem rainG1_ok {A : Nat → Nat} {B g : Nat} (ok : rowOk B A) (hg : g < A 68) : rowOk B (rainG1 A g) := by
  obtain ⟨g1, g2, g3, g4, g5, g6, g7, g8⟩ := ok.2.2.2.2.2.2 g hg
  refine ok.glean (g := g) (fun j hj => rainG1_ne hj) ?_
  unfold glOk rainG1
  simp (disch := omega) only [up_ne, up_eq]
  refine ⟨g1, g2, g3, g4, by omega, by omega, g7, g8⟩
theorem rainG_ok (n : Nat) : ∀ {A : Nat → Nat} {B g : Nat}, B < 100000000 → g + n ≤ A 68 → rowOk B A → rowOk B (rainG g n A) ∧ (∀ j, j < 69 → rainG g n A j = A j) ∧ goneG g n A ≤ 10000000 * n := by
  induction n with
  | zero => intro A B g _ _ ok; exact ⟨ok, fun _ _ => rfl, Nat.le_refl _⟩
  | succ n ih =>
    intro A B g hB h ok
    have h5 := (ok.2.2.2.2.2.2 g (by omega)).2.2.2.2.1
    obtain ⟨a, b, c⟩ := ih (A := rainG1 A g) (g := g + 1) hB (by rw [rainG1_ne (by omega)]; omega) (rainG1_ok ok (by omega))
    refine ⟨a, fun j hj => ?_, ?_⟩
    · rw [rainG, b j hj, rainG1_ne (by omega)]
    · rw [goneG]; omega
theorem rainN_ok {A : Nat → Nat} {B : Nat} (ok : rowOk B A) (hB : B < 100000000) : rowOk B (rainN A) := by
  obtain ⟨a, b, c⟩ := rainP_ok 64 (A := A) (k := 0) (by omega) ok
  exact (rainG_ok (A 68) (A := rainP 0 64 A) (g := 0) hB (by rw [b 68 (by omega)]; omega) a).1
theorem dayG1_ne {A : Nat → Nat} {g j : Nat} (h : j < 69 + 8 * g ∨ 77 + 8 * g ≤ j) : dayG1 A g j = A j := by
  unfold dayG1; rw [up_ne _ (by omega), up_ne _ (by omega), up_ne _ (by omega)]
theorem dayG1_ok {A : Nat → Nat} {B g : Nat} (ok : rowOk B A) (hg : g < A 68) : rowOk B (dayG1 A g) := by
  obtain ⟨g1, g2, g3, g4, g5, g6, g7, g8⟩ := ok.2.2.2.2.2.2 g hg
  refine ok.glean (g := g) (fun j hj => dayG1_ne hj) ?_
  unfold glOk dayG1
  simp (disch := omega) only [up_ne, up_eq]
  refine ⟨g1, g2, by omega, g4, g5, g6, by omega, by omega⟩
theorem dayG_ok (n : Nat) : ∀ {A : Nat → Nat} {B g : Nat}, g + n ≤ A 68 → rowOk B A → rowOk B (dayG g n A) := by
  induction n with
  | zero => intro A B g _ ok; exact ok
  | succ n ih =>
    intro A B g h ok
    exact ih (A := dayG1 A g) (g := g + 1) (by rw [dayG1_ne (by omega)]; omega) (dayG1_ok ok (by omega))
theorem rowOk.up64 {A : Nat → Nat} {B v : Nat} (ok : rowOk B A) (hv : v ≤ 10200) : rowOk B (up A 64 v) := by
  obtain ⟨o1, o2, o3, o4, o5, o6, o7⟩ := ok
  refine ⟨fun j hj => ?_, ?_, ?_, ?_, ?_, ?_, fun g hg => ?_⟩
  · rw [up_ne _ (by omega)]; exact o1 j hj
  · rw [up_eq]; exact hv
  · rw [up_ne _ (by omega)]; exact o3
  · rw [up_ne _ (by omega)]; exact o4
  · rw [up_ne _ (by omega)]; exact o5
  · rw [up_ne _ (by omega)]; exact o6
  · rw [up_ne _ (by omega)] at hg
    unfold glOk
    simp (disch := omega) only [up_ne]
    exact o7 g hg
theorem dayN_ok {A : Nat → Nat} {B : Nat} (ok : rowOk B A) : rowOk B (dayN A) := by
  refine dayG_ok (A 68) ?_ (ok.up64 (by omega))
  rw [up_ne _ (by omega)]; omega
section F5
variable {u : UV} {hi : HI} {hl : HL} {K : Option Value → HI → HL → Prop} {A : Nat → Nat} {B f : Nat}
theorem c_rainOnAll (hf : isF f) (hp : Fp hi f A) (ok : rowOk B A) (hB : B < 100000000) (h : ∀ hi', Fp hi' f (rainN A) → fF f hi hi' → K (some (.int (nI (goneN A)))) hi' hl) : Call u 15 [.ref f] hi hl K := by
  have o6 := ok.2.2.2.2.2.1
  have loop2 : ∀ n g t A' hi' l3 l4, g + n = A 68 → A' 68 = A 68 → t ≤ 1280 + 10000000 * g → Fp hi' f A' → rowOk B A' → fF f hi hi' → (∀ hi2, Fp hi2 f (rainG g n A') → fF f hi hi2 → K (some (.int (nI (t + goneG g n A')))) hi2 hl) → Wp u 15 41 [.ref f, .int (nI t), .int (nI g), l3, l4] [] hi' hl K := by
    intro n
    induction n with
    | zero =>
      intro g t A' hi' l3 l4 e e68 ht hp ok fr h
      refine wv (by decide) ?_
      simp (disch := omega) only [b_F_rainOnAll_0, b_F_rainOnAll_4, b_F_rainOnAll_10, b_F_rainOnAll_39, b_F_rainOnAll_41, b_F_rainOnAll_49, b_F_rainOnAll_103, true_and, and_true, true_implies, false_implies, not_true_eq_false, not_false_eq_true, eq_self, or_true, true_or, false_or, or_false, false_and, and_false, Option.toList_some, Option.toList_none, List.cons_append, List.nil_append, n10, n01, e10, e01, e08, e18, e28, e38, e48, e58, e68, e78, lt_lit, nI_add, pk_mul, n_le, n_lt, n_eq, n_cl, n_in, n_sub, n_div, n_rem, n_ite, Nat.zero_add, F_k hf, F_k1 hf, F_l1 hf, F_r0 hf, F_r1 hf, F_k2 hf, F_l2 hf, F_rg hf, F_kg hf, Fp.s2 hp, Fp.s3 hp, Fp.s4 hp, Fp.s5 hp, Fp.s6 hp, Fp.p hp, Fp.r0 hp, Fp.r1 hp, Fp.r2 hp, Fp.r3 hp, Fp.r4 hp, Fp.r5 hp, Fp.r6 hp, Fp.r7 hp]
      exact ⟨fun _ => h _ hp fr, fun q => absurd (by omega) q⟩
    | succ n ih =>
      intro g t A' hi' l3 l4 e e68 ht hp ok fr h
      obtain ⟨g1, g2, g3, g4, g5, g6, g7, g8⟩ := ok.2.2.2.2.2.2 g (by omega)
      refine wv (by decide) ?_
      simp (disch := omega) only [b_F_rainOnAll_0, b_F_rainOnAll_4, b_F_rainOnAll_10, b_F_rainOnAll_39, b_F_rainOnAll_41, b_F_rainOnAll_49, b_F_rainOnAll_103, true_and, and_true, true_implies, false_implies, not_true_eq_false, not_false_eq_true, eq_self, or_true, true_or, false_or, or_false, false_and, and_false, Option.toList_some, Option.toList_none, List.cons_append, List.nil_append, n10, n01, e10, e01, e08, e18, e28, e38, e48, e58, e68, e78, lt_lit, nI_add, pk_mul, n_le, n_lt, n_eq, n_cl, n_in, n_sub, n_div, n_rem, n_ite, Nat.zero_add, F_k hf, F_k1 hf, F_l1 hf, F_r0 hf, F_r1 hf, F_k2 hf, F_l2 hf, F_rg hf, F_kg hf, Fp.s2 hp, Fp.s3 hp, Fp.s4 hp, Fp.s5 hp, Fp.s6 hp, Fp.p hp, Fp.r0 hp, Fp.r1 hp, Fp.r2 hp, Fp.r3 hp, Fp.r4 hp, Fp.r5 hp, Fp.r6 hp, Fp.r7 hp, u2_eq, u2_nk, u2_nh]
      refine ⟨fun q => absurd q (by omega), fun _ => ⟨by omega, by omega, ?_⟩⟩
      refine ih (g + 1) (t + A' (73 + 8 * g) / 10) (rainG1 A' g) _ _ _ (by omega) (by rw [rainG1_ne (by omega)]; exact e68) (by omega) hp.ug4.ug5 (rainG1_ok ok (by omega)) ((fr.up (by omega)).up (by omega)) (fun hi2 a b => ?_)
      rw [rainG, goneG, ← Nat.add_assoc] at h
      exact h hi2 a b
  have loop1 : ∀ n k t A' hi' l3 l4, k + n = 64 → A' 68 = A 68 → t ≤ 20 * k → Fp hi' f A' → rowOk B A' → fF f hi hi' → (∀ hi2, Fp hi2 f (rainG 0 (A 68) (rainP k n A')) → fF f hi hi2 → K (some (.int (nI (t + goneP k n A' + goneG 0 (A 68) (rainP k n A'))))) hi2 hl) → Wp u 15 4 [.ref f, .int (nI t), .int (nI k), l3, l4] [] hi' hl K := by
    intro n
    induction n with
    | zero =>
      intro k t A' hi' l3 l4 e e68 ht hp ok fr h
      refine wv (by decide) ?_
      simp (disch := omega) only [b_F_rainOnAll_0, b_F_rainOnAll_4, b_F_rainOnAll_10, b_F_rainOnAll_39, b_F_rainOnAll_41, b_F_rainOnAll_49, b_F_rainOnAll_103, true_and, and_true, true_implies, false_implies, not_true_eq_false, not_false_eq_true, eq_self, or_true, true_or, false_or, or_false, false_and, and_false, Option.toList_some, Option.toList_none, List.cons_append, List.nil_append, n10, n01, e10, e01, e08, e18, e28, e38, e48, e58, e68, e78, lt_lit, nI_add, pk_mul, n_le, n_lt, n_eq, n_cl, n_in, n_sub, n_div, n_rem, n_ite, Nat.zero_add, F_k hf, F_k1 hf, F_l1 hf, F_r0 hf, F_r1 hf, F_k2 hf, F_l2 hf, F_rg hf, F_kg hf, Fp.s2 hp, Fp.s3 hp, Fp.s4 hp, Fp.s5 hp, Fp.s6 hp, Fp.p hp, Fp.r0 hp, Fp.r1 hp, Fp.r2 hp, Fp.r3 hp, Fp.r4 hp, Fp.r5 hp, Fp.r6 hp, Fp.r7 hp]
      exact ⟨fun _ => loop2 (A 68) 0 t A' hi' _ _ (by omega) e68 (by omega) hp ok fr h, fun q => absurd (by omega) q⟩
    | succ n ih =>
      intro k t A' hi' l3 l4 e e68 ht hp ok fr h
      have h9 := ok.1 k (by omega)
      refine wv (by decide) ?_
      simp (disch := omega) only [b_F_rainOnAll_0, b_F_rainOnAll_4, b_F_rainOnAll_10, b_F_rainOnAll_39, b_F_rainOnAll_41, b_F_rainOnAll_49, b_F_rainOnAll_103, true_and, and_true, true_implies, false_implies, not_true_eq_false, not_false_eq_true, eq_self, or_true, true_or, false_or, or_false, false_and, and_false, Option.toList_some, Option.toList_none, List.cons_append, List.nil_append, n10, n01, e10, e01, e08, e18, e28, e38, e48, e58, e68, e78, lt_lit, nI_add, pk_mul, n_le, n_lt, n_eq, n_cl, n_in, n_sub, n_div, n_rem, n_ite, Nat.zero_add, F_k hf, F_k1 hf, F_l1 hf, F_r0 hf, F_r1 hf, F_k2 hf, F_l2 hf, F_rg hf, F_kg hf, Fp.s2 hp, Fp.s3 hp, Fp.s4 hp, Fp.s5 hp, Fp.s6 hp, Fp.p hp, Fp.r0 hp, Fp.r1 hp, Fp.r2 hp, Fp.r3 hp, Fp.r4 hp, Fp.r5 hp, Fp.r6 hp, Fp.r7 hp, u2_eq, u2_nk, u2_nh]
      refine ⟨fun q => absurd q (by omega), fun _ => ⟨by omega, ?_⟩⟩
      refine ih (k + 1) _ (up A' k (A' k - A' k / 5)) _ _ _ (by omega) (by rw [up_ne _ (by omega)]; exact e68) (by omega) (hp.upp (by omega)) (ok.up_lo (by omega) (by omega)) (fr.up (by omega)) (fun hi2 a b => ?_)
      rw [rainP, goneP, ← Nat.add_assoc] at h
      exact h hi2 a b
  refine i_F_rainOnAll ?_
  simp (disch := omega) only [b_F_rainOnAll_0, b_F_rainOnAll_4, b_F_rainOnAll_10, b_F_rainOnAll_39, b_F_rainOnAll_41, b_F_rainOnAll_49, b_F_rainOnAll_103, true_and, and_true, true_implies, false_implies, not_true_eq_false, not_false_eq_true, eq_self, or_true, true_or, false_or, or_false, false_and, and_false, Option.toList_some, Option.toList_none, List.cons_append, List.nil_append, n10, n01, e10, e01, e08, e18, e28, e38, e48, e58, e68, e78, lt_lit, nI_add, pk_mul, n_le, n_lt, n_eq, n_cl, n_in, n_sub, n_div, n_rem, n_ite, Nat.zero_add, F_k hf, F_k1 hf, F_l1 hf, F_r0 hf, F_r1 hf, F_k2 hf, F_l2 hf, F_rg hf, F_kg hf]
  refine loop1 64 0 0 A hi _ _ (by omega) rfl (by omega) hp ok (fF.refl f hi) (fun hi2 a b => ?_)
  rw [Nat.zero_add]; exact h hi2 a b
theorem c_startDay (hf : isF f) (hp : Fp hi f A) (ok : rowOk B A) (h : ∀ hi', Fp hi' f (dayN A) → fF f hi hi' → K none hi' hl) : Call u 16 [.ref f] hi hl K := by
  have o6 := ok.2.2.2.2.2.1
  have loop : ∀ n g A' hi', g + n = A 68 → A' 68 = A 68 → Fp hi' f A' → fF f hi hi' → (∀ hi2, Fp hi2 f (dayG g n A') → fF f hi hi2 → K none hi2 hl) → Wp u 16 7 [.ref f, .int (nI g)] [] hi' hl K := by
    intro n
    induction n with
    | zero =>
      intro g A' hi' e e68 hp fr h
      refine wv (by decide) ?_
      simp (disch := omega) only [b_F_startDay_0, b_F_startDay_7, b_F_startDay_15, b_F_startDay_24, b_F_startDay_30, true_and, and_true, true_implies, false_implies, not_true_eq_false, not_false_eq_true, eq_self, or_true, true_or, false_or, or_false, false_and, and_false, Option.toList_some, Option.toList_none, List.cons_append, List.nil_append, n10, n01, e10, e01, e08, e18, e28, e38, e48, e58, e68, e78, lt_lit, nI_add, pk_mul, n_le, n_lt, n_eq, n_cl, n_in, n_sub, n_div, n_rem, n_ite, Nat.zero_add, F_k hf, F_k1 hf, F_l1 hf, F_r0 hf, F_r1 hf, F_k2 hf, F_l2 hf, F_rg hf, F_kg hf, Fp.s2 hp, Fp.s3 hp, Fp.s4 hp, Fp.s5 hp, Fp.s6 hp, Fp.p hp, Fp.r0 hp, Fp.r1 hp, Fp.r2 hp, Fp.r3 hp, Fp.r4 hp, Fp.r5 hp, Fp.r6 hp, Fp.r7 hp]
      exact ⟨fun _ => ⟨rfl, h _ hp fr⟩, fun q => absurd (by omega) q⟩
    | succ n ih =>
      intro g A' hi' e e68 hp fr h
      refine wv (by decide) ?_
      simp (disch := omega) only [b_F_startDay_0, b_F_startDay_7, b_F_startDay_15, b_F_startDay_24, b_F_startDay_30, true_and, and_true, true_implies, false_implies, not_true_eq_false, not_false_eq_true, eq_self, or_true, true_or, false_or, or_false, false_and, and_false, Option.toList_some, Option.toList_none, List.cons_append, List.nil_append, n10, n01, e10, e01, e08, e18, e28, e38, e48, e58, e68, e78, lt_lit, nI_add, pk_mul, n_le, n_lt, n_eq, n_cl, n_in, n_sub, n_div, n_rem, n_ite, Nat.zero_add, F_k hf, F_k1 hf, F_l1 hf, F_r0 hf, F_r1 hf, F_k2 hf, F_l2 hf, F_rg hf, F_kg hf, Fp.s2 hp, Fp.s3 hp, Fp.s4 hp, Fp.s5 hp, Fp.s6 hp, Fp.p hp, Fp.r0 hp, Fp.r1 hp, Fp.r2 hp, Fp.r3 hp, Fp.r4 hp, Fp.r5 hp, Fp.r6 hp, Fp.r7 hp, u2_eq, u2_nk, u2_nh]
      refine ⟨fun q => absurd q (by omega), fun _ => ?_⟩
      refine c_goToStart (F_kg hf (by omega)) ?_
      simp (disch := omega) only [b_F_startDay_0, b_F_startDay_7, b_F_startDay_15, b_F_startDay_24, b_F_startDay_30, true_and, and_true, true_implies, false_implies, not_true_eq_false, not_false_eq_true, eq_self, or_true, true_or, false_or, or_false, false_and, and_false, Option.toList_some, Option.toList_none, List.cons_append, List.nil_append, n10, n01, e10, e01, e08, e18, e28, e38, e48, e58, e68, e78, lt_lit, nI_add, pk_mul, n_le, n_lt, n_eq, n_cl, n_in, n_sub, n_div, n_rem, n_ite, Nat.zero_add, F_k hf, F_k1 hf, F_l1 hf, F_r0 hf, F_r1 hf, F_k2 hf, F_l2 hf, F_rg hf, F_kg hf]
      exact ih (g + 1) (dayG1 A' g) _ (by omega) (by rw [dayG1_ne (by omega)]; exact e68) hp.ug2.ug6.ug7 (((fr.up (by omega)).up (by omega)).up (by omega)) (fun hi2 a b => h hi2 a b)
  refine i_F_startDay ?_
  simp (disch := omega) only [b_F_startDay_0, b_F_startDay_7, b_F_startDay_15, b_F_startDay_24, b_F_startDay_30, true_and, and_true, true_implies, false_implies, not_true_eq_false, not_false_eq_true, eq_self, or_true, true_or, false_or, or_false, false_and, and_false, Option.toList_some, Option.toList_none, List.cons_append, List.nil_append, n10, n01, e10, e01, e08, e18, e28, e38, e48, e58, e68, e78, lt_lit, nI_add, pk_mul, n_le, n_lt, n_eq, n_cl, n_in, n_sub, n_div, n_rem, n_ite, Nat.zero_add, F_k hf, F_k1 hf, F_l1 hf, F_r0 hf, F_r1 hf, F_k2 hf, F_l2 hf, F_rg hf, F_kg hf]
  exact loop (A 68) 0 (up A 64 0) _ (by omega) (by rw [up_ne _ (by omega)]) hp.up4 ((fF.refl f hi).up (by omega)) h
end F5
section M9
variable {u : UV} {hi : HI} {hl : HL} {K : Option Value → HI → HL → Prop} {A : Nat → Nat} {B : Nat}
theorem c_mrain (hr : Mr hi A) (ok : rowOk B A) (hB : B < 100000000) (h : ∀ hi', Mr hi' (rainN A) → fM hi hi' → K (some (.int (nI (goneN A)))) hi' hl) : Call u 155 [.ref 51] hi hl K := by
  have o6 := ok.2.2.2.2.2.1
  have loop2 : ∀ n g t A' hi' l3, g + n = A 68 → A' 68 = A 68 → t ≤ 1280 + 10000000 * g → Mr hi' A' → rowOk B A' → fM hi hi' → (∀ hi2, Mr hi2 (rainG g n A') → fM hi hi2 → K (some (.int (nI (t + goneG g n A')))) hi2 hl) → Wp u 155 45 [.ref 51, .int (nI t), .int (nI g), l3] [] hi' hl K := by
    intro n
    induction n with
    | zero =>
      intro g t A' hi' l3 e e68 ht hp ok fr h
      have hr' : ∀ k, k < 69 + 8 * A' 68 → hi' 52 k = nI (A' k) := hp
      refine wv (by decide) ?_
      simp (disch := omega) only [b_M_rain_0, b_M_rain_4, b_M_rain_10, b_M_rain_43, b_M_rain_45, b_M_rain_56, b_M_rain_62, b_M_rain_75, b_M_rain_89, b_M_rain_97, b_M_rain_112, true_and, and_true, true_implies, false_implies, not_true_eq_false, not_false_eq_true, eq_self, or_true, true_or, false_or, or_false, false_and, and_false, Option.toList_some, Option.toList_none, List.cons_append, List.nil_append, n10, n01, e10, e01, e08, e18, e28, e38, e48, e58, e68, e78, lt_lit, nI_add, pk_mul, n_le, n_lt, n_eq, n_cl, n_in, n_sub, n_div, n_rem, n_ite, Nat.zero_add, r_51_0, r_51_1, r_51_2, r_51_4, r_51_6, r_51_13, r_51_14, r_51_18, r_51_19, r_51_20, r_51_21, k_51, k_52, k_53, k_54, k_55, k_56, k_57, k_58, k_59, k_60, k_61, k_62, n_52, n_53, n_54, n_55, n_56, n_57, n_58, n_59, n_60, n_61, n_62, hr']
      exact ⟨fun _ => h _ hp fr, fun q => absurd (by omega) q⟩
    | succ n ih =>
      intro g t A' hi' l3 e e68 ht hp ok fr h
      have hr' : ∀ k, k < 69 + 8 * A' 68 → hi' 52 k = nI (A' k) := hp
      obtain ⟨g1, g2, g3, g4, g5, g6, g7, g8⟩ := ok.2.2.2.2.2.2 g (by omega)
      refine wv (by decide) ?_
      simp (disch := omega) only [b_M_rain_0, b_M_rain_4, b_M_rain_10, b_M_rain_43, b_M_rain_45, b_M_rain_56, b_M_rain_62, b_M_rain_75, b_M_rain_89, b_M_rain_97, b_M_rain_112, true_and, and_true, true_implies, false_implies, not_true_eq_false, not_false_eq_true, eq_self, or_true, true_or, false_or, or_false, false_and, and_false, Option.toList_some, Option.toList_none, List.cons_append, List.nil_append, n10, n01, e10, e01, e08, e18, e28, e38, e48, e58, e68, e78, lt_lit, nI_add, pk_mul, n_le, n_lt, n_eq, n_cl, n_in, n_sub, n_div, n_rem, n_ite, Nat.zero_add, r_51_0, r_51_1, r_51_2, r_51_4, r_51_6, r_51_13, r_51_14, r_51_18, r_51_19, r_51_20, r_51_21, k_51, k_52, k_53, k_54, k_55, k_56, k_57, k_58, k_59, k_60, k_61, k_62, n_52, n_53, n_54, n_55, n_56, n_57, n_58, n_59, n_60, n_61, n_62, hr']
      refine ⟨fun q => absurd q (by omega), fun _ => ?_⟩
      refine c_gleanerIs hp (by omega) (by omega) (by omega) ?_
      simp (disch := omega) only [b_M_rain_0, b_M_rain_4, b_M_rain_10, b_M_rain_43, b_M_rain_45, b_M_rain_56, b_M_rain_62, b_M_rain_75, b_M_rain_89, b_M_rain_97, b_M_rain_112, true_and, and_true, true_implies, false_implies, not_true_eq_false, not_false_eq_true, eq_self, or_true, true_or, false_or, or_false, false_and, and_false, Option.toList_some, Option.toList_none, List.cons_append, List.nil_append, n10, n01, e10, e01, e08, e18, e28, e38, e48, e58, e68, e78, lt_lit, nI_add, pk_mul, n_le, n_lt, n_eq, n_cl, n_in, n_sub, n_div, n_rem, n_ite, Nat.zero_add, r_51_0, r_51_1, r_51_2, r_51_4, r_51_6, r_51_13, r_51_14, r_51_18, r_51_19, r_51_20, r_51_21, k_51, k_52, k_53, k_54, k_55, k_56, k_57, k_58, k_59, k_60, k_61, k_62, n_52, n_53, n_54, n_55, n_56, n_57, n_58, n_59, n_60, n_61, n_62, hr', ix1, ix2, ix3, ix4, ix5, ix6, ix7, Nat.add_zero, ofn, x88]
      refine ⟨by omega, ?_⟩
      refine c_at (by omega) (by omega) ?_
      simp (disch := omega) only [b_M_rain_0, b_M_rain_4, b_M_rain_10, b_M_rain_43, b_M_rain_45, b_M_rain_56, b_M_rain_62, b_M_rain_75, b_M_rain_89, b_M_rain_97, b_M_rain_112, true_and, and_true, true_implies, false_implies, not_true_eq_false, not_false_eq_true, eq_self, or_true, true_or, false_or, or_false, false_and, and_false, Option.toList_some, Option.toList_none, List.cons_append, List.nil_append, n10, n01, e10, e01, e08, e18, e28, e38, e48, e58, e68, e78, lt_lit, nI_add, pk_mul, n_le, n_lt, n_eq, n_cl, n_in, n_sub, n_div, n_rem, n_ite, Nat.zero_add, r_51_0, r_51_1, r_51_2, r_51_4, r_51_6, r_51_13, r_51_14, r_51_18, r_51_19, r_51_20, r_51_21, k_51, k_52, k_53, k_54, k_55, k_56, k_57, k_58, k_59, k_60, k_61, k_62, n_52, n_53, n_54, n_55, n_56, n_57, n_58, n_59, n_60, n_61, n_62, hr', ix1, ix2, ix3, ix4, ix5, ix6, ix7, Nat.add_zero, ofn, x88]
      refine c_at (by omega) (by omega) ?_
      have hp2 := hp.up (k := 73 + 8 * g) (v := A' (73 + 8 * g) - A' (73 + 8 * g) / 10) (by omega)
      have q68 : up A' (73 + 8 * g) (A' (73 + 8 * g) - A' (73 + 8 * g) / 10) 68 = A 68 := by rw [up_ne _ (by omega)]; exact e68
      simp (disch := omega) only [b_M_rain_0, b_M_rain_4, b_M_rain_10, b_M_rain_43, b_M_rain_45, b_M_rain_56, b_M_rain_62, b_M_rain_75, b_M_rain_89, b_M_rain_97, b_M_rain_112, true_and, and_true, true_implies, false_implies, not_true_eq_false, not_false_eq_true, eq_self, or_true, true_or, false_or, or_false, false_and, and_false, Option.toList_some, Option.toList_none, List.cons_append, List.nil_append, n10, n01, e10, e01, e08, e18, e28, e38, e48, e58, e68, e78, lt_lit, nI_add, pk_mul, n_le, n_lt, n_eq, n_cl, n_in, n_sub, n_div, n_rem, n_ite, Nat.zero_add, r_51_0, r_51_1, r_51_2, r_51_4, r_51_6, r_51_13, r_51_14, r_51_18, r_51_19, r_51_20, r_51_21, k_51, k_52, k_53, k_54, k_55, k_56, k_57, k_58, k_59, k_60, k_61, k_62, n_52, n_53, n_54, n_55, n_56, n_57, n_58, n_59, n_60, n_61, n_62, hr', ix1, ix2, ix3, ix4, ix5, ix6, ix7, Nat.add_zero, ofn, x88, u2_eq, u2_nk, u2_nh]
      refine c_gleanerIs hp2 (by omega) (by omega) (by omega) ?_
      simp (disch := omega) only [b_M_rain_0, b_M_rain_4, b_M_rain_10, b_M_rain_43, b_M_rain_45, b_M_rain_56, b_M_rain_62, b_M_rain_75, b_M_rain_89, b_M_rain_97, b_M_rain_112, true_and, and_true, true_implies, false_implies, not_true_eq_false, not_false_eq_true, eq_self, or_true, true_or, false_or, or_false, false_and, and_false, Option.toList_some, Option.toList_none, List.cons_append, List.nil_append, n10, n01, e10, e01, e08, e18, e28, e38, e48, e58, e68, e78, lt_lit, nI_add, pk_mul, n_le, n_lt, n_eq, n_cl, n_in, n_sub, n_div, n_rem, n_ite, Nat.zero_add, r_51_0, r_51_1, r_51_2, r_51_4, r_51_6, r_51_13, r_51_14, r_51_18, r_51_19, r_51_20, r_51_21, k_51, k_52, k_53, k_54, k_55, k_56, k_57, k_58, k_59, k_60, k_61, k_62, n_52, n_53, n_54, n_55, n_56, n_57, n_58, n_59, n_60, n_61, n_62, hr', ix1, ix2, ix3, ix4, ix5, ix6, ix7, Nat.add_zero, ofn, x88, u2_eq, u2_nk, u2_nh, up_ne]
      refine ⟨by omega, ?_⟩
      refine ih (g + 1) _ (rainG1 A' g) _ _ (by omega) (by rw [rainG1_ne (by omega)]; exact e68) (by omega) (hp2.up (by omega)) (rainG1_ok ok (by omega)) ((fr.up _ _).up _ _) (fun hi2 a b => ?_)
      rw [rainG, goneG, ← Nat.add_assoc] at h
      exact h hi2 a b
  have loop1 : ∀ n k t A' hi' l3, k + n = 64 → A' 68 = A 68 → t ≤ 20 * k → Mr hi' A' → rowOk B A' → fM hi hi' → (∀ hi2, Mr hi2 (rainG 0 (A 68) (rainP k n A')) → fM hi hi2 → K (some (.int (nI (t + goneP k n A' + goneG 0 (A 68) (rainP k n A'))))) hi2 hl) → Wp u 155 4 [.ref 51, .int (nI t), .int (nI k), l3] [] hi' hl K := by
    intro n
    induction n with
    | zero =>
      intro k t A' hi' l3 e e68 ht hp ok fr h
      refine wv (by decide) ?_
      simp (disch := omega) only [b_M_rain_0, b_M_rain_4, b_M_rain_10, b_M_rain_43, b_M_rain_45, b_M_rain_56, b_M_rain_62, b_M_rain_75, b_M_rain_89, b_M_rain_97, b_M_rain_112, true_and, and_true, true_implies, false_implies, not_true_eq_false, not_false_eq_true, eq_self, or_true, true_or, false_or, or_false, false_and, and_false, Option.toList_some, Option.toList_none, List.cons_append, List.nil_append, n10, n01, e10, e01, e08, e18, e28, e38, e48, e58, e68, e78, lt_lit, nI_add, pk_mul, n_le, n_lt, n_eq, n_cl, n_in, n_sub, n_div, n_rem, n_ite, Nat.zero_add, r_51_0, r_51_1, r_51_2, r_51_4, r_51_6, r_51_13, r_51_14, r_51_18, r_51_19, r_51_20, r_51_21, k_51, k_52, k_53, k_54, k_55, k_56, k_57, k_58, k_59, k_60, k_61, k_62, n_52, n_53, n_54, n_55, n_56, n_57, n_58, n_59, n_60, n_61, n_62]
      exact ⟨fun _ => loop2 (A 68) 0 t A' hi' _ (by omega) e68 (by omega) hp ok fr h, fun q => absurd (by omega) q⟩
    | succ n ih =>
      intro k t A' hi' l3 e e68 ht hp ok fr h
      have hr' : ∀ k, k < 69 + 8 * A' 68 → hi' 52 k = nI (A' k) := hp
      have h9 := ok.1 k (by omega)
      refine wv (by decide) ?_
      simp (disch := omega) only [b_M_rain_0, b_M_rain_4, b_M_rain_10, b_M_rain_43, b_M_rain_45, b_M_rain_56, b_M_rain_62, b_M_rain_75, b_M_rain_89, b_M_rain_97, b_M_rain_112, true_and, and_true, true_implies, false_implies, not_true_eq_false, not_false_eq_true, eq_self, or_true, true_or, false_or, or_false, false_and, and_false, Option.toList_some, Option.toList_none, List.cons_append, List.nil_append, n10, n01, e10, e01, e08, e18, e28, e38, e48, e58, e68, e78, lt_lit, nI_add, pk_mul, n_le, n_lt, n_eq, n_cl, n_in, n_sub, n_div, n_rem, n_ite, Nat.zero_add, r_51_0, r_51_1, r_51_2, r_51_4, r_51_6, r_51_13, r_51_14, r_51_18, r_51_19, r_51_20, r_51_21, k_51, k_52, k_53, k_54, k_55, k_56, k_57, k_58, k_59, k_60, k_61, k_62, n_52, n_53, n_54, n_55, n_56, n_57, n_58, n_59, n_60, n_61, n_62, hr']
      refine ⟨fun q => absurd q (by omega), fun _ => ⟨by omega, ?_⟩⟩
      refine ih (k + 1) _ (up A' k (A' k - A' k / 5)) _ _ (by omega) (by rw [up_ne _ (by omega)]; exact e68) (by omega) (hp.up (by omega)) (ok.up_lo (by omega) (by omega)) (fr.up _ _) (fun hi2 a b => ?_)
      rw [rainP, goneP, ← Nat.add_assoc] at h
      exact h hi2 a b
  refine i_M_rain ?_
  simp (disch := omega) only [b_M_rain_0, b_M_rain_4, b_M_rain_10, b_M_rain_43, b_M_rain_45, b_M_rain_56, b_M_rain_62, b_M_rain_75, b_M_rain_89, b_M_rain_97, b_M_rain_112, true_and, and_true, true_implies, false_implies, not_true_eq_false, not_false_eq_true, eq_self, or_true, true_or, false_or, or_false, false_and, and_false, Option.toList_some, Option.toList_none, List.cons_append, List.nil_append, n10, n01, e10, e01, e08, e18, e28, e38, e48, e58, e68, e78, lt_lit, nI_add, pk_mul, n_le, n_lt, n_eq, n_cl, n_in, n_sub, n_div, n_rem, n_ite, Nat.zero_add, r_51_0, r_51_1, r_51_2, r_51_4, r_51_6, r_51_13, r_51_14, r_51_18, r_51_19, r_51_20, r_51_21, k_51, k_52, k_53, k_54, k_55, k_56, k_57, k_58, k_59, k_60, k_61, k_62, n_52, n_53, n_54, n_55, n_56, n_57, n_58, n_59, n_60, n_61, n_62]
  refine loop1 64 0 0 A hi _ (by omega) rfl (by omega) hr ok (fM.refl hi) (fun hi2 a b => ?_)
  rw [Nat.zero_add]; exact h hi2 a b
theorem c_doneOnes (hr : Mr hi A) (ok : rowOk B A) (h : K (some (.int (nI (dnN A)))) hi hl) : Call u 156 [.ref 51] hi hl K := by
  have o6 := ok.2.2.2.2.2.1
  have hr' : ∀ k, k < 69 + 8 * A 68 → hi 52 k = nI (A k) := hr
  have loop : ∀ n g s, g + n = A 68 → s ≤ g → K (some (.int (nI (s + smN (fun g => A (76 + 8 * g)) g n)))) hi hl → Wp u 156 4 [.ref 51, .int (nI s), .int (nI g)] [] hi hl K := by
    intro n
    induction n with
    | zero =>
      intro g s e hs h
      refine wv (by decide) ?_
      simp (disch := omega) only [b_M_doneOnes_0, b_M_doneOnes_4, b_M_doneOnes_15, b_M_doneOnes_23, b_M_doneOnes_31, true_and, and_true, true_implies, false_implies, not_true_eq_false, not_false_eq_true, eq_self, or_true, true_or, false_or, or_false, false_and, and_false, Option.toList_some, Option.toList_none, List.cons_append, List.nil_append, n10, n01, e10, e01, e08, e18, e28, e38, e48, e58, e68, e78, lt_lit, nI_add, pk_mul, n_le, n_lt, n_eq, n_cl, n_in, n_sub, n_div, n_rem, n_ite, Nat.zero_add, r_51_0, r_51_1, r_51_2, r_51_4, r_51_6, r_51_13, r_51_14, r_51_18, r_51_19, r_51_20, r_51_21, k_51, k_52, k_53, k_54, k_55, k_56, k_57, k_58, k_59, k_60, k_61, k_62, n_52, n_53, n_54, n_55, n_56, n_57, n_58, n_59, n_60, n_61, n_62, hr']
      exact ⟨fun _ => h, fun q => absurd (by omega) q⟩
    | succ n ih =>
      intro g s e hs h
      obtain ⟨g1, g2, g3, g4, g5, g6, g7, g8⟩ := ok.2.2.2.2.2.2 g (by omega)
      refine wv (by decide) ?_
      simp (disch := omega) only [b_M_doneOnes_0, b_M_doneOnes_4, b_M_doneOnes_15, b_M_doneOnes_23, b_M_doneOnes_31, true_and, and_true, true_implies, false_implies, not_true_eq_false, not_false_eq_true, eq_self, or_true, true_or, false_or, or_false, false_and, and_false, Option.toList_some, Option.toList_none, List.cons_append, List.nil_append, n10, n01, e10, e01, e08, e18, e28, e38, e48, e58, e68, e78, lt_lit, nI_add, pk_mul, n_le, n_lt, n_eq, n_cl, n_in, n_sub, n_div, n_rem, n_ite, Nat.zero_add, r_51_0, r_51_1, r_51_2, r_51_4, r_51_6, r_51_13, r_51_14, r_51_18, r_51_19, r_51_20, r_51_21, k_51, k_52, k_53, k_54, k_55, k_56, k_57, k_58, k_59, k_60, k_61, k_62, n_52, n_53, n_54, n_55, n_56, n_57, n_58, n_59, n_60, n_61, n_62, hr']
      refine ⟨fun q => absurd q (by omega), fun _ => ?_⟩
      refine c_gleanerIs hr (by omega) (by omega) (by omega) ?_
      simp (disch := omega) only [b_M_doneOnes_0, b_M_doneOnes_4, b_M_doneOnes_15, b_M_doneOnes_23, b_M_doneOnes_31, true_and, and_true, true_implies, false_implies, not_true_eq_false, not_false_eq_true, eq_self, or_true, true_or, false_or, or_false, false_and, and_false, Option.toList_some, Option.toList_none, List.cons_append, List.nil_append, n10, n01, e10, e01, e08, e18, e28, e38, e48, e58, e68, e78, lt_lit, nI_add, pk_mul, n_le, n_lt, n_eq, n_cl, n_in, n_sub, n_div, n_rem, n_ite, Nat.zero_add, r_51_0, r_51_1, r_51_2, r_51_4, r_51_6, r_51_13, r_51_14, r_51_18, r_51_19, r_51_20, r_51_21, k_51, k_52, k_53, k_54, k_55, k_56, k_57, k_58, k_59, k_60, k_61, k_62, n_52, n_53, n_54, n_55, n_56, n_57, n_58, n_59, n_60, n_61, n_62, hr', ix1, ix2, ix3, ix4, ix5, ix6, ix7, Nat.add_zero, ofn, x88]
      refine ih (g + 1) _ (by omega) (by omega) ?_
      rw [smN, ← Nat.add_assoc] at h; exact h
  refine i_M_doneOnes ?_
  simp (disch := omega) only [b_M_doneOnes_0, b_M_doneOnes_4, b_M_doneOnes_15, b_M_doneOnes_23, b_M_doneOnes_31, true_and, and_true, true_implies, false_implies, not_true_eq_false, not_false_eq_true, eq_self, or_true, true_or, false_or, or_false, false_and, and_false, Option.toList_some, Option.toList_none, List.cons_append, List.nil_append, n10, n01, e10, e01, e08, e18, e28, e38, e48, e58, e68, e78, lt_lit, nI_add, pk_mul, n_le, n_lt, n_eq, n_cl, n_in, n_sub, n_div, n_rem, n_ite, Nat.zero_add, r_51_0, r_51_1, r_51_2, r_51_4, r_51_6, r_51_13, r_51_14, r_51_18, r_51_19, r_51_20, r_51_21, k_51, k_52, k_53, k_54, k_55, k_56, k_57, k_58, k_59, k_60, k_61, k_62, n_52, n_53, n_54, n_55, n_56, n_57, n_58, n_59, n_60, n_61, n_62]
  refine loop (A 68) 0 0 (by omega) (by omega) ?_
  rw [Nat.zero_add]; exact h
theorem c_mday (hr : Mr hi A) (ok : rowOk B A) (h : ∀ hi', Mr hi' (dayN A) → fM hi hi' → K (some (.int (nI (dnN A)))) hi' hl) : Call u 157 [.ref 51] hi hl K := by
  have o6 := ok.2.2.2.2.2.1
  have loop : ∀ n g A' hi', g + n = A 68 → A' 68 = A 68 → Mr hi' A' → fM hi hi' → (∀ hi2, Mr hi2 (dayG g n A') → fM hi hi2 → K (some (.int (nI (dnN A)))) hi2 hl) → Wp u 157 15 [.ref 51, .int (nI (dnN A)), .int (nI g)] [] hi' hl K := by
    intro n
    induction n with
    | zero =>
      intro g A' hi' e e68 hp fr h
      have hr' : ∀ k, k < 69 + 8 * A' 68 → hi' 52 k = nI (A' k) := hp
      refine wv (by decide) ?_
      simp (disch := omega) only [b_M_day_0, b_M_day_4, b_M_day_15, b_M_day_26, b_M_day_35, b_M_day_47, b_M_day_59, b_M_day_67, true_and, and_true, true_implies, false_implies, not_true_eq_false, not_false_eq_true, eq_self, or_true, true_or, false_or, or_false, false_and, and_false, Option.toList_some, Option.toList_none, List.cons_append, List.nil_append, n10, n01, e10, e01, e08, e18, e28, e38, e48, e58, e68, e78, lt_lit, nI_add, pk_mul, n_le, n_lt, n_eq, n_cl, n_in, n_sub, n_div, n_rem, n_ite, Nat.zero_add, r_51_0, r_51_1, r_51_2, r_51_4, r_51_6, r_51_13, r_51_14, r_51_18, r_51_19, r_51_20, r_51_21, k_51, k_52, k_53, k_54, k_55, k_56, k_57, k_58, k_59, k_60, k_61, k_62, n_52, n_53, n_54, n_55, n_56, n_57, n_58, n_59, n_60, n_61, n_62, hr']
      exact ⟨fun _ => h _ hp fr, fun q => absurd (by omega) q⟩
    | succ n ih =>
      intro g A' hi' e e68 hp fr h
      have hr' : ∀ k, k < 69 + 8 * A' 68 → hi' 52 k = nI (A' k) := hp
      refine wv (by decide) ?_
      simp (disch := omega) only [b_M_day_0, b_M_day_4, b_M_day_15, b_M_day_26, b_M_day_35, b_M_day_47, b_M_day_59, b_M_day_67, true_and, and_true, true_implies, false_implies, not_true_eq_false, not_false_eq_true, eq_self, or_true, true_or, false_or, or_false, false_and, and_false, Option.toList_some, Option.toList_none, List.cons_append, List.nil_append, n10, n01, e10, e01, e08, e18, e28, e38, e48, e58, e68, e78, lt_lit, nI_add, pk_mul, n_le, n_lt, n_eq, n_cl, n_in, n_sub, n_div, n_rem, n_ite, Nat.zero_add, r_51_0, r_51_1, r_51_2, r_51_4, r_51_6, r_51_13, r_51_14, r_51_18, r_51_19, r_51_20, r_51_21, k_51, k_52, k_53, k_54, k_55, k_56, k_57, k_58, k_59, k_60, k_61, k_62, n_52, n_53, n_54, n_55, n_56, n_57, n_58, n_59, n_60, n_61, n_62, hr']
      refine ⟨fun q => absurd q (by omega), fun _ => ?_⟩
      refine c_at (by omega) (by omega) ?_
      simp (disch := omega) only [b_M_day_0, b_M_day_4, b_M_day_15, b_M_day_26, b_M_day_35, b_M_day_47, b_M_day_59, b_M_day_67, true_and, and_true, true_implies, false_implies, not_true_eq_false, not_false_eq_true, eq_self, or_true, true_or, false_or, or_false, false_and, and_false, Option.toList_some, Option.toList_none, List.cons_append, List.nil_append, n10, n01, e10, e01, e08, e18, e28, e38, e48, e58, e68, e78, lt_lit, nI_add, pk_mul, n_le, n_lt, n_eq, n_cl, n_in, n_sub, n_div, n_rem, n_ite, Nat.zero_add, r_51_0, r_51_1, r_51_2, r_51_4, r_51_6, r_51_13, r_51_14, r_51_18, r_51_19, r_51_20, r_51_21, k_51, k_52, k_53, k_54, k_55, k_56, k_57, k_58, k_59, k_60, k_61, k_62, n_52, n_53, n_54, n_55, n_56, n_57, n_58, n_59, n_60, n_61, n_62, hr', ix1, ix2, ix3, ix4, ix5, ix6, ix7, Nat.add_zero, ofn, x88]
      refine c_at (by omega) (by omega) ?_
      simp (disch := omega) only [b_M_day_0, b_M_day_4, b_M_day_15, b_M_day_26, b_M_day_35, b_M_day_47, b_M_day_59, b_M_day_67, true_and, and_true, true_implies, false_implies, not_true_eq_false, not_false_eq_true, eq_self, or_true, true_or, false_or, or_false, false_and, and_false, Option.toList_some, Option.toList_none, List.cons_append, List.nil_append, n10, n01, e10, e01, e08, e18, e28, e38, e48, e58, e68, e78, lt_lit, nI_add, pk_mul, n_le, n_lt, n_eq, n_cl, n_in, n_sub, n_div, n_rem, n_ite, Nat.zero_add, r_51_0, r_51_1, r_51_2, r_51_4, r_51_6, r_51_13, r_51_14, r_51_18, r_51_19, r_51_20, r_51_21, k_51, k_52, k_53, k_54, k_55, k_56, k_57, k_58, k_59, k_60, k_61, k_62, n_52, n_53, n_54, n_55, n_56, n_57, n_58, n_59, n_60, n_61, n_62, hr', ix1, ix2, ix3, ix4, ix5, ix6, ix7, Nat.add_zero, ofn, x88]
      refine c_at (by omega) (by omega) ?_
      simp (disch := omega) only [b_M_day_0, b_M_day_4, b_M_day_15, b_M_day_26, b_M_day_35, b_M_day_47, b_M_day_59, b_M_day_67, true_and, and_true, true_implies, false_implies, not_true_eq_false, not_false_eq_true, eq_self, or_true, true_or, false_or, or_false, false_and, and_false, Option.toList_some, Option.toList_none, List.cons_append, List.nil_append, n10, n01, e10, e01, e08, e18, e28, e38, e48, e58, e68, e78, lt_lit, nI_add, pk_mul, n_le, n_lt, n_eq, n_cl, n_in, n_sub, n_div, n_rem, n_ite, Nat.zero_add, r_51_0, r_51_1, r_51_2, r_51_4, r_51_6, r_51_13, r_51_14, r_51_18, r_51_19, r_51_20, r_51_21, k_51, k_52, k_53, k_54, k_55, k_56, k_57, k_58, k_59, k_60, k_61, k_62, n_52, n_53, n_54, n_55, n_56, n_57, n_58, n_59, n_60, n_61, n_62, hr', ix1, ix2, ix3, ix4, ix5, ix6, ix7, Nat.add_zero, ofn, x88]
      exact ih (g + 1) (dayG1 A' g) _ (by omega) (by rw [dayG1_ne (by omega)]; exact e68) (((hp.up (by omega)).up (by omega)).up (by omega)) (((fr.up _ _).up _ _).up _ _) (fun hi2 a b => h hi2 a b)
  refine i_M_day ?_
  simp (disch := omega) only [b_M_day_0, b_M_day_4, b_M_day_15, b_M_day_26, b_M_day_35, b_M_day_47, b_M_day_59, b_M_day_67, true_and, and_true, true_implies, false_implies, not_true_eq_false, not_false_eq_true, eq_self, or_true, true_or, false_or, or_false, false_and, and_false, Option.toList_some, Option.toList_none, List.cons_append, List.nil_append, n10, n01, e10, e01, e08, e18, e28, e38, e48, e58, e68, e78, lt_lit, nI_add, pk_mul, n_le, n_lt, n_eq, n_cl, n_in, n_sub, n_div, n_rem, n_ite, Nat.zero_add, r_51_0, r_51_1, r_51_2, r_51_4, r_51_6, r_51_13, r_51_14, r_51_18, r_51_19, r_51_20, r_51_21, k_51, k_52, k_53, k_54, k_55, k_56, k_57, k_58, k_59, k_60, k_61, k_62, n_52, n_53, n_54, n_55, n_56, n_57, n_58, n_59, n_60, n_61, n_62]
  refine c_doneOnes hr ok ?_
  simp (disch := omega) only [b_M_day_0, b_M_day_4, b_M_day_15, b_M_day_26, b_M_day_35, b_M_day_47, b_M_day_59, b_M_day_67, true_and, and_true, true_implies, false_implies, not_true_eq_false, not_false_eq_true, eq_self, or_true, true_or, false_or, or_false, false_and, and_false, Option.toList_some, Option.toList_none, List.cons_append, List.nil_append, n10, n01, e10, e01, e08, e18, e28, e38, e48, e58, e68, e78, lt_lit, nI_add, pk_mul, n_le, n_lt, n_eq, n_cl, n_in, n_sub, n_div, n_rem, n_ite, Nat.zero_add, r_51_0, r_51_1, r_51_2, r_51_4, r_51_6, r_51_13, r_51_14, r_51_18, r_51_19, r_51_20, r_51_21, k_51, k_52, k_53, k_54, k_55, k_56, k_57, k_58, k_59, k_60, k_61, k_62, n_52, n_53, n_54, n_55, n_56, n_57, n_58, n_59, n_60, n_61, n_62]
  exact loop (A 68) 0 (up A 64 0) _ (by omega) (by rw [up_ne _ (by omega)]) (hr.up (by omega)) ((fM.refl hi).up _ _) h
theorem c_manyOf {w : Nat} (hw : w < 5) (hr : Mr hi A) (ok : rowOk B A) (h : K (some (.int (nI (cntH A w)))) hi hl) : Call u 177 [.ref 51, .int (nI w)] hi hl K := by
  have o6 := ok.2.2.2.2.2.1
  have hr' : ∀ k, k < 69 + 8 * A 68 → hi 52 k = nI (A k) := hr
  have loop : ∀ n g s, g + n = A 68 → s ≤ g → K (some (.int (nI (s + smN (fun g => if A (72 + 8 * g) = w then 1 else 0) g n)))) hi hl → Wp u 177 4 [.ref 51, .int (nI w), .int (nI s), .int (nI g)] [] hi hl K := by
    intro n
    induction n with
    | zero =>
      intro g s e hs h
      refine wv (by decide) ?_
      simp (disch := omega) only [b_M_manyOf_0, b_M_manyOf_4, b_M_manyOf_15, b_M_manyOf_22, b_M_manyOf_26, b_M_manyOf_30, b_M_manyOf_31, b_M_manyOf_39, true_and, and_true, true_implies, false_implies, not_true_eq_false, not_false_eq_true, eq_self, or_true, true_or, false_or, or_false, false_and, and_false, Option.toList_some, Option.toList_none, List.cons_append, List.nil_append, n10, n01, e10, e01, e08, e18, e28, e38, e48, e58, e68, e78, lt_lit, nI_add, pk_mul, n_le, n_lt, n_eq, n_cl, n_in, n_sub, n_div, n_rem, n_ite, Nat.zero_add, r_51_0, r_51_1, r_51_2, r_51_4, r_51_6, r_51_13, r_51_14, r_51_18, r_51_19, r_51_20, r_51_21, k_51, k_52, k_53, k_54, k_55, k_56, k_57, k_58, k_59, k_60, k_61, k_62, n_52, n_53, n_54, n_55, n_56, n_57, n_58, n_59, n_60, n_61, n_62, hr']
      exact ⟨fun _ => h, fun q => absurd (by omega) q⟩
    | succ n ih =>
      intro g s e hs h
      obtain ⟨g1, g2, g3, g4, g5, g6, g7, g8⟩ := ok.2.2.2.2.2.2 g (by omega)
      refine wv (by decide) ?_
      simp (disch := omega) only [b_M_manyOf_0, b_M_manyOf_4, b_M_manyOf_15, b_M_manyOf_22, b_M_manyOf_26, b_M_manyOf_30, b_M_manyOf_31, b_M_manyOf_39, true_and, and_true, true_implies, false_implies, not_true_eq_false, not_false_eq_true, eq_self, or_true, true_or, false_or, or_false, false_and, and_false, Option.toList_some, Option.toList_none, List.cons_append, List.nil_append, n10, n01, e10, e01, e08, e18, e28, e38, e48, e58, e68, e78, lt_lit, nI_add, pk_mul, n_le, n_lt, n_eq, n_cl, n_in, n_sub, n_div, n_rem, n_ite, Nat.zero_add, r_51_0, r_51_1, r_51_2, r_51_4, r_51_6, r_51_13, r_51_14, r_51_18, r_51_19, r_51_20, r_51_21, k_51, k_52, k_53, k_54, k_55, k_56, k_57, k_58, k_59, k_60, k_61, k_62, n_52, n_53, n_54, n_55, n_56, n_57, n_58, n_59, n_60, n_61, n_62, hr']
      refine ⟨fun q => absurd q (by omega), fun _ => ?_⟩
      refine c_gleanerIs hr (by omega) (by omega) (by omega) ?_
      simp (disch := omega) only [b_M_manyOf_0, b_M_manyOf_4, b_M_manyOf_15, b_M_manyOf_22, b_M_manyOf_26, b_M_manyOf_30, b_M_manyOf_31, b_M_manyOf_39, true_and, and_true, true_implies, false_implies, not_true_eq_false, not_false_eq_true, eq_self, or_true, true_or, false_or, or_false, false_and, and_false, Option.toList_some, Option.toList_none, List.cons_append, List.nil_append, n10, n01, e10, e01, e08, e18, e28, e38, e48, e58, e68, e78, lt_lit, nI_add, pk_mul, n_le, n_lt, n_eq, n_cl, n_in, n_sub, n_div, n_rem, n_ite, Nat.zero_add, r_51_0, r_51_1, r_51_2, r_51_4, r_51_6, r_51_13, r_51_14, r_51_18, r_51_19, r_51_20, r_51_21, k_51, k_52, k_53, k_54, k_55, k_56, k_57, k_58, k_59, k_60, k_61, k_62, n_52, n_53, n_54, n_55, n_56, n_57, n_58, n_59, n_60, n_61, n_62, hr', ix1, ix2, ix3, ix4, ix5, ix6, ix7, Nat.add_zero, ofn, x88]
      refine ⟨fun q => ?_, fun q => ?_⟩
      · refine ih (g + 1) s (by omega) (by omega) ?_
        simp only [smN, if_neg q, Nat.zero_add] at h; exact h
      · refine ih (g + 1) _ (by omega) (by omega) ?_
        simp only [smN, if_pos q] at h; rw [← Nat.add_assoc] at h; exact h
  refine i_M_manyOf ?_
  simp (disch := omega) only [b_M_manyOf_0, b_M_manyOf_4, b_M_manyOf_15, b_M_manyOf_22, b_M_manyOf_26, b_M_manyOf_30, b_M_manyOf_31, b_M_manyOf_39, true_and, and_true, true_implies, false_implies, not_true_eq_false, not_false_eq_true, eq_self, or_true, true_or, false_or, or_false, false_and, and_false, Option.toList_some, Option.toList_none, List.cons_append, List.nil_append, n10, n01, e10, e01, e08, e18, e28, e38, e48, e58, e68, e78, lt_lit, nI_add, pk_mul, n_le, n_lt, n_eq, n_cl, n_in, n_sub, n_div, n_rem, n_ite, Nat.zero_add, r_51_0, r_51_1, r_51_2, r_51_4, r_51_6, r_51_13, r_51_14, r_51_18, r_51_19, r_51_20, r_51_21, k_51, k_52, k_53, k_54, k_55, k_56, k_57, k_58, k_59, k_60, k_61, k_62, n_52, n_53, n_54, n_55, n_56, n_57, n_58, n_59, n_60, n_61, n_62]
  refine loop (A 68) 0 0 (by omega) (by omega) ?_
  rw [Nat.zero_add]; exact h
theorem c_bundlesOf {w : Nat} (hw : w < 5) (hr : Mr hi A) (ok : rowOk B A) (hB : B < 100000000) (h : K (some (.int (nI (bunH A w)))) hi hl) : Call u 178 [.ref 51, .int (nI w)] hi hl K := by
  have o6 := ok.2.2.2.2.2.1
  have hr' : ∀ k, k < 69 + 8 * A 68 → hi 52 k = nI (A k) := hr
  have loop : ∀ n g s, g + n = A 68 → s ≤ 100000000 * g → K (some (.int (nI (s + smN (fun g => if A (72 + 8 * g) = w then A (73 + 8 * g) else 0) g n)))) hi hl → Wp u 178 4 [.ref 51, .int (nI w), .int (nI s), .int (nI g)] [] hi hl K := by
    intro n
    induction n with
    | zero =>
      intro g s e hs h
      refine wv (by decide) ?_
      simp (disch := omega) only [b_M_bundlesOf_0, b_M_bundlesOf_4, b_M_bundlesOf_15, b_M_bundlesOf_22, b_M_bundlesOf_26, b_M_bundlesOf_32, b_M_bundlesOf_35, b_M_bundlesOf_36, b_M_bundlesOf_44, true_and, and_true, true_implies, false_implies, not_true_eq_false, not_false_eq_true, eq_self, or_true, true_or, false_or, or_false, false_and, and_false, Option.toList_some, Option.toList_none, List.cons_append, List.nil_append, n10, n01, e10, e01, e08, e18, e28, e38, e48, e58, e68, e78, lt_lit, nI_add, pk_mul, n_le, n_lt, n_eq, n_cl, n_in, n_sub, n_div, n_rem, n_ite, Nat.zero_add, r_51_0, r_51_1, r_51_2, r_51_4, r_51_6, r_51_13, r_51_14, r_51_18, r_51_19, r_51_20, r_51_21, k_51, k_52, k_53, k_54, k_55, k_56, k_57, k_58, k_59, k_60, k_61, k_62, n_52, n_53, n_54, n_55, n_56, n_57, n_58, n_59, n_60, n_61, n_62, hr']
      exact ⟨fun _ => h, fun q => absurd (by omega) q⟩
    | succ n ih =>
      intro g s e hs h
      obtain ⟨g1, g2, g3, g4, g5, g6, g7, g8⟩ := ok.2.2.2.2.2.2 g (by omega)
      refine wv (by decide) ?_
      simp (disch := omega) only [b_M_bundlesOf_0, b_M_bundlesOf_4, b_M_bundlesOf_15, b_M_bundlesOf_22, b_M_bundlesOf_26, b_M_bundlesOf_32, b_M_bundlesOf_35, b_M_bundlesOf_36, b_M_bundlesOf_44, true_and, and_true, true_implies, false_implies, not_true_eq_false, not_false_eq_true, eq_self, or_true, true_or, false_or, or_false, false_and, and_false, Option.toList_some, Option.toList_none, List.cons_append, List.nil_append, n10, n01, e10, e01, e08, e18, e28, e38, e48, e58, e68, e78, lt_lit, nI_add, pk_mul, n_le, n_lt, n_eq, n_cl, n_in, n_sub, n_div, n_rem, n_ite, Nat.zero_add, r_51_0, r_51_1, r_51_2, r_51_4, r_51_6, r_51_13, r_51_14, r_51_18, r_51_19, r_51_20, r_51_21, k_51, k_52, k_53, k_54, k_55, k_56, k_57, k_58, k_59, k_60, k_61, k_62, n_52, n_53, n_54, n_55, n_56, n_57, n_58, n_59, n_60, n_61, n_62, hr']
      refine ⟨fun q => absurd q (by omega), fun _ => ?_⟩
      refine c_gleanerIs hr (by omega) (by omega) (by omega) ?_
      simp (disch := omega) only [b_M_bundlesOf_0, b_M_bundlesOf_4, b_M_bundlesOf_15, b_M_bundlesOf_22, b_M_bundlesOf_26, b_M_bundlesOf_32, b_M_bundlesOf_35, b_M_bundlesOf_36, b_M_bundlesOf_44, true_and, and_true, true_implies, false_implies, not_true_eq_false, not_false_eq_true, eq_self, or_true, true_or, false_or, or_false, false_and, and_false, Option.toList_some, Option.toList_none, List.cons_append, List.nil_append, n10, n01, e10, e01, e08, e18, e28, e38, e48, e58, e68, e78, lt_lit, nI_add, pk_mul, n_le, n_lt, n_eq, n_cl, n_in, n_sub, n_div, n_rem, n_ite, Nat.zero_add, r_51_0, r_51_1, r_51_2, r_51_4, r_51_6, r_51_13, r_51_14, r_51_18, r_51_19, r_51_20, r_51_21, k_51, k_52, k_53, k_54, k_55, k_56, k_57, k_58, k_59, k_60, k_61, k_62, n_52, n_53, n_54, n_55, n_56, n_57, n_58, n_59, n_60, n_61, n_62, hr', ix1, ix2, ix3, ix4, ix5, ix6, ix7, Nat.add_zero, ofn, x88]
      refine ⟨fun q => ?_, fun q => ?_⟩
      · refine ih (g + 1) s (by omega) (by omega) ?_
        simp only [smN, if_neg q, Nat.zero_add] at h; exact h
      · refine c_gleanerIs hr (by omega) (by omega) (by omega) ?_
        simp (disch := omega) only [b_M_bundlesOf_0, b_M_bundlesOf_4, b_M_bundlesOf_15, b_M_bundlesOf_22, b_M_bundlesOf_26, b_M_bundlesOf_32, b_M_bundlesOf_35, b_M_bundlesOf_36, b_M_bundlesOf_44, true_and, and_true, true_implies, false_implies, not_true_eq_false, not_false_eq_true, eq_self, or_true, true_or, false_or, or_false, false_and, and_false, Option.toList_some, Option.toList_none, List.cons_append, List.nil_append, n10, n01, e10, e01, e08, e18, e28, e38, e48, e58, e68, e78, lt_lit, nI_add, pk_mul, n_le, n_lt, n_eq, n_cl, n_in, n_sub, n_div, n_rem, n_ite, Nat.zero_add, r_51_0, r_51_1, r_51_2, r_51_4, r_51_6, r_51_13, r_51_14, r_51_18, r_51_19, r_51_20, r_51_21, k_51, k_52, k_53, k_54, k_55, k_56, k_57, k_58, k_59, k_60, k_61, k_62, n_52, n_53, n_54, n_55, n_56, n_57, n_58, n_59, n_60, n_61, n_62, hr', ix1, ix2, ix3, ix4, ix5, ix6, ix7, Nat.add_zero, ofn, x88]
        refine ih (g + 1) _ (by omega) (by omega) ?_
        simp only [smN, if_pos q] at h; rw [← Nat.add_assoc] at h; exact h
  refine i_M_bundlesOf ?_
  simp (disch := omega) only [b_M_bundlesOf_0, b_M_bundlesOf_4, b_M_bundlesOf_15, b_M_bundlesOf_22, b_M_bundlesOf_26, b_M_bundlesOf_32, b_M_bundlesOf_35, b_M_bundlesOf_36, b_M_bundlesOf_44, true_and, and_true, true_implies, false_implies, not_true_eq_false, not_false_eq_true, eq_self, or_true, true_or, false_or, or_false, false_and, and_false, Option.toList_some, Option.toList_none, List.cons_append, List.nil_append, n10, n01, e10, e01, e08, e18, e28, e38, e48, e58, e68, e78, lt_lit, nI_add, pk_mul, n_le, n_lt, n_eq, n_cl, n_in, n_sub, n_div, n_rem, n_ite, Nat.zero_add, r_51_0, r_51_1, r_51_2, r_51_4, r_51_6, r_51_13, r_51_14, r_51_18, r_51_19, r_51_20, r_51_21, k_51, k_52, k_53, k_54, k_55, k_56, k_57, k_58, k_59, k_60, k_61, k_62, n_52, n_53, n_54, n_55, n_56, n_57, n_58, n_59, n_60, n_61, n_62]
  refine loop (A 68) 0 0 (by omega) (by omega) ?_
  rw [Nat.zero_add]; exact h
end M9
