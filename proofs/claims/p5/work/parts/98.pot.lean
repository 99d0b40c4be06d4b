theorem smN_out {A : Nat → Nat} {k v : Nat} (n : Nat) : ∀ a, (k < a ∨ a + n ≤ k) → smN (up A k v) a n = smN A a n := by
  intro a h
  exact smN_cong n a (fun j h1 h2 => up_ne _ (by omega))
theorem smN_up {A : Nat → Nat} {k v : Nat} (n : Nat) : ∀ a, a ≤ k → k < a + n → smN (up A k v) a n + A k = smN A a n + v := by
  induction n with
  | zero => intro a h1 h2; omega
  | succ n ih =>
    intro a h1 h2
    rw [smN, smN]
    by_cases q : k = a
    · subst q
      rw [up_eq, smN_out n (k + 1) (by omega)]; omega
    · have := ih (a + 1) (by omega) (by omega)
      rw [up_ne _ (by omega)]; omega
def pot (A : Nat → Nat) : Nat := bunN A + smN A 0 64 + A 67
def potG (A : Nat → Nat) (g : Nat) : Nat := A (73 + 8 * g) + smN A 0 64 + A 67
def potLe (A' A : Nat → Nat) : Prop := A' 68 = A 68 ∧ pot A' ≤ pot A ∧ ∀ g, g < A 68 → potG A' g ≤ potG A g
theorem potLe.refl (A : Nat → Nat) : potLe A A := ⟨rfl, Nat.le_refl _, fun _ _ => Nat.le_refl _⟩
theorem potLe.trans {A A' A'' : Nat → Nat} (h : potLe A' A) (h2 : potLe A'' A') : potLe A'' A := ⟨h2.1.trans h.1, Nat.le_trans h2.2.1 h.2.1, fun g hg => Nat.le_trans (h2.2.2 g (by rw [h.1]; exact hg)) (h.2.2 g hg)⟩
/-- a row with the same ears, sheaves and bundles -/
theorem potLe.same {A A' : Nat → Nat} (h68 : A' 68 = A 68) (h67 : A' 67 = A 67) (h0 : ∀ k, k < 64 → A' k = A k) (hg : ∀ g, g < A 68 → A' (73 + 8 * g) = A (73 + 8 * g)) : potLe A' A := by
  have e0 : smN A' 0 64 = smN A 0 64 := smN_cong 64 0 (fun k _ hk => h0 k (by omega))
  have e1 : bunN A' = bunN A := by
    unfold bunN; rw [h68]
    exact smN_cong _ 0 (fun k _ hk => hg k (by omega))
  refine ⟨h68, ?_, fun g h => ?_⟩
  · unfold pot; rw [e0, e1, h67]; exact Nat.le_refl _
  · unfold potG; rw [e0, hg g h, h67]; exact Nat.le_refl _
theorem pot_take {A : Nat → Nat} {B g : Nat} (ok : rowOk B A) (hg : g < A 68) : potLe (take A g) A := by
  have hat := ok.at hg
  have s := same4_take (g := g) hat
  have hsh : tk1 A g ≤ A (atN A g) := share_le _ _
  have hdr : dr1 A g ≤ A 67 := by unfold dr1; omega
  have e0 : smN (take A g) 0 64 + tk1 A g = smN A 0 64 := by
    have c : smN (take A g) 0 64 = smN (up A (atN A g) (A (atN A g) - tk1 A g)) 0 64 := smN_cong 64 0 (fun k _ hk => by
      rw [take_lo (by omega)]; unfold up; split
      · rename_i q; rw [q]
      · rfl)
    have := smN_up (A := A) (k := atN A g) (v := A (atN A g) - tk1 A g) 64 0 (by omega) (by omega)
    rw [c]; omega
  have e7 : take A g 67 = A 67 - dr1 A g := take_67 hat
  have eg : take A g (73 + 8 * g) = A (73 + 8 * g) + (tk1 A g + dr1 A g) := by rw [take_hi hat (by omega) (by omega), if_pos rfl]
  have en : ∀ j, j ≠ g → take A g (73 + 8 * j) = A (73 + 8 * j) := fun j hj => by rw [take_hi hat (by omega) (by omega), if_neg (by omega), if_neg (by omega)]
  have eb : bunN (take A g) = bunN A + (tk1 A g + dr1 A g) := by
    unfold bunN; rw [s.2.2.2]
    have c : smN (fun j => take A g (73 + 8 * j)) 0 (A 68) = smN (up (fun j => A (73 + 8 * j)) g (A (73 + 8 * g) + (tk1 A g + dr1 A g))) 0 (A 68) := smN_cong _ 0 (fun k _ hk => by
      unfold up
      split
      · rename_i q; rw [q]; exact eg
      · rename_i q; exact en k q)
    have := smN_up (A := fun j => A (73 + 8 * j)) (k := g) (v := A (73 + 8 * g) + (tk1 A g + dr1 A g)) (A 68) 0 (by omega) (by omega)
    rw [c]; omega
  refine ⟨s.2.2.2, ?_, fun j hj => ?_⟩
  · unfold pot; rw [eb, e7]; omega
  · unfold potG; rw [e7]
    by_cases q : j = g
    · subst q; rw [eg]; omega
    · rw [en j q]; omega
theorem pot_step {A : Nat → Nat} {g : Nat} : potLe (stepN A g) A :=
  potLe.same (step_ne (by omega) (by omega) (by omega) (by omega)) (step_ne (by omega) (by omega) (by omega) (by omega)) (fun k hk => step_ne (by omega) (by omega) (by omega) (by omega)) (fun j _ => step_ne (by omega) (by omega) (by omega) (by omega))
theorem pot_takeAll (w : Nat → Bool) (n : Nat) : ∀ {A : Nat → Nat} {B g : Nat}, g + n ≤ A 68 → rowOk B A → potLe (takeAll w g n A) A := by
  induction n with
  | zero => intro A B g _ _; exact potLe.refl A
  | succ n ih =>
    intro A B g h ok
    rw [takeAll]
    split
    · exact (pot_take ok (by omega)).trans (ih (by rw [(same4_take (ok.at (g := g) (by omega))).2.2.2]; omega) (ok.take (by omega)))
    · exact ih (by omega) ok
theorem pot_steps (w : Nat → Bool) (g n : Nat) : ∀ {A : Nat → Nat}, potLe (steps w g n A) A := by
  induction n with
  | zero => intro A; exact potLe.refl A
  | succ n ih =>
    intro A
    rw [steps]
    split
    · exact pot_step.trans ih
    · exact potLe.refl A
theorem pot_goAll (w : Nat → Bool) (n : Nat) : ∀ {A : Nat → Nat} {g : Nat}, potLe (goAll w g n A) A := by
  induction n with
  | zero => intro A g; exact potLe.refl A
  | succ n ih =>
    intro A g
    rw [goAll]
    exact (pot_steps w g _).trans ih
theorem pot_lo {A : Nat → Nat} {k : Nat} (hk : k < 64) : potLe (up A k 0) A := by
  have e := smN_up (A := A) (k := k) (v := 0) 64 0 (by omega) (by omega)
  have b : bunN (up A k 0) = bunN A := by
    unfold bunN; rw [up_ne _ (by omega)]
    exact smN_cong _ 0 (fun j _ _ => up_ne _ (by omega))
  refine ⟨up_ne _ (by omega), ?_, fun g hg => ?_⟩
  · unfold pot; rw [b, up_ne _ (by omega)]; omega
  · unfold potG; rw [up_ne _ (by omega), up_ne A (j := 67) (by omega)]; omega
theorem pot_wipe (n : Nat) : ∀ {A : Nat → Nat} {k : Nat}, k + n ≤ 64 → potLe (wipeN A k n) A := by
  induction n with
  | zero => intro A k _; exact potLe.refl A
  | succ n ih => intro A k h; rw [wipeN]; exact (pot_lo (by omega)).trans (ih (by omega))
theorem pot_min {w : Nat → Bool} {A : Nat → Nat} {B : Nat} (ok : rowOk B A) : potLe (minN w A) A := by
  obtain ⟨og, sg⟩ := geese_ok ok
  have pg : potLe (geeseN A) A := by
    unfold geeseN
    split
    · exact (pot_wipe 8 (by omega)).trans (pot_wipe 8 (by omega))
    · exact potLe.refl A
  have po : potLe (openN w (geeseN A)) (geeseN A) := by
    unfold openN
    split
    · exact potLe.refl _
    · exact (pot_takeAll w _ (by omega) og).trans (pot_goAll w _)
  unfold minN
  exact (pg.trans po).trans (potLe.same (up_ne _ (by omega)) (up_ne _ (by omega)) (fun k hk => up_ne _ (by omega)) (fun g _ => up_ne _ (by omega)))
theorem pot_mins {w : Nat → Bool} (n : Nat) : ∀ {A : Nat → Nat} {B : Nat}, A 64 + n ≤ 10200 → rowOk B A → potLe (minsN w n A) A := by
  induction n with
  | zero => intro A B _ _; exact potLe.refl A
  | succ n ih =>
    intro A B h ok
    obtain ⟨m1, m2, m3, m4, m5, m6⟩ := min_ok w ok (by omega)
    rw [minsN]
    exact (pot_min ok).trans (ih (by omega) m1)
theorem pot_end {w : Nat → Bool} (n : Nat) : ∀ {A : Nat → Nat} {B : Nat}, A 64 + n ≤ 10200 → rowOk B A → potLe (endN w n A) A := by
  induction n with
  | zero => intro A B _ _; exact potLe.refl A
  | succ n ih =>
    intro A B h ok
    obtain ⟨m1, m2, m3, m4, m5, m6⟩ := min_ok w ok (by omega)
    rw [endN]
    split
    · exact (pot_min ok).trans (ih (by omega) m1)
    · exact potLe.refl A
/-- what leaveFor's skipping rests on -/
theorem lf_all {A : Nat → Nat} {B : Nat} (ok : rowOk B A) (h1 : A 64 ≤ 9999) : ∀ n, n ≤ 99 → bunN (endN all1 200 (fillN A n)) ≤ bunN A + A 67 + 64 * n := by
  intro n hn
  obtain ⟨fo, fn⟩ := fill_ok (n := n) ok hn
  have p := (pot_end (w := all1) 200 (A := fillN A n) (B := B) (by rw [fn 64 (by omega)]; omega) fo).2.1
  have e0 : smN (fillN A n) 0 64 ≤ n * 64 := smN_le _ n 64 0 (fun k _ hk => by unfold fillN; rw [if_pos (by omega)]; exact Nat.le_refl _)
  have e1 : bunN (fillN A n) = bunN A := by
    unfold bunN; rw [fn 68 (by omega)]
    exact smN_cong _ 0 (fun k _ hk => fn _ (by omega))
  have e2 := fn 67 (by omega)
  unfold pot at p
  omega
/-! another bell: the same but for when they begin -/
theorem b5_take {A : Nat → Nat} {g n : Nat} (hg : g < 9) (hat : atN A g < 64) : take (up A 65 n) g = up (take A g) 65 n := by
  have e0 : atN (up A 65 n) g = atN A g := by unfold atN; rw [up_ne _ (by omega), up_ne _ (by omega)]
  have e1 : tk1 (up A 65 n) g = tk1 A g := by unfold tk1; rw [e0, up_ne _ (by omega), up_ne _ (by omega)]
  have e2 : dr1 (up A 65 n) g = dr1 A g := by unfold dr1; rw [up_ne _ (by omega), up_ne _ (by omega), up_ne _ (by omega)]
  unfold take
  rw [e0, e1, e2, up_ne A (j := atN A g) (by omega), up_ne A (j := 67) (by omega), up_ne A (j := 73 + 8 * g) (by omega), up_ne A (j := 74 + 8 * g) (by omega), up_comm (i := 65) (j := atN A g) (by omega), up_comm (i := 65) (j := 67) (by omega), up_comm (i := 65) (j := 73 + 8 * g) (by omega), up_comm (i := 65) (j := 74 + 8 * g) (by omega)]
theorem b5_step {A : Nat → Nat} {g n : Nat} : stepN (up A 65 n) g = up (stepN A g) 65 n := by
  unfold stepN
  rw [up_ne A (j := 75 + 8 * g) (by omega), up_ne A (j := 71 + 8 * g) (by omega), up_ne A (j := 70 + 8 * g) (by omega)]
  repeat' split
  all_goals first
    | (rw [up_comm (i := 65) (j := 70 + 8 * g) (by omega), up_comm (i := 65) (j := 75 + 8 * g) (by omega)])
    | (rw [up_comm (i := 65) (j := 71 + 8 * g) (by omega)])
    | (rw [up_comm (i := 65) (j := 76 + 8 * g) (by omega)])
theorem b5_takeAll {n : Nat} (m : Nat) : ∀ {A : Nat → Nat} {B g : Nat}, g + m ≤ A 68 → rowOk B A → takeAll all1 g m (up A 65 n) = up (takeAll all1 g m A) 65 n := by
  induction m with
  | zero => intro A B g _ _; rfl
  | succ m ih =>
    intro A B g h ok
    have h9 := ok.2.2.2.2.2.1
    rw [takeAll, takeAll, up_ne A (j := 76 + 8 * g) (by omega)]
    split
    · rw [b5_take (by omega) (ok.at (by omega))]
      exact ih (by rw [(same4_take (ok.at (g := g) (by omega))).2.2.2]; omega) (ok.take (by omega))
    · exact ih (by omega) ok
theorem b5_steps {g n : Nat} (m : Nat) : ∀ {A : Nat → Nat}, steps all1 g m (up A 65 n) = up (steps all1 g m A) 65 n := by
  induction m with
  | zero => intro A; rfl
  | succ m ih =>
    intro A
    rw [steps, steps, up_ne A (j := 76 + 8 * g) (by omega)]
    split
    · rw [b5_step]; exact ih
    · rfl
theorem b5_goAll {n : Nat} (m : Nat) : ∀ {A : Nat → Nat} {g : Nat}, goAll all1 g m (up A 65 n) = up (goAll all1 g m A) 65 n := by
  induction m with
  | zero => intro A g; rfl
  | succ m ih =>
    intro A g
    rw [goAll, goAll, up_ne A (j := 69 + 8 * g) (by omega), up_ne A (j := 64) (by omega), b5_steps]
    exact ih
theorem b5_wipe {n : Nat} (m : Nat) : ∀ {A : Nat → Nat} {k : Nat}, k + m ≤ 64 → wipeN (up A 65 n) k m = up (wipeN A k m) 65 n := by
  induction m with
  | zero => intro A k _; rfl
  | succ m ih => intro A k h; rw [wipeN, wipeN, up_comm (i := 65) (j := k) (by omega), ih (by omega)]
def minC (c : Prop) [Decidable c] (w : Nat → Bool) (A : Nat → Nat) : Nat → Nat := up (if c then geeseN A else goAll w 0 (A 68) (takeAll w 0 (A 68) (geeseN A))) 64 (A 64 + 1)
theorem b5_min {b : Nat} {A : Nat → Nat} {B : Nat} (ok : rowOk B A) : minN all1 (up A 65 b) = up (minC (A 64 < b) all1 A) 65 b := by
  have eg : geeseN (up A 65 b) = up (geeseN A) 65 b := by
    unfold geeseN
    rw [up_ne A (j := 64) (by omega), up_ne A (j := 66) (by omega)]
    split
    · rw [b5_wipe 8 (by omega), b5_wipe 8 (by omega)]
    · rfl
  obtain ⟨og, sg⟩ := geese_ok ok
  have g68 := sg.2.2.2
  have eo : openN all1 (up (geeseN A) 65 b) = up (if A 64 < b then geeseN A else goAll all1 0 (A 68) (takeAll all1 0 (A 68) (geeseN A))) 65 b := by
    unfold openN
    rw [up_ne _ (j := 64) (by omega), up_eq, up_ne _ (j := 68) (by omega), sg.1, g68]
    by_cases q : A 64 < b
    · rw [if_pos q, if_pos q]
    · rw [if_neg q, if_neg q, b5_takeAll _ (by omega) og, b5_goAll]
  unfold minN minC
  rw [eg, eo, up_ne A (j := 64) (by omega), up_comm (i := 65) (j := 64) (by omega)]
