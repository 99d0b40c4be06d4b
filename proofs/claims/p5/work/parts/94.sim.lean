/-! those who aren't here: as if they were done -/
def outA (w : Nat → Bool) (A : Nat → Nat) : Nat → Nat := fun k => if 76 ≤ k ∧ (k - 76) % 8 = 0 ∧ (k - 76) / 8 < A 68 ∧ w ((k - 76) / 8) = false then 1 else A k
theorem out_ne {w : Nat → Bool} {A : Nat → Nat} {k : Nat} (h : k < 76 ∨ (k - 76) % 8 ≠ 0) : outA w A k = A k := by
  unfold outA; rw [if_neg (fun z => by omega)]
theorem out_g {w : Nat → Bool} {A : Nat → Nat} {g : Nat} (hg : g < A 68) : outA w A (76 + 8 * g) = if w g = false then 1 else A (76 + 8 * g) := by
  unfold outA
  have e1 : (76 + 8 * g - 76) / 8 = g := by omega
  rw [e1]
  by_cases q : w g = false
  · rw [if_pos ⟨by omega, by omega, hg, q⟩, if_pos q]
  · rw [if_neg (fun z => q z.2.2.2), if_neg q]
theorem out_up {w : Nat → Bool} {A : Nat → Nat} {k v : Nat} (h : k < 68 ∨ (68 < k ∧ (k < 76 ∨ (k - 76) % 8 ≠ 0))) : up (outA w A) k v = outA w (up A k v) := by
  funext j
  have e68 : up A k v 68 = A 68 := up_ne _ (by omega)
  by_cases q : j = k
  · subst q; rw [up_eq, out_ne (by omega), up_eq]
  · rw [up_ne _ q]
    unfold outA
    rw [e68, up_ne _ q]
theorem out_upd {w : Nat → Bool} {A : Nat → Nat} {g v : Nat} (hw : w g = true) : up (outA w A) (76 + 8 * g) v = outA w (up A (76 + 8 * g) v) := by
  funext j
  have e68 : up A (76 + 8 * g) v 68 = A 68 := up_ne _ (by omega)
  by_cases q : j = 76 + 8 * g
  · subst q
    rw [up_eq]
    unfold outA
    have e1 : (76 + 8 * g - 76) / 8 = g := by omega
    rw [e1, hw, if_neg (fun z => by cases z.2.2.2), up_eq]
  · rw [up_ne _ q]
    unfold outA
    rw [e68, up_ne _ q]
theorem out_take {w : Nat → Bool} {A : Nat → Nat} {g : Nat} (hg : g < 9) (hat : atN A g < 64) : take (outA w A) g = outA w (take A g) := by
  have e0 : atN (outA w A) g = atN A g := by unfold atN; rw [out_ne (by omega), out_ne (by omega)]
  have e1 : tk1 (outA w A) g = tk1 A g := by unfold tk1; rw [e0, out_ne (by omega), out_ne (by omega)]
  have e2 : dr1 (outA w A) g = dr1 A g := by unfold dr1; rw [out_ne (by omega), out_ne (by omega), out_ne (by omega)]
  unfold take
  rw [e0, e1, e2, out_ne (k := atN A g) (by omega), out_ne (k := 67) (by omega), out_ne (k := 73 + 8 * g) (by omega), out_ne (k := 74 + 8 * g) (by omega), out_up (by omega), out_up (by omega), out_up (by omega), out_up (by omega)]
theorem out_step {w : Nat → Bool} {A : Nat → Nat} {g : Nat} (hw : w g = true) : stepN (outA w A) g = outA w (stepN A g) := by
  unfold stepN
  rw [out_ne (k := 75 + 8 * g) (by omega), out_ne (k := 71 + 8 * g) (by omega), out_ne (k := 70 + 8 * g) (by omega)]
  repeat' split
  all_goals first
    | exact out_upd hw
    | (rw [out_up (by omega), out_up (by omega)])
    | (rw [out_up (by omega)])
theorem out_work {w : Nat → Bool} {A : Nat → Nat} {g : Nat} (hg : g < A 68) : (all1 g = true ∧ outA w A (76 + 8 * g) = 0) ↔ (w g = true ∧ A (76 + 8 * g) = 0) := by
  rw [out_g hg]
  cases h : w g with
  | false => simp
  | true => simp [all1]
theorem out_takeAll {w : Nat → Bool} (n : Nat) : ∀ {A : Nat → Nat} {B g : Nat}, g + n ≤ A 68 → rowOk B A → takeAll all1 g n (outA w A) = outA w (takeAll w g n A) := by
  induction n with
  | zero => intro A B g _ _; rfl
  | succ n ih =>
    intro A B g h ok
    have h9 := ok.2.2.2.2.2.1
    have ow := out_work (w := w) (A := A) (g := g) (by omega)
    rw [takeAll, takeAll]
    by_cases q : w g = true ∧ A (76 + 8 * g) = 0
    · rw [if_pos (ow.mpr q), if_pos q, out_take (by omega) (ok.at (by omega))]
      exact ih (by rw [(same4_take (ok.at (g := g) (by omega))).2.2.2]; omega) (ok.take (by omega))
    · rw [if_neg (fun z => q (ow.mp z)), if_neg q]
      exact ih (by omega) ok
theorem out_steps {w : Nat → Bool} {g : Nat} (n : Nat) : ∀ {A : Nat → Nat} {B : Nat}, g < A 68 → rowOk B A → steps all1 g n (outA w A) = outA w (steps w g n A) := by
  induction n with
  | zero => intro A B _ _; rfl
  | succ n ih =>
    intro A B h ok
    have ow := out_work (w := w) (A := A) (g := g) h
    rw [steps, steps]
    by_cases q : w g = true ∧ A (76 + 8 * g) = 0
    · rw [if_pos (ow.mpr q), if_pos q, out_step q.1]
      exact ih (by rw [same4_step.2.2.2]; exact h) (ok.step h)
    · rw [if_neg (fun z => q (ow.mp z)), if_neg q]
theorem out_goAll {w : Nat → Bool} (n : Nat) : ∀ {A : Nat → Nat} {B g : Nat}, g + n ≤ A 68 → rowOk B A → goAll all1 g n (outA w A) = outA w (goAll w g n A) := by
  induction n with
  | zero => intro A B g _ _; rfl
  | succ n ih =>
    intro A B g h ok
    have h9 := ok.2.2.2.2.2.1
    rw [goAll, goAll, out_ne (k := 69 + 8 * g) (by omega), out_ne (k := 64) (by omega), out_steps _ (by omega) ok]
    obtain ⟨a, s⟩ := steps_ok w g (paceN (A (69 + 8 * g)) (A 64)) (A := A) (by omega) ok
    exact ih (by rw [s.2.2.2]; omega) a
theorem out_wipe {w : Nat → Bool} (n : Nat) : ∀ {A : Nat → Nat} {k : Nat}, k + n ≤ 64 → wipeN (outA w A) k n = outA w (wipeN A k n) := by
  induction n with
  | zero => intro A k _; rfl
  | succ n ih => intro A k h; rw [wipeN, wipeN, out_up (by omega), ih (by omega)]
theorem out_min {w : Nat → Bool} {A : Nat → Nat} {B : Nat} (ok : rowOk B A) : minN all1 (outA w A) = outA w (minN w A) := by
  have eg : geeseN (outA w A) = outA w (geeseN A) := by
    unfold geeseN
    rw [out_ne (k := 64) (by omega), out_ne (k := 66) (by omega)]
    split
    · rw [out_wipe 8 (by omega), out_wipe 8 (by omega)]
    · rfl
  obtain ⟨og, sg⟩ := geese_ok ok
  have eo : openN all1 (outA w (geeseN A)) = outA w (openN w (geeseN A)) := by
    unfold openN
    rw [out_ne (k := 64) (by omega), out_ne (k := 65) (by omega), out_ne (k := 68) (by omega)]
    split
    · rfl
    · obtain ⟨a, b, c⟩ := takeAll_ok w (geeseN A 68) (A := geeseN A) (g := 0) (by omega) og
      rw [out_takeAll _ (by omega) og, out_goAll _ (by rw [b.2.2.2]; omega) a]
  unfold minN
  rw [eg, eo, out_ne (k := 64) (by omega), out_up (by omega)]
theorem anyN_cong {p q : Nat → Bool} (n : Nat) : ∀ g, (∀ k, g ≤ k → k < g + n → p k = q k) → anyN p g n = anyN q g n := by
  induction n with
  | zero => intro g _; rfl
  | succ n ih => intro g h; rw [anyN, anyN, h g (by omega) (by omega), ih (g + 1) (fun k a b => h k (by omega) (by omega))]
theorem out_some {w : Nat → Bool} {A : Nat → Nat} : someN all1 (outA w A) = someN w A := by
  unfold someN
  rw [out_ne (k := 68) (by omega)]
  refine anyN_cong _ 0 (fun k _ hk => ?_)
  unfold workN
  rw [out_g (by omega)]
  cases h : w k with
  | false => simp
  | true => simp [all1]
theorem out_end {w : Nat → Bool} (n : Nat) : ∀ {A : Nat → Nat} {B : Nat}, A 64 + n ≤ 10200 → rowOk B A → endN all1 n (outA w A) = outA w (endN w n A) := by
  induction n with
  | zero => intro A B _ _; rfl
  | succ n ih =>
    intro A B h ok
    rw [endN, endN, out_some]
    split
    · obtain ⟨m1, m2, m3, m4, m5, m6⟩ := min_ok w ok (by omega)
      rw [out_min ok]
      exact ih (by omega) m1
    · rfl
theorem out_ok {w : Nat → Bool} {A : Nat → Nat} {B : Nat} (ok : rowOk B A) : rowOk B (outA w A) := by
  obtain ⟨o1, o2, o3, o4, o5, o6, o7⟩ := ok
  refine ⟨fun k hk => by rw [out_ne (by omega)]; exact o1 k hk, by rw [out_ne (by omega)]; exact o2, by rw [out_ne (by omega)]; exact o3, by rw [out_ne (by omega)]; exact o4, by rw [out_ne (by omega)]; exact o5, by rw [out_ne (by omega)]; exact o6, fun g hg => ?_⟩
  rw [out_ne (by omega)] at hg
  obtain ⟨g1, g2, g3, g4, g5, g6, g7, g8⟩ := o7 g hg
  unfold glOk
  rw [out_ne (k := 69 + 8 * g) (by omega), out_ne (k := 70 + 8 * g) (by omega), out_ne (k := 71 + 8 * g) (by omega), out_ne (k := 72 + 8 * g) (by omega), out_ne (k := 73 + 8 * g) (by omega), out_ne (k := 74 + 8 * g) (by omega), out_ne (k := 75 + 8 * g) (by omega), out_g hg]
  refine ⟨g1, g2, g3, g4, g5, g6, g7, ?_⟩
  split <;> omega
/-! fewer gleaners: as if the others weren't here -/
theorem tr_take {A : Nat → Nat} {g n : Nat} (hg : g < 9) (hat : atN A g < 64) : take (up A 68 n) g = up (take A g) 68 n := by
  have e0 : atN (up A 68 n) g = atN A g := by unfold atN; rw [up_ne _ (by omega), up_ne _ (by omega)]
  have e1 : tk1 (up A 68 n) g = tk1 A g := by unfold tk1; rw [e0, up_ne _ (by omega), up_ne _ (by omega)]
  have e2 : dr1 (up A 68 n) g = dr1 A g := by unfold dr1; rw [up_ne _ (by omega), up_ne _ (by omega), up_ne _ (by omega)]
  unfold take
  rw [e0, e1, e2, up_ne A (j := atN A g) (by omega), up_ne A (j := 67) (by omega), up_ne A (j := 73 + 8 * g) (by omega), up_ne A (j := 74 + 8 * g) (by omega), up_comm (i := 68) (j := atN A g) (by omega), up_comm (i := 68) (j := 67) (by omega), up_comm (i := 68) (j := 73 + 8 * g) (by omega), up_comm (i := 68) (j := 74 + 8 * g) (by omega)]
theorem tr_step {A : Nat → Nat} {g n : Nat} : stepN (up A 68 n) g = up (stepN A g) 68 n := by
  unfold stepN
  rw [up_ne A (j := 75 + 8 * g) (by omega), up_ne A (j := 71 + 8 * g) (by omega), up_ne A (j := 70 + 8 * g) (by omega)]
  repeat' split
  all_goals first
    | (rw [up_comm (i := 68) (j := 70 + 8 * g) (by omega), up_comm (i := 68) (j := 75 + 8 * g) (by omega)])
    | (rw [up_comm (i := 68) (j := 71 + 8 * g) (by omega)])
    | (rw [up_comm (i := 68) (j := 76 + 8 * g) (by omega)])
theorem tr_takeAll {n : Nat} (m : Nat) : ∀ {A : Nat → Nat} {B g : Nat}, g + m ≤ A 68 → rowOk B A → takeAll all1 g m (up A 68 n) = up (takeAll all1 g m A) 68 n := by
  induction m with
  | zero => intro A B g _ _; rfl
  | succ m ih =>
    intro A B g h ok
    have h9 := ok.2.2.2.2.2.1
    rw [takeAll, takeAll, up_ne A (j := 76 + 8 * g) (by omega)]
    split
    · rw [tr_take (by omega) (ok.at (by omega))]
      exact ih (by rw [(same4_take (ok.at (g := g) (by omega))).2.2.2]; omega) (ok.take (by omega))
    · exact ih (by omega) ok
theorem tr_steps {g n : Nat} (m : Nat) : ∀ {A : Nat → Nat}, steps all1 g m (up A 68 n) = up (steps all1 g m A) 68 n := by
  induction m with
  | zero => intro A; rfl
  | succ m ih =>
    intro A
    rw [steps, steps, up_ne A (j := 76 + 8 * g) (by omega)]
    split
    · rw [tr_step]; exact ih
    · rfl
theorem tr_goAll {n : Nat} (m : Nat) : ∀ {A : Nat → Nat} {g : Nat}, goAll all1 g m (up A 68 n) = up (goAll all1 g m A) 68 n := by
  induction m with
  | zero => intro A g; rfl
  | succ m ih =>
    intro A g
    rw [goAll, goAll, up_ne A (j := 69 + 8 * g) (by omega), up_ne A (j := 64) (by omega), tr_steps]
    exact ih
theorem tr_wipe {n : Nat} (m : Nat) : ∀ {A : Nat → Nat} {k : Nat}, k + m ≤ 64 → wipeN (up A 68 n) k m = up (wipeN A k m) 68 n := by
  induction m with
  | zero => intro A k _; rfl
  | succ m ih => intro A k h; rw [wipeN, wipeN, up_comm (i := 68) (j := k) (by omega), ih (by omega)]
/-- the first n of them -/
def lo (n : Nat) : Nat → Bool := fun g => decide (g < n)
theorem lo_take {n : Nat} (m : Nat) : ∀ {A : Nat → Nat} {g : Nat}, takeAll (lo n) g m A = takeAll all1 g (min m (n - g)) A := by
  induction m with
  | zero => intro A g; rw [Nat.zero_min]; rfl
  | succ m ih =>
    intro A g
    by_cases q : g < n
    · have e : min (m + 1) (n - g) = min m (n - (g + 1)) + 1 := by omega
      rw [e, takeAll, takeAll]
      have : (lo n g = true ∧ A (76 + 8 * g) = 0) = (all1 g = true ∧ A (76 + 8 * g) = 0) := by simp [lo, all1, q]
      simp only [this]
      exact ih
    · have e : min (m + 1) (n - g) = 0 := by omega
      have l : takeAll (lo n) g (m + 1) A = takeAll (lo n) (g + 1) m A := by
        rw [takeAll, if_neg (fun z => by simp [lo, q] at z)]
      rw [l, e, ih, show min m (n - (g + 1)) = 0 by omega]
      rfl
theorem lo_steps {n g : Nat} (m : Nat) : ∀ {A : Nat → Nat}, steps (lo n) g m A = if g < n then steps all1 g m A else A := by
  induction m with
  | zero => intro A; rw [steps, steps]; split <;> rfl
  | succ m ih =>
    intro A
    rw [steps]
    by_cases q : g < n
    · rw [if_pos q, steps]
      have : (lo n g = true ∧ A (76 + 8 * g) = 0) = (all1 g = true ∧ A (76 + 8 * g) = 0) := by simp [lo, all1, q]
      simp only [this]
      split
      · rw [ih, if_pos q]
      · rfl
    · rw [if_neg (fun z => by simp [lo, q] at z), if_neg q]
theorem lo_go {n : Nat} (m : Nat) : ∀ {A : Nat → Nat} {g : Nat}, goAll (lo n) g m A = goAll all1 g (min m (n - g)) A := by
  induction m with
  | zero => intro A g; rw [Nat.zero_min]; rfl
  | succ m ih =>
    intro A g
    rw [goAll, lo_steps]
    by_cases q : g < n
    · have e : min (m + 1) (n - g) = min m (n - (g + 1)) + 1 := by omega
      rw [e, goAll, if_pos q]
      exact ih
    · have e : min (m + 1) (n - g) = 0 := by omega
      rw [e, if_neg q, ih, show min m (n - (g + 1)) = 0 by omega]
      rfl
theorem tr_min {n : Nat} {A : Nat → Nat} {B : Nat} (ok : rowOk B A) (hn : n ≤ A 68) : minN all1 (up A 68 n) = up (minN (lo n) A) 68 n := by
  have eg : geeseN (up A 68 n) = up (geeseN A) 68 n := by
    unfold geeseN
    rw [up_ne A (j := 64) (by omega), up_ne A (j := 66) (by omega)]
    split
    · rw [tr_wipe 8 (by omega), tr_wipe 8 (by omega)]
    · rfl
  obtain ⟨og, sg⟩ := geese_ok ok
  have g68 := sg.2.2.2
  have eo : openN all1 (up (geeseN A) 68 n) = up (openN (lo n) (geeseN A)) 68 n := by
    unfold openN
    rw [up_ne _ (j := 64) (by omega), up_ne _ (j := 65) (by omega), up_eq]
    split
    · rfl
    · rw [lo_take, lo_go, show min (geeseN A 68) (n - 0) = n by omega, tr_takeAll _ (by omega) og, tr_goAll]
  unfold minN
  rw [eg, eo, up_ne A (j := 64) (by omega), up_comm (i := 68) (j := 64) (by omega)]
theorem lo_any {n : Nat} {A : Nat → Nat} (m : Nat) : ∀ g, anyN (workN (lo n) A) g m = anyN (workN all1 A) g (min m (n - g)) := by
  induction m with
  | zero => intro g; rw [Nat.zero_min]; rfl
  | succ m ih =>
    intro g
    rw [anyN, ih]
    by_cases q : g < n
    · have e : min (m + 1) (n - g) = min m (n - (g + 1)) + 1 := by omega
      rw [e, anyN]
      have : workN (lo n) A g = workN all1 A g := by simp [workN, lo, all1, q]
      rw [this]
    · have e : min (m + 1) (n - g) = 0 := by omega
      have : workN (lo n) A g = false := by simp [workN, lo, q]
      rw [e, this, show min m (n - (g + 1)) = 0 by omega]
      rfl
theorem tr_some {n : Nat} {A : Nat → Nat} (hn : n ≤ A 68) : someN all1 (up A 68 n) = someN (lo n) A := by
  unfold someN
  rw [lo_any, up_eq, show min (A 68) (n - 0) = n by omega]
  refine anyN_cong _ 0 (fun k _ hk => ?_)
  unfold workN
  rw [up_ne _ (by omega)]
theorem tr_end {n : Nat} (m : Nat) : ∀ {A : Nat → Nat} {B : Nat}, A 64 + m ≤ 10200 → rowOk B A → n ≤ A 68 → endN all1 m (up A 68 n) = up (endN (lo n) m A) 68 n := by
  induction m with
  | zero => intro A B _ _ _; rfl
  | succ m ih =>
    intro A B h ok hn
    rw [endN, endN, tr_some hn]
    split
    · obtain ⟨m1, m2, m3, m4, m5, m6⟩ := min_ok (lo n) ok (by omega)
      rw [tr_min ok hn]
      exact ih (by omega) m1 (by omega)
    · rfl
theorem tr_ok {n : Nat} {A : Nat → Nat} {B : Nat} (ok : rowOk B A) (hn : n ≤ A 68) : rowOk B (up A 68 n) := by
  obtain ⟨o1, o2, o3, o4, o5, o6, o7⟩ := ok
  refine ⟨fun k hk => by rw [up_ne _ (by omega)]; exact o1 k hk, by rw [up_ne _ (by omega)]; exact o2, by rw [up_ne _ (by omega)]; exact o3, by rw [up_ne _ (by omega)]; exact o4, by rw [up_ne _ (by omega)]; exact o5, by rw [up_eq]; omega, fun g hg => ?_⟩
  rw [up_eq] at hg
  unfold glOk
  simp (disch := omega) only [up_ne]
  exact o7 g (by omega)
