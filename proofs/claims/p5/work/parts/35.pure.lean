/-! what a minute does, as functions of rows -/
theorem take_lo {A : Nat → Nat} {g k : Nat} (hk : k < 64) : take A g k = if k = atN A g then A k - tk1 A g else A k := by
  unfold take
  rw [up_ne _ (by omega), up_ne _ (by omega), up_ne _ (by omega)]
  split
  · rename_i q; rw [q, up_eq]
  · rename_i q; rw [up_ne _ q]
theorem take_67 {A : Nat → Nat} {g : Nat} (_hat : atN A g < 64) : take A g 67 = A 67 - dr1 A g := by
  unfold take
  rw [up_ne _ (by omega), up_ne _ (by omega), up_eq]
theorem take_hi {A : Nat → Nat} {g k : Nat} (hat : atN A g < 64) (hk : 64 ≤ k) (h67 : k ≠ 67) : take A g k = if k = 73 + 8 * g then A k + (tk1 A g + dr1 A g) else if k = 74 + 8 * g then A k + dr1 A g else A k := by
  unfold take
  split
  · rename_i q; rw [up_ne _ (by omega), q, up_eq]
  · split
    · rename_i q; rw [q, up_eq]
    · rw [up_ne _ (by omega), up_ne _ (by omega), up_ne _ (by omega), up_ne _ (by omega)]
theorem rowOk.at {A : Nat → Nat} {B g : Nat} (ok : rowOk B A) (hg : g < A 68) : atN A g < 64 := by
  obtain ⟨o1, o2, o3, o4, o5, o6, o7⟩ := ok
  obtain ⟨g1, g2, g3, g4, g5, g6, g7, g8⟩ := o7 g hg
  unfold atN; omega
theorem tk1_le {A : Nat → Nat} {B g : Nat} (ok : rowOk B A) (hg : g < A 68) : tk1 A g ≤ 99 := by
  have := ok.1 _ (ok.at hg)
  have := share_le (A (69 + 8 * g)) (A (atN A g))
  unfold tk1; omega
theorem dr1_le (A : Nat → Nat) (g : Nat) : dr1 A g ≤ 2 := by
  have := pull_le (A (69 + 8 * g)) (A 64)
  unfold dr1; omega
theorem rowOk.take {A : Nat → Nat} {B g : Nat} (ok : rowOk B A) (hg : g < A 68) : rowOk (B + 101) (take A g) := by
  have hat := ok.at hg
  have ht := tk1_le ok hg
  have hd := dr1_le A g
  obtain ⟨o1, o2, o3, o4, o5, o6, o7⟩ := ok
  refine ⟨fun k hk => ?_, ?_, ?_, ?_, ?_, ?_, fun j hj => ?_⟩
  · rw [take_lo hk]; have := o1 k hk; split <;> omega
  · rw [take_hi hat (by omega) (by omega), if_neg (by omega), if_neg (by omega)]; exact o2
  · rw [take_hi hat (by omega) (by omega), if_neg (by omega), if_neg (by omega)]; exact o3
  · rw [take_hi hat (by omega) (by omega), if_neg (by omega), if_neg (by omega)]; exact o4
  · rw [take_67 hat]; omega
  · rw [take_hi hat (by omega) (by omega), if_neg (by omega), if_neg (by omega)]; exact o6
  · rw [take_hi hat (by omega) (by omega), if_neg (by omega), if_neg (by omega)] at hj
    obtain ⟨g1, g2, g3, g4, g5, g6, g7, g8⟩ := o7 j hj
    refine ⟨?_, ?_, ?_, ?_, ?_, ?_, ?_, ?_⟩
    · rw [take_hi hat (by omega) (by omega), if_neg (by omega), if_neg (by omega)]; exact g1
    · rw [take_hi hat (by omega) (by omega), if_neg (by omega), if_neg (by omega)]; exact g2
    · rw [take_hi hat (by omega) (by omega), if_neg (by omega), if_neg (by omega)]; exact g3
    · rw [take_hi hat (by omega) (by omega), if_neg (by omega), if_neg (by omega)]; exact g4
    · rw [take_hi hat (by omega) (by omega)]; split
      · omega
      · rw [if_neg (by omega)]; omega
    · rw [take_hi hat (by omega) (by omega), take_hi hat (by omega) (by omega), if_neg (by omega)]
      by_cases q : j = g
      · subst q; rw [if_pos rfl, if_pos rfl]; omega
      · rw [if_neg (by omega), if_neg (by omega), if_neg (by omega)]; exact g6
    · rw [take_hi hat (by omega) (by omega), if_neg (by omega), if_neg (by omega)]; exact g7
    · rw [take_hi hat (by omega) (by omega), if_neg (by omega), if_neg (by omega)]; exact g8
theorem step_ne {A : Nat → Nat} {g k : Nat} (h1 : k ≠ 70 + 8 * g) (h2 : k ≠ 71 + 8 * g) (h3 : k ≠ 75 + 8 * g) (h4 : k ≠ 76 + 8 * g) : stepN A g k = A k := by
  unfold stepN
  (repeat' split) <;> simp only [up_ne _ h1, up_ne _ h2, up_ne _ h3, up_ne _ h4]
theorem step_ok {A : Nat → Nat} {g : Nat} (h1 : A (70 + 8 * g) ≤ 7) (h2 : A (71 + 8 * g) ≤ 7) (h3 : A (75 + 8 * g) ≤ 1) (h4 : A (76 + 8 * g) ≤ 1) : stepN A g (70 + 8 * g) ≤ 7 ∧ stepN A g (71 + 8 * g) ≤ 7 ∧ stepN A g (75 + 8 * g) ≤ 1 ∧ stepN A g (76 + 8 * g) ≤ 1 := by
  unfold stepN
  (repeat' split) <;> refine ⟨?_, ?_, ?_, ?_⟩ <;> simp only [up] <;> (repeat' split) <;> omega
theorem rowOk.step {A : Nat → Nat} {B g : Nat} (ok : rowOk B A) (hg : g < A 68) : rowOk B (stepN A g) := by
  obtain ⟨o1, o2, o3, o4, o5, o6, o7⟩ := ok
  refine ⟨fun k hk => ?_, ?_, ?_, ?_, ?_, ?_, fun j hj => ?_⟩
  · rw [step_ne (by omega) (by omega) (by omega) (by omega)]; exact o1 k hk
  · rw [step_ne (by omega) (by omega) (by omega) (by omega)]; exact o2
  · rw [step_ne (by omega) (by omega) (by omega) (by omega)]; exact o3
  · rw [step_ne (by omega) (by omega) (by omega) (by omega)]; exact o4
  · rw [step_ne (by omega) (by omega) (by omega) (by omega)]; exact o5
  · rw [step_ne (by omega) (by omega) (by omega) (by omega)]; exact o6
  · rw [step_ne (by omega) (by omega) (by omega) (by omega)] at hj
    obtain ⟨g1, g2, g3, g4, g5, g6, g7, g8⟩ := o7 j hj
    by_cases q : j = g
    · subst q
      obtain ⟨s1, s2, s3, s4⟩ := step_ok g2 g3 g7 g8
      refine ⟨?_, s1, s2, ?_, ?_, ?_, s3, s4⟩
      · rw [step_ne (by omega) (by omega) (by omega) (by omega)]; exact g1
      · rw [step_ne (by omega) (by omega) (by omega) (by omega)]; exact g4
      · rw [step_ne (by omega) (by omega) (by omega) (by omega)]; exact g5
      · rw [step_ne (by omega) (by omega) (by omega) (by omega), step_ne (by omega) (by omega) (by omega) (by omega)]; exact g6
    · refine ⟨?_, ?_, ?_, ?_, ?_, ?_, ?_, ?_⟩
      · rw [step_ne (by omega) (by omega) (by omega) (by omega)]; exact g1
      · rw [step_ne (by omega) (by omega) (by omega) (by omega)]; exact g2
      · rw [step_ne (by omega) (by omega) (by omega) (by omega)]; exact g3
      · rw [step_ne (by omega) (by omega) (by omega) (by omega)]; exact g4
      · rw [step_ne (by omega) (by omega) (by omega) (by omega)]; exact g5
      · rw [step_ne (by omega) (by omega) (by omega) (by omega), step_ne (by omega) (by omega) (by omega) (by omega)]; exact g6
      · rw [step_ne (by omega) (by omega) (by omega) (by omega)]; exact g7
      · rw [step_ne (by omega) (by omega) (by omega) (by omega)]; exact g8
/-- who is at work takes, from g on, n of them; how much -/
def takeAll (w : Nat → Bool) : Nat → Nat → (Nat → Nat) → (Nat → Nat)
  | _, 0, A => A
  | g, n + 1, A => takeAll w (g + 1) n (if w g = true ∧ A (76 + 8 * g) = 0 then take A g else A)
def tookAll (w : Nat → Bool) : Nat → Nat → (Nat → Nat) → Nat
  | _, 0, _ => 0
  | g, n + 1, A => if w g = true ∧ A (76 + 8 * g) = 0 then (tk1 A g + dr1 A g) + tookAll w (g + 1) n (take A g) else tookAll w (g + 1) n A
def steps (w : Nat → Bool) (g : Nat) : Nat → (Nat → Nat) → (Nat → Nat)
  | 0, A => A
  | n + 1, A => if w g = true ∧ A (76 + 8 * g) = 0 then steps w g n (stepN A g) else A
def goAll (w : Nat → Bool) : Nat → Nat → (Nat → Nat) → (Nat → Nat)
  | _, 0, A => A
  | g, n + 1, A => goAll w (g + 1) n (steps w g (paceN (A (69 + 8 * g)) (A 64)) A)
def geeseN (A : Nat → Nat) : Nat → Nat := if A 64 = A 66 then wipeN (wipeN A 0 8) 8 8 else A
def openN (w : Nat → Bool) (A : Nat → Nat) : Nat → Nat := if A 64 < A 65 then A else goAll w 0 (A 68) (takeAll w 0 (A 68) A)
def minN (w : Nat → Bool) (A : Nat → Nat) : Nat → Nat := up (openN w (geeseN A)) 64 (A 64 + 1)
def tookN (w : Nat → Bool) (A : Nat → Nat) : Nat := if A 64 < A 65 then 0 else tookAll w 0 (A 68) (geeseN A)
