theorem rowOk.mono {A : Nat → Nat} {B B' : Nat} (ok : rowOk B A) (h : B ≤ B') : rowOk B' A := by
  obtain ⟨o1, o2, o3, o4, o5, o6, o7⟩ := ok
  refine ⟨o1, o2, o3, o4, o5, o6, fun g hg => ?_⟩
  obtain ⟨g1, g2, g3, g4, g5, g6, g7, g8⟩ := o7 g hg
  exact ⟨g1, g2, g3, g4, by omega, g6, g7, g8⟩
/-- the same but for what minutes change -/
def same4 (A A' : Nat → Nat) : Prop := A' 64 = A 64 ∧ A' 65 = A 65 ∧ A' 66 = A 66 ∧ A' 68 = A 68
theorem same4.refl (A : Nat → Nat) : same4 A A := ⟨rfl, rfl, rfl, rfl⟩
theorem same4.trans {A A' A'' : Nat → Nat} (h : same4 A A') (h2 : same4 A' A'') : same4 A A'' := ⟨h2.1.trans h.1, h2.2.1.trans h.2.1, h2.2.2.1.trans h.2.2.1, h2.2.2.2.trans h.2.2.2⟩
theorem same4_take {A : Nat → Nat} {g : Nat} (hat : atN A g < 64) : same4 A (take A g) := by
  refine ⟨?_, ?_, ?_, ?_⟩ <;> rw [take_hi hat (by omega) (by omega), if_neg (by omega), if_neg (by omega)]
theorem same4_step {A : Nat → Nat} {g : Nat} : same4 A (stepN A g) := by
  refine ⟨?_, ?_, ?_, ?_⟩ <;> exact step_ne (by omega) (by omega) (by omega) (by omega)
theorem takeAll_ok (w : Nat → Bool) (n : Nat) : ∀ {A : Nat → Nat} {B g : Nat}, g + n ≤ A 68 → rowOk B A → rowOk (B + 101 * n) (takeAll w g n A) ∧ same4 A (takeAll w g n A) ∧ tookAll w g n A ≤ 101 * n := by
  induction n with
  | zero => intro A B g _ ok; exact ⟨ok, same4.refl A, Nat.le_refl _⟩
  | succ n ih =>
    intro A B g h ok
    rw [takeAll, tookAll]
    split
    · have s := same4_take (g := g) (ok.at (by omega))
      obtain ⟨a, b, c⟩ := ih (A := take A g) (B := B + 101) (g := g + 1) (by rw [s.2.2.2]; omega) (ok.take (by omega))
      have := tk1_le ok (g := g) (by omega)
      have := dr1_le A g
      exact ⟨a.mono (by omega), s.trans b, by omega⟩
    · obtain ⟨a, b, c⟩ := ih (A := A) (B := B) (g := g + 1) (by omega) ok
      exact ⟨a.mono (by omega), b, by omega⟩
theorem steps_ok (w : Nat → Bool) (g n : Nat) : ∀ {A : Nat → Nat} {B : Nat}, g < A 68 → rowOk B A → rowOk B (steps w g n A) ∧ same4 A (steps w g n A) := by
  induction n with
  | zero => intro A B _ ok; exact ⟨ok, same4.refl A⟩
  | succ n ih =>
    intro A B h ok
    rw [steps]
    split
    · have s := same4_step (A := A) (g := g)
      obtain ⟨a, b⟩ := ih (A := stepN A g) (by rw [s.2.2.2]; omega) (ok.step h)
      exact ⟨a, s.trans b⟩
    · exact ⟨ok, same4.refl A⟩
theorem goAll_ok (w : Nat → Bool) (n : Nat) : ∀ {A : Nat → Nat} {B g : Nat}, g + n ≤ A 68 → rowOk B A → rowOk B (goAll w g n A) ∧ same4 A (goAll w g n A) := by
  induction n with
  | zero => intro A B g _ ok; exact ⟨ok, same4.refl A⟩
  | succ n ih =>
    intro A B g h ok
    rw [goAll]
    obtain ⟨a, s⟩ := steps_ok w g (paceN (A (69 + 8 * g)) (A 64)) (A := A) (by omega) ok
    obtain ⟨b, c⟩ := ih (A := steps w g (paceN (A (69 + 8 * g)) (A 64)) A) (g := g + 1) (by rw [s.2.2.2]; omega) a
    exact ⟨b, s.trans c⟩
theorem wipe_ok {A : Nat → Nat} {B : Nat} (k n : Nat) (h : k + n ≤ 64) (ok : rowOk B A) : rowOk B (wipeN A k n) ∧ same4 A (wipeN A k n) := by
  obtain ⟨o1, o2, o3, o4, o5, o6, o7⟩ := ok
  have ne : ∀ j, 64 ≤ j → wipeN A k n j = A j := fun j hj => wipe_ne n A k j (by omega)
  refine ⟨⟨fun j hj => ?_, ?_, ?_, ?_, ?_, ?_, fun g hg => ?_⟩, ne _ (by omega), ne _ (by omega), ne _ (by omega), ne _ (by omega)⟩
  · by_cases q : k ≤ j ∧ j < k + n
    · rw [wipe_eq n A k j q.1 q.2]; omega
    · rw [wipe_ne n A k j (by omega)]; exact o1 j hj
  · rw [ne _ (by omega)]; exact o2
  · rw [ne _ (by omega)]; exact o3
  · rw [ne _ (by omega)]; exact o4
  · rw [ne _ (by omega)]; exact o5
  · rw [ne _ (by omega)]; exact o6
  · rw [ne _ (by omega)] at hg
    unfold glOk
    simp (disch := omega) only [ne]
    exact o7 g hg
theorem geese_ok {A : Nat → Nat} {B : Nat} (ok : rowOk B A) : rowOk B (geeseN A) ∧ same4 A (geeseN A) := by
  unfold geeseN
  split
  · obtain ⟨a, b⟩ := wipe_ok 0 8 (by omega) ok
    obtain ⟨c, d⟩ := wipe_ok 8 8 (by omega) a
    exact ⟨c, b.trans d⟩
  · exact ⟨ok, same4.refl A⟩
theorem open_ok {A : Nat → Nat} {B : Nat} (w : Nat → Bool) (ok : rowOk B A) : rowOk (B + 909) (openN w A) ∧ same4 A (openN w A) := by
  have h9 := ok.2.2.2.2.2.1
  unfold openN
  split
  · exact ⟨ok.mono (by omega), same4.refl A⟩
  · obtain ⟨a, b, c⟩ := takeAll_ok w (A 68) (A := A) (g := 0) (by omega) ok
    obtain ⟨d, e⟩ := goAll_ok w (A 68) (g := 0) (by rw [b.2.2.2]; omega) a
    exact ⟨d.mono (by omega), b.trans e⟩
theorem min_ok {A : Nat → Nat} {B : Nat} (w : Nat → Bool) (ok : rowOk B A) (hm : A 64 < 10200) : rowOk (B + 909) (minN w A) ∧ minN w A 64 = A 64 + 1 ∧ minN w A 65 = A 65 ∧ minN w A 66 = A 66 ∧ minN w A 68 = A 68 ∧ tookN w A ≤ 909 := by
  obtain ⟨a, b⟩ := geese_ok ok
  obtain ⟨c, d⟩ := open_ok w a
  have e := b.trans d
  have h9 := ok.2.2.2.2.2.1
  obtain ⟨o1, o2, o3, o4, o5, o6, o7⟩ := c
  unfold minN
  refine ⟨⟨fun k hk => ?_, ?_, ?_, ?_, ?_, ?_, fun g hg => ?_⟩, up_eq _ _ _, ?_, ?_, ?_, ?_⟩
  · rw [up_ne _ (by omega)]; exact o1 k hk
  · rw [up_eq]; omega
  · rw [up_ne _ (by omega)]; exact o3
  · rw [up_ne _ (by omega)]; exact o4
  · rw [up_ne _ (by omega)]; exact o5
  · rw [up_ne _ (by omega)]; exact o6
  · rw [up_ne _ (by omega)] at hg
    unfold glOk
    simp (disch := omega) only [up_ne]
    exact o7 g hg
  · rw [up_ne _ (by omega)]; exact e.2.1
  · rw [up_ne _ (by omega)]; exact e.2.2.1
  · rw [up_ne _ (by omega)]; exact e.2.2.2
  · unfold tookN
    split
    · omega
    · have := (takeAll_ok w (A 68) (A := geeseN A) (g := 0) (by rw [b.2.2.2]; omega) a).2.2
      omega
/-- what the reference's minutes change but its row -/
def fM (hi hi' : HI) : Prop := (∀ o, o ≠ 52 → o ≠ 51 → hi' o = hi o) ∧ ∀ k, k ≠ 5 → hi' 51 k = hi 51 k
theorem fM.refl (hi : HI) : fM hi hi := ⟨fun _ _ _ => rfl, fun _ _ => rfl⟩
theorem fM.trans {a b c : HI} (h : fM a b) (h2 : fM b c) : fM a c := ⟨fun o x y => (h2.1 o x y).trans (h.1 o x y), fun k x => (h2.2 k x).trans (h.2 k x)⟩
theorem fM.of {a b : HI} (h : ∀ o, o ≠ 52 → b o = a o) : fM a b := ⟨fun o x _ => h o x, fun k _ => by rw [h 51 (by omega)]⟩
theorem fM.up {a b : HI} (h : fM a b) (k : Nat) (v : Int32) : fM a (up2 b 52 k v) := h.trans (fM.of fun o ho => by funext j; rw [u2_nh ho])
