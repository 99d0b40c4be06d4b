section P37
variable {N : Nat → Nat} {L p : Nat} {A : Nat → Nat} {B : Nat}
theorem rd1_le {g : Nat} {f : Nat → It} (hp : p ≤ L) : p ≤ (rd1 N L g f p).2.1 ∧ (rd1 N L g f p).2.1 ≤ L := by
  have := nx_le (N := N) hp
  unfold rd1
  split <;> dsimp only <;> omega
theorem rowL_le {r : Nat} : ∀ n k p, p ≤ L → p ≤ (rowL N L r n k p).2.1 ∧ (rowL N L r n k p).2.1 ≤ L := by
  intro n
  induction n with
  | zero => intro k p hp; rw [rowL]; dsimp only; omega
  | succ n ih =>
    intro k p hp
    have h1 := nx_le (N := N) hp
    have h2 := ih (k + 1) (nxT N L p) h1.2
    rw [rowL]
    split
    · dsimp only; omega
    · split
      · dsimp only; omega
      · dsimp only; omega
theorem rowT_le (hp : p ≤ L) : p ≤ (rowT N L p).2.1 ∧ (rowT N L p).2.1 ≤ L := by
  have h1 := nx_le (N := N) hp
  have h2 := nx_le (N := N) h1.2
  have h3 := rowL_le (N := N) (L := L) (r := nuT N L p) 8 0 _ h2.2
  unfold rowT
  split
  · split
    · omega
    · dsimp only; omega
  · dsimp only; omega
theorem optT_p {i g : Nat} (hp : p ≤ L) : p ≤ (optT N L i g p).2.1 ∧ (optT N L i g p).2.1 ≤ L := by
  have h1 := nx_le (N := N) hp
  have h2 := nx_le (N := N) h1.2
  unfold optT
  split
  · split <;> dsimp only <;> omega
  · dsimp only; omega
theorem glA_le {k r w h : Nat} (hp : p ≤ L) : p ≤ (glA N L k r w h p).2.1 ∧ (glA N L k r w h p).2.1 ≤ L := by
  have h1 := nx_le (N := N) hp
  unfold glA
  split <;> dsimp only <;> omega
theorem glB_le {k r w : Nat} (hp : p ≤ L) : p ≤ (glB N L k r w p).2.1 ∧ (glB N L k r w p).2.1 ≤ L := by
  have h1 := optT_p (N := N) (i := 14) (g := 4) hp
  have h2 := glA_le (N := N) (k := k) (r := r) (w := w) (h := (optT N L 14 4 p).2.2) h1.2
  unfold glB
  split
  · omega
  · dsimp only; omega
theorem glC_le {k r : Nat} (hp : p ≤ L) : p ≤ (glC N L k r p).2.1 ∧ (glC N L k r p).2.1 ≤ L := by
  have h1 := optT_p (N := N) (i := 13) (g := 7) hp
  have h2 := glB_le (N := N) (k := k) (r := r) (w := (optT N L 13 7 p).2.2) h1.2
  unfold glC
  split
  · omega
  · dsimp only; omega
theorem glE_le {k : Nat} (hp : p ≤ L) : p ≤ (glE N L k p).2.1 ∧ (glE N L k p).2.1 ≤ L := by
  have h1 := nx_le (N := N) hp
  have h2 := nx_le (N := N) h1.2
  have h3 := glC_le (N := N) (k := k) (r := nuT N L (nxT N L p)) h2.2
  unfold glE
  split
  · unfold glD
    split
    · omega
    · dsimp only; omega
  · dsimp only; omega
theorem kd_1 : ∀ n k, kdF N L p n k < k + n → tkS N L p = 1 := by
  intro n
  induction n with
  | zero => intro k h; rw [kdF] at h; omega
  | succ n ih =>
    intro k h
    rw [kdF] at h
    split at h
    · rename_i q; exact wd_1 q
    · exact ih (k + 1) (by omega)
/-- an item's end: behind its begin if it is one, and on the tape -/
theorem it_le {g : Nat} (hp : p ≤ L) : ((itT N L g p).1 = true → p < (itT N L g p).2.1) ∧ (itT N L g p).2.1 ≤ L := by
  have h1 := nx_le (N := N) hp
  have nl : tkS N L p = 1 → p < nxT N L p := fun e => (nx_lt (N := N) hp (by omega)).1
  unfold itT
  split
  · rename_i q
    have := nl (wd_1 q)
    have := rowT_le (N := N) h1.2
    exact ⟨fun _ => by omega, by omega⟩
  split
  · rename_i q
    have := nl (wd_1 q)
    have := rd1_le (N := N) (g := 99) (f := fun v => (11, v, 0, 0, 0)) h1.2
    exact ⟨fun _ => by omega, by omega⟩
  split
  · rename_i q
    have := nl (wd_1 q)
    have := rd1_le (N := N) (g := 999) (f := fun v => (12, 0, v, 0, 0)) h1.2
    exact ⟨fun _ => by omega, by omega⟩
  split
  · rename_i q
    have := nl (wd_1 q)
    have := rd1_le (N := N) (g := 9999) (f := fun v => (12, 1, v, 0, 0)) h1.2
    exact ⟨fun _ => by omega, by omega⟩
  split
  · rename_i q
    have := nl (wd_1 q)
    have := rd1_le (N := N) (g := 9999) (f := fun v => (12, 2, v, 0, 0)) h1.2
    exact ⟨fun _ => by omega, by omega⟩
  unfold glT
  have k6 := kdF_le N L p 6 0
  split
  · exact ⟨fun z => absurd z (by simp), hp⟩
  · rename_i q
    have := nl (kd_1 6 0 (by omega))
    have := glE_le (N := N) (k := kdF N L p 6 0) h1.2
    exact ⟨fun _ => by omega, by omega⟩
theorem fill_ok2 {v : Nat} (ok : rowOk B A) (hv : v ≤ 99) : rowOk B (fillN A v) ∧ fillN A v 64 = A 64 := by
  obtain ⟨a, b⟩ := fill_ok ok hv
  exact ⟨a, b 64 (by omega)⟩
theorem rowL_ok {r : Nat} (hr : r ≤ 7) : ∀ n k p (A : Nat → Nat), k + n ≤ 8 → rowOk B A → rowOk B (apL (rowL N L r n k p).2.2 A) ∧ apL (rowL N L r n k p).2.2 A 64 = A 64 := by
  intro n
  induction n with
  | zero => intro k p A _ ok; exact ⟨ok, rfl⟩
  | succ n ih =>
    intro k p A e ok
    rw [rowL]
    split
    · exact ⟨ok, rfl⟩
    · split
      · rename_i q
        obtain ⟨a, b⟩ := ih (k + 1) (nxT N L p) (up A (8 * r + k) (nuT N L p)) (by omega) (ok.up_lo (by omega) q.2)
        exact ⟨a, b.trans (up_ne _ (by omega))⟩
      · exact ⟨ok, rfl⟩
theorem it_ok (ok : rowOk B A) (h1 : (itT N L (A 68) p).1 = true) : rowOk B (apL (itT N L (A 68) p).2.2 A) ∧ apL (itT N L (A 68) p).2.2 A 64 = A 64 := by
  have o6 := ok.2.2.2.2.2.1
  unfold itT at h1 ⊢
  split at h1
  · rename_i q
    rw [if_pos q]
    unfold rowT
    split
    · rename_i q1
      split
      · exact rowL_ok q1.2 8 0 _ A (by omega) ok
      · exact ⟨ok, rfl⟩
    · exact ⟨ok, rfl⟩
  rename_i n1
  rw [if_neg n1]
  split at h1
  · rename_i q
    rw [if_pos q]
    unfold rd1
    split
    · rename_i q1; exact fill_ok2 ok q1.2
    · exact ⟨ok, rfl⟩
  rename_i n2
  rw [if_neg n2]
  split at h1
  · rename_i q
    rw [if_pos q]
    unfold rd1
    split
    · rename_i q1; exact ⟨ok.up65 q1.2, (show up A 65 (nuT N L (nxT N L p)) 64 = A 64 from up_ne _ (by omega))⟩
    · exact ⟨ok, rfl⟩
  rename_i n3
  rw [if_neg n3]
  split at h1
  · rename_i q
    rw [if_pos q]
    unfold rd1
    split
    · rename_i q1; exact ⟨ok.up66 q1.2, (show up A 66 (nuT N L (nxT N L p)) 64 = A 64 from up_ne _ (by omega))⟩
    · exact ⟨ok, rfl⟩
  rename_i n4
  rw [if_neg n4]
  split at h1
  · rename_i q
    rw [if_pos q]
    unfold rd1
    split
    · rename_i q1; exact ⟨ok.up67 q1.2, (show up A 67 (nuT N L (nxT N L p)) 64 = A 64 from up_ne _ (by omega))⟩
    · exact ⟨ok, rfl⟩
  rename_i n5
  rw [if_neg n5]
  have k6 := kdF_le N L p 6 0
  unfold glT
  split
  · exact ⟨ok, rfl⟩
  rename_i n6
  have k5 : kdF N L p 6 0 < 6 := by omega
  unfold glE
  split
  · unfold glD
    split
    · rename_i q7
      unfold glC
      split
      · unfold glB
        split
        · have w1 := optT_le N L 13 7 (nxT N L (nxT N L (nxT N L p)))
          have w2 := optT_le N L 14 4 (optT N L 13 7 (nxT N L (nxT N L (nxT N L p)))).2.1
          unfold glA
          split
          · rw [ap1 k5]; exact add_ok ok (by omega) (by omega) q7.2 w1 w2 (by omega)
          · rw [ap1 k5]; exact add_ok ok (by omega) (by omega) q7.2 w1 w2 (by omega)
        · exact ⟨ok, rfl⟩
      · exact ⟨ok, rfl⟩
    · exact ⟨ok, rfl⟩
  · exact ⟨ok, rfl⟩
end P37
