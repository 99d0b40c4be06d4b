/-! a field of the class as a row of numbers -/
def isF (f : Nat) : Prop := f = 1 ∨ f = 13 ∨ f = 25
def lh (f k : Nat) : Nat := if k < 64 then f + 1 else if k < 69 then f else f + 3 + (k - 69) / 8
def lj (k : Nat) : Nat := if k < 64 then k else if k = 64 then 4 else if k = 65 then 5 else if k = 66 then 6 else if k = 67 then 3 else if k = 68 then 2 else (k - 69) % 8
def Fp (hi : HI) (f : Nat) (A : Nat → Nat) : Prop := ∀ k, k < 69 + 8 * A 68 → hi (lh f k) (lj k) = nI (A k)
theorem lhj_inj {f k k' : Nat} (h : lh f k' = lh f k) (h2 : lj k' = lj k) : k' = k := by
  unfold lh at h; unfold lj at h2
  (repeat' split at h) <;> (repeat' split at h2) <;> omega
theorem Fp.upk {hi : HI} {f k v : Nat} {A : Nat → Nat} (h : Fp hi f A) (hk : k ≠ 68) : Fp (up2 hi (lh f k) (lj k) (nI v)) f (up A k v) := by
  intro j hj
  rw [up_ne A (show (68 : Nat) ≠ k from fun q => hk q.symm)] at hj
  by_cases q : j = k
  · subst q; rw [u2_eq, up_eq]
  · rw [up_ne A q, ← h j hj]
    by_cases q2 : lh f j = lh f k
    · rw [q2, u2_nk (fun q3 => q (lhj_inj q2 q3))]
    · rw [u2_nh q2]
theorem lh_p {f k : Nat} (h : k < 64) : lh f k = f + 1 := by unfold lh; rw [if_pos h]
theorem lj_p {k : Nat} (h : k < 64) : lj k = k := by unfold lj; rw [if_pos h]
theorem lh_g {f g j : Nat} (h : j < 8) : lh f (69 + 8 * g + j) = f + 3 + g := by
  unfold lh; rw [if_neg (by omega), if_neg (by omega)]; omega
theorem lj_g {g j : Nat} (h : j < 8) : lj (69 + 8 * g + j) = j := by
  unfold lj; rw [if_neg (by omega), if_neg (by omega), if_neg (by omega), if_neg (by omega), if_neg (by omega), if_neg (by omega)]; omega
theorem Fp.p {hi : HI} {f : Nat} {A : Nat → Nat} (h : Fp hi f A) {k : Nat} (hk : k < 64) : hi (f + 1) k = nI (A k) := by
  have := h k (by omega); rwa [lh_p hk, lj_p hk] at this
theorem Fp.g {hi : HI} {f : Nat} {A : Nat → Nat} (h : Fp hi f A) {g j : Nat} (hg : g < A 68) (hj : j < 8) : hi (f + 3 + g) j = nI (A (69 + 8 * g + j)) := by
  have := h (69 + 8 * g + j) (by omega); rwa [lh_g hj, lj_g hj] at this
theorem Fp.s4 {hi : HI} {f : Nat} {A : Nat → Nat} (h : Fp hi f A) : hi f 4 = nI (A 64) := h 64 (by omega)
theorem Fp.s5 {hi : HI} {f : Nat} {A : Nat → Nat} (h : Fp hi f A) : hi f 5 = nI (A 65) := h 65 (by omega)
theorem Fp.s6 {hi : HI} {f : Nat} {A : Nat → Nat} (h : Fp hi f A) : hi f 6 = nI (A 66) := h 66 (by omega)
theorem Fp.s3 {hi : HI} {f : Nat} {A : Nat → Nat} (h : Fp hi f A) : hi f 3 = nI (A 67) := h 67 (by omega)
theorem Fp.s2 {hi : HI} {f : Nat} {A : Nat → Nat} (h : Fp hi f A) : hi f 2 = nI (A 68) := h 68 (by omega)
theorem Fp.upp {hi : HI} {f k v : Nat} {A : Nat → Nat} (h : Fp hi f A) (hk : k < 64) : Fp (up2 hi (f + 1) k (nI v)) f (up A k v) := by
  have := h.upk (k := k) (v := v) (by omega); rwa [lh_p hk, lj_p hk] at this
theorem Fp.upg {hi : HI} {f g j v : Nat} {A : Nat → Nat} (h : Fp hi f A) (hj : j < 8) : Fp (up2 hi (f + 3 + g) j (nI v)) f (up A (69 + 8 * g + j) v) := by
  have := h.upk (k := 69 + 8 * g + j) (v := v) (by omega); rwa [lh_g hj, lj_g hj] at this
theorem Fp.up4 {hi : HI} {f v : Nat} {A : Nat → Nat} (h : Fp hi f A) : Fp (up2 hi f 4 (nI v)) f (up A 64 v) := h.upk (k := 64) (by omega)
theorem Fp.up5 {hi : HI} {f v : Nat} {A : Nat → Nat} (h : Fp hi f A) : Fp (up2 hi f 5 (nI v)) f (up A 65 v) := h.upk (k := 65) (by omega)
theorem Fp.up6 {hi : HI} {f v : Nat} {A : Nat → Nat} (h : Fp hi f A) : Fp (up2 hi f 6 (nI v)) f (up A 66 v) := h.upk (k := 66) (by omega)
theorem Fp.up3 {hi : HI} {f v : Nat} {A : Nat → Nat} (h : Fp hi f A) : Fp (up2 hi f 3 (nI v)) f (up A 67 v) := h.upk (k := 67) (by omega)
/-- only the field f changes -/
def fF (f : Nat) (hi hi' : HI) : Prop := ∀ o, (o < f ∨ f + 12 ≤ o) → hi' o = hi o
theorem fF.refl (f : Nat) (hi : HI) : fF f hi hi := fun _ _ => rfl
theorem fF.trans {f : Nat} {a b c : HI} (h : fF f a b) (h2 : fF f b c) : fF f a c := fun o ho => (h2 o ho).trans (h o ho)
theorem fF.up {f : Nat} {a b : HI} (h : fF f a b) {o j : Nat} {v : Int32} (ho : f ≤ o ∧ o < f + 12) : fF f a (up2 b o j v) := fun p hp => by
  rw [← h p hp]; funext i; exact u2_nh (by omega)
theorem F_k {f : Nat} (h : isF f) : kd f = 0 := by rcases h with h | h | h <;> subst h <;> decide
theorem F_k1 {f : Nat} (h : isF f) : kd (f + 1) = 8 := by rcases h with h | h | h <;> subst h <;> decide
theorem F_l1 {f : Nat} (h : isF f) : ln (f + 1) = 64 := by rcases h with h | h | h <;> subst h <;> decide
theorem F_r0 {f : Nat} (h : isF f) : rf f 0 = f + 1 := by rcases h with h | h | h <;> subst h <;> decide
theorem F_r1 {f : Nat} (h : isF f) : rf f 1 = f + 2 := by rcases h with h | h | h <;> subst h <;> decide
theorem F_k2 {f : Nat} (h : isF f) : (11 ≤ kd (f + 2) ∧ kd (f + 2) ≤ 13) = True := by rcases h with h | h | h <;> subst h <;> decide
theorem F_l2 {f : Nat} (h : isF f) : ln (f + 2) = 9 := by rcases h with h | h | h <;> subst h <;> decide
theorem F_rg {f g : Nat} (h : isF f) (hg : g < 9) : rf (f + 2) g = f + 3 + g := by
  have : g = 0 ∨ g = 1 ∨ g = 2 ∨ g = 3 ∨ g = 4 ∨ g = 5 ∨ g = 6 ∨ g = 7 ∨ g = 8 := by omega
  rcases h with h | h | h <;> subst h <;> rcases this with h | h | h | h | h | h | h | h | h <;> subst h <;> decide
theorem F_kg {f g : Nat} (h : isF f) (hg : g < 9) : kd (f + 3 + g) = 1 := by
  have : g = 0 ∨ g = 1 ∨ g = 2 ∨ g = 3 ∨ g = 4 ∨ g = 5 ∨ g = 6 ∨ g = 7 ∨ g = 8 := by omega
  rcases h with h | h | h <;> subst h <;> rcases this with h | h | h | h | h | h | h | h | h <;> subst h <;> decide
