/-! what the constructors leave, in the first machine's words -/
def nZ : List NC := nW2.getD []
theorem nZ_len : nZ.length = 63 := by decide +kernel
def hi0 : HI := fun h k => gI (nZ.getD h (0, [])).2 k
def hl0 : HL := fun h k => gL (nZ.getD h (0, [])).2 k
def nzB (h : Nat) : Bool := match nZ[h]? with
  | some (k, vs) => (k == kd h) && (if k < 8 then decide (vs = (List.range (nfL.getD k 0)).map (fun j => if rt k j = true then Value.ref (rf h j) else Value.int (gI vs j))) else decide (vs.length = ln h) && (if k < 11 then true else (List.range (ln h)).all (fun j => decide (vs[j]? = some (Value.ref (rf h j))))))
  | none => false
theorem nzB_ok : (List.range 63).all nzB = true := by decide +kernel
theorem arrV_cong {c : ClassId} {n : Nat} {f g : Nat → Value} (h : ∀ j, j < n → f j = g j) : arrV c n f = arrV c n g := by
  unfold arrV
  have e : (fun j : Fin n => f j.val) = (fun j : Fin n => g j.val) := funext (fun j => h j.val j.isLt)
  rw [e]
theorem nz_at {u : UV} {h : Nat} {H : Heap} (hh : h < 63) (P : va_P (xD u) zCl (nw u nZ) H) : va_at (xD u) zCl (xA u h, en u hi0 hl0 h) H := by
  have hb := List.all_eq_true.mp nzB_ok h (List.mem_range.mpr hh)
  unfold nzB at hb
  split at hb
  · rename_i k vs hz
    have hp := P h _ (nw_get hz)
    rw [Bool.and_eq_true, beq_iff_eq] at hb
    obtain ⟨hk, hb⟩ := hb
    have hgd : nZ.getD h (0, []) = (k, vs) := by rw [List.getD_eq_getElem?_getD, hz]; rfl
    have hgi : hi0 h = gI vs := by funext j; unfold hi0; rw [hgd]
    have hgl : hl0 h = gL vs := by funext j; unfold hl0; rw [hgd]
    by_cases h8 : k < 8
    · rw [if_pos h8, decide_eq_true_eq] at hb
      rw [nt_o h8] at hp
      rw [en_o hk.symm h8]
      have e : vs.map (tv u) = fds u hi0 h k := by
        conv => lhs; rw [hb]
        unfold fds
        rw [List.map_map]
        apply List.map_congr_left
        intro j _
        show tv u _ = _
        rw [hgi]
        dsimp only
        by_cases hr : rt k j = true
        · rw [if_pos hr, if_pos hr]; rfl
        · rw [if_neg hr, if_neg hr]; rfl
      rw [← e]
      exact hp
    · rw [if_neg h8, Bool.and_eq_true, decide_eq_true_eq] at hb
      obtain ⟨hl, hb⟩ := hb
      have hk13 : k ≤ 13 := by
        have : ∀ h, h < 63 → kd h ≤ 13 := by decide +kernel
        rw [hk]; exact this h hh
      have hc : k = 8 ∨ k = 9 ∨ k = 10 ∨ 11 ≤ k := by omega
      rcases hc with rfl | rfl | rfl | h11
      · rw [en_i hk.symm, hgi, ← hl]; exact hp
      · rw [en_b hk.symm, hgi, ← hl]; exact hp
      · rw [en_l hk.symm, hgl, ← hl]; exact hp
      · rw [if_neg (by omega)] at hb
        rw [nt_q h11] at hp
        rw [en_a hk.symm h11]
        show H[xA u h]? = some (vp_cell _ _)
        have hp : H[xA u h]? = some (vp_cell (xC u k) (vs.length, .inr (.inr (.inr (.inr (gR u vs)))))) := hp
        rw [hp, vp_cell_q, vp_cell_q, hl]
        refine congrArg some (arrV_cong (fun i hi => ?_))
        have hj := List.all_eq_true.mp hb i (List.mem_range.mpr hi)
        rw [decide_eq_true_eq] at hj
        have : gR u vs i = some (xA u (rf h i)) := by
          unfold gR
          rw [List.getD_eq_getElem?_getD, hj]
          rfl
        rw [this]
  · cases hb
theorem nz_wd {u : UV} {H : Heap} (P : va_P (xD u) zCl (nw u nZ) H) : va_P (xD u) zCl (wd u hi0 hl0) H := by
  intro k q hk
  unfold wd at hk
  rw [List.getElem?_map] at hk
  cases hr : (List.range 63)[k]? with
  | none => rw [hr] at hk; cases hk
  | some j =>
    have hlt : k < 63 := by have := (List.getElem?_eq_some_iff.mp hr).1; simpa using this
    rw [List.getElem?_range hlt] at hk
    cases hk
    exact nz_at hlt P
