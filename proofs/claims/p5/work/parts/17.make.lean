def gI (vs : List Value) (j : Nat) : Int32 := match vs.getD j .null with
  | .int x => x
  | _ => 0
def gL (vs : List Value) (j : Nat) : Int64 := match vs.getD j .null with
  | .long x => x
  | _ => 0
def gR (u : UV) (vs : List Value) (j : Nat) : Option Nat := match vs.getD j .null with
  | .ref h => some (xA u h)
  | _ => none
def nt (u : UV) (c : NC) : va_E := if c.1 < 8 then .inr (c.1, c.2.map (tv u)) else if c.1 < 10 then .inl (xC u c.1, c.2.length, .inl (gI c.2)) else if c.1 = 10 then .inl (xC u 10, c.2.length, .inr (.inl (gL c.2))) else .inl (xC u c.1, c.2.length, .inr (.inr (.inr (.inr (gR u c.2)))))
def nw (u : UV) (ws : List NC) : va_W := ws.zipIdx.map (fun q => (xA u q.2, nt u q.1))
theorem nw_at (u : UV) (ws : List NC) (h : Nat) : (nw u ws)[h]? = (ws[h]?).map (fun c => (xA u h, nt u c)) := by
  unfold nw
  rw [List.getElem?_map, List.getElem?_zipIdx]
  cases ws[h]? <;> simp
theorem nw_get {u : UV} {ws : List NC} {h : Nat} {c : NC} (e : ws[h]? = some c) : (nw u ws)[h]? = some (xA u h, nt u c) := by rw [nw_at, e]; rfl
theorem nw_len (u : UV) (ws : List NC) : (nw u ws).length = ws.length := by unfold nw; rw [List.length_map, List.length_zipIdx]
theorem nw_set {u : UV} {ws : List NC} {h : Nat} {c0 c : NC} {x : va_E} (e : ws[h]? = some c0) (hx : x = nt u c) : (nw u ws).set h (xA u h, x) = nw u (ws.set h c) := by
  subst hx
  have hl := (List.getElem?_eq_some_iff.mp e).1
  apply List.ext_getElem?
  intro j
  by_cases hj : j = h
  · subst hj
    rw [List.getElem?_set_self (by rw [nw_len]; exact hl), nw_at, List.getElem?_set_self hl]
    rfl
  · rw [List.getElem?_set_ne (Ne.symm hj), nw_at, nw_at, List.getElem?_set_ne (Ne.symm hj)]
theorem nw_app (u : UV) (ws : List NC) (c : NC) : nw u (ws ++ [c]) = nw u ws ++ [(xA u ws.length, nt u c)] := by
  unfold nw
  rw [List.zipIdx_append, List.map_append]
  simp
theorem nw_D {u : UV} {N : Nat} (hx : ∀ h, h < 63 → xA u h = N + h) {ws : List NC} (hl : ws.length ≤ 63) : va_D (fun q => N ≤ q) (nw u ws) := by
  have key : ∀ (i : Nat) (q : Nat × va_E), (nw u ws)[i]? = some q → i < 63 ∧ q.1 = N + i := by
    intro i q hq
    rw [nw_at] at hq
    cases hc : ws[i]? with
    | none => rw [hc] at hq; cases hq
    | some c =>
      rw [hc] at hq
      have hi : i < 63 := by have := (List.getElem?_eq_some_iff.mp hc).1; omega
      cases hq
      exact ⟨hi, hx i hi⟩
  refine ⟨fun i j p q hp hq e => ?_, fun k q hq => ?_⟩
  · have h1 := (key i p hp).2
    have h2 := (key j q hq).2
    omega
  · have h1 := (key k q hq).2
    show N ≤ q.1
    omega
def df (ci : Nat) : List Value := (List.range (nfL.getD ci 0)).map (fun k => if rt ci k = true then .null else .int 0)
theorem df_ok : ∀ ci, ci < 8 → ∀ j, j < nfL.getD ci 0 → defaultValue (zty ci j) = (df ci).getD j .null ∧ ((df ci).getD j .null = .null ∨ (df ci).getD j .null = .int 0) := by decide +kernel
def pfo (ci k : Nat) (v : Value) : Bool := match v with
  | .int x => !(rt ci k) && (!(bz ci k) || x == 0)
  | .ref _ => rt ci k
  | _ => false
def aso (ws : List NC) (k v : Nat) : Bool := if k = 13 then decide (100 ≤ v) && decide (v < 116) else decide ((ws[v]?).map (fun q => q.1) = some (k - 10))
/-! the machine -/
def nst (go : Nat → List Value → List Value → List NC → Nat → Nat → Option (List NC)) (call : Nat → List Value → List NC → Option (List NC)) (z pc : Nat) (r : Row) (lv st : List Value) (ws : List NC) (c s : Nat) : Option (List NC) :=
  match r.1 with
  | .aload_n i => match lv[(i : Nat)]? with
    | some (.ref h) => go (pc + 1) lv (.ref h :: st) ws c s
    | _ => none
  | .iload_n i => match lv[(i : Nat)]? with
    | some (.int x) => go (pc + 1) lv (.int x :: st) ws c s
    | _ => none
  | .istore_n i => match st with
    | .int x :: st => if (i : Nat) < lv.length then go (pc + 1) (lv.set i (.int x)) st ws c s else none
    | _ => none
  | .iinc i n => match lv[i]? with
    | some (.int x) => go (pc + 3) (lv.set i (.int (x + Int32.ofInt n))) st ws c s
    | _ => none
  | .iconst n => go (pc + 1) lv (.int (Int32.ofInt n) :: st) ws c s
  | .bipush n => go (pc + 2) lv (.int (Int8.ofInt n).toInt32 :: st) ws c s
  | .sipush n => go (pc + 3) lv (.int (Int16.ofInt n).toInt32 :: st) ws c s
  | .ldc i => match lk SLT (nO z) i with
    | some n => if i < 10000 ∧ n < 16 then go (pc + 2) lv (.ref (100 + n) :: st) ws c s else none
    | none => none
  | .dup => match st with
    | .ref h :: st => go (pc + 1) lv (.ref h :: .ref h :: st) ws c s
    | _ => none
  | .if_icmp .ge _ => match st with
    | .int b :: .int a :: st => if b ≤ a then go r.2.2.1 lv st ws c s else go (pc + 3) lv st ws c s
    | _ => none
  | .goto _ => go r.2.2.1 lv st ws c s
  | .new i => match lk NNL (nO z) i with
    | some ci => if i < 10000 ∧ ws.length < 63 ∧ c + 1 ≤ nCc z ∧ s + nfL.getD ci 0 ≤ nCs z then go (pc + 3) lv (.ref ws.length :: st) (ws ++ [(ci, df ci)]) (c + 1) (s + nfL.getD ci 0) else none
    | none => none
  | .newarray t => match st with
    | .int n :: st => if ¬ n < 0 ∧ n.toNatClampNeg ≤ 1000 ∧ ws.length < 63 ∧ c + 1 ≤ nCc z ∧ s + n.toNatClampNeg ≤ nCs z then
        (match t with
        | .int => go (pc + 2) lv (.ref ws.length :: st) (ws ++ [(8, List.replicate n.toNatClampNeg (.int 0))]) (c + 1) (s + n.toNatClampNeg)
        | .byte => go (pc + 2) lv (.ref ws.length :: st) (ws ++ [(9, List.replicate n.toNatClampNeg (.int 0))]) (c + 1) (s + n.toNatClampNeg)
        | .long => go (pc + 2) lv (.ref ws.length :: st) (ws ++ [(10, List.replicate n.toNatClampNeg (.long 0))]) (c + 1) (s + n.toNatClampNeg)
        | _ => none) else none
    | _ => none
  | .anewarray i => match st with
    | .int n :: st => match lk NAL (nO z) i with
      | some k => if i < 10000 ∧ ¬ n < 0 ∧ n.toNatClampNeg ≤ 1000 ∧ ws.length < 63 ∧ c + 1 ≤ nCc z ∧ s + n.toNatClampNeg ≤ nCs z then go (pc + 3) lv (.ref ws.length :: st) (ws ++ [(k, List.replicate n.toNatClampNeg .null)]) (c + 1) (s + n.toNatClampNeg) else none
      | none => none
    | _ => none
  | .aastore => match st with
    | .ref v :: .int i :: .ref h :: st => match ws[h]? with
      | some (k, vs) => if 11 ≤ k ∧ k ≤ 13 ∧ ¬ i < 0 ∧ i.toNatClampNeg < vs.length ∧ aso ws k v = true then go (pc + 1) lv st (ws.set h (k, vs.set i.toNatClampNeg (.ref v))) c s else none
      | none => none
    | _ => none
  | .iastore => match st with
    | .int x :: .int i :: .ref h :: st => match ws[h]? with
      | some (k, vs) => if k = 8 ∧ ¬ i < 0 ∧ i.toNatClampNeg < vs.length then go (pc + 1) lv st (ws.set h (k, vs.set i.toNatClampNeg (.int x))) c s else none
      | none => none
    | _ => none
  | .getfield i => match st with
    | .ref h :: st => match lk FLT (nO z) i, ws[h]? with
      | some (ci, k), some (k0, vs) => if i < 10000 ∧ ci < 8 ∧ k0 = ci then (match vs[k]? with
        | some v => go (pc + 3) lv (v :: st) ws c s
        | none => none) else none
      | _, _ => none
    | _ => none
  | .putfield i => match st with
    | v :: .ref h :: st => match lk FLT (nO z) i, ws[h]? with
      | some (ci, k), some (k0, vs) => if i < 10000 ∧ ci < 8 ∧ k0 = ci ∧ ci = nO z ∧ k < vs.length ∧ pfo ci k v = true then go (pc + 3) lv st (ws.set h (ci, vs.set k v)) c s else none
      | _, _ => none
    | _ => none
  | .invokespecial i => match lk NSL (nO z) i with
    | some (z', _) => if z' = 99 then (match st with
        | .ref _ :: st => if i < 10000 ∧ cats st ≤ 8 then go (pc + 3) lv st ws c s else none
        | _ => none)
      else if i < 10000 ∧ z' < 8 ∧ nK z' < nK z ∧ nA z' + 1 ≤ st.length ∧ cats (st.drop (nA z' + 1)) ≤ 8 ∧ (slots1 (st.take (nA z' + 1))).length ≤ nL z' ∧ c + nCc z' ≤ nCc z ∧ s + nCs z' ≤ nCs z ∧ (st.take (nA z' + 1)).all (fun v => decide (v.category = 1)) = true then
        (match st[nA z']? with
        | some (.ref _) => match call z' ((st.take (nA z' + 1)).reverse) ws with
          | some ws1 => if ws1.length ≤ 63 then go (pc + 3) lv (st.drop (nA z' + 1)) ws1 (c + nCc z') (s + nCs z') else none
          | none => none
        | _ => none) else none
    | none => none
  | .return_ => match st with
    | [] => if c ≤ nCc z ∧ s ≤ nCs z then some ws else none
    | _ => none
  | _ => none
def nrow (z pc : Nat) : Option Row := (nW z).lookup pc
def nrun : Nat → Nat → Nat → List Value → List Value → List NC → Nat → Nat → Option (List NC)
  | 0, _, _, _, _, _, _, _ => none
  | f + 1, z, pc, lv, st, ws, c, s => match nrow z pc with
    | none => none
    | some r => nst (nrun f z) (fun z' as ws => nrun f z' 0 (ent (nL z') as) [] ws 0 0) z pc r lv st ws c s
/-- what EarRows() and EarRowsModel() make -/
def nW1 : Option (List NC) := nrun 2000 6 0 (ent (nL 6) [.ref 0]) [] [(6, df 6)] 0 0
def nW2 : Option (List NC) := nW1.bind (fun w => nrun 2000 7 0 (ent (nL 7) [.ref 51]) [] (w ++ [(7, df 7)]) 0 0)
theorem nW2_some : nW2.isSome = true := by decide +kernel
theorem nW1_len : (nW1.map List.length) = some 51 := by decide +kernel
theorem nW2_len : (nW2.map List.length) = some 63 := by decide +kernel
