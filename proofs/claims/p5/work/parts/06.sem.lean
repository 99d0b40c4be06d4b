/-! The world as numbers: an object or array is a handle (below 63); what its int fields and places hold is a function; its references never change. -/
/-- the launch; class ids and slots; the handles' addresses; the array classes; the script: its cell, length, ints; what a static of the JDK holds -/
abbrev UV : Type := Launch × va_G × (Nat → Nat) × (Nat → ClassId) × (Nat × Nat × (Nat → Int32)) × Value
abbrev xD (u : UV) : va_G := u.2.1
abbrev xA (u : UV) : Nat → Nat := u.2.2.1
abbrev xC (u : UV) : Nat → ClassId := u.2.2.2.1
abbrev xB (u : UV) : Nat := u.2.2.2.2.1.1
abbrev xN (u : UV) : Nat := u.2.2.2.2.1.2.1
abbrev xX (u : UV) : Nat → Int32 := u.2.2.2.2.1.2.2
abbrev xF (u : UV) : Value := u.2.2.2.2.2
def tv (u : UV) : Value → Value
  | .ref h => .ref (xA u h)
  | .retAddr _ => xF u
  | v => v
def up2 (hi : HI) (h k : Nat) (v : Int32) : HI := fun o => if o = h then upd (hi h) k v else hi o
def upl (hl : HL) (h k : Nat) (v : Int64) : HL := fun o => if o = h then vp_updL (hl h) k v else hl o
def cpi (hi : HI) (s d sp dp n : Nat) : HI := fun o => if o = d then va_cpy (hi s) (hi d) sp dp n else hi o
def cpl (hl : HL) (s d sp dp n : Nat) : HL := fun o => if o = d then va_cpy (hl s) (hl d) sp dp n else hl o
def fds (u : UV) (hi : HI) (h ci : Nat) : List Value := (List.range (nfL.getD ci 0)).map (fun k => if rt ci k = true then .ref (xA u (rf h k)) else .int (hi h k))
def en (u : UV) (hi : HI) (hl : HL) (h : Nat) : va_E :=
  if kd h < 8 then .inr (kd h, fds u hi h (kd h))
  else if kd h < 10 then .inl (xC u (kd h), ln h, .inl (hi h))
  else if kd h = 10 then .inl (xC u 10, ln h, .inr (.inl (hl h)))
  else .inl (xC u (kd h), ln h, .inr (.inr (.inr (.inr (fun k => some (xA u (rf h k)))))))
def wd (u : UV) (hi : HI) (hl : HL) : va_W := (List.range 63).map (fun h => (xA u h, en u hi hl h))
def tyL (u : UV) : List (ClassId × FieldType) := [(xC u 8, .int), (xC u 9, .byte), (xC u 10, .long), (xC u 11, .object "EarRows$Gleaner"), (xC u 12, .object "EarRows$Sheet"), (xC u 13, .object "java/lang/String")]
def aS (u : UV) : Nat → Prop := fun q => ∃ h, h < 63 ∧ q = xA u h
/-- what is read and never written -/
def roF (u : UV) (U : State) (H : Heap) : Prop :=
  (va_X (xA u 99) (xN u) (xX u) U H ∧ xA u 99 < H.size ∧ ¬ aS u (xA u 99)) ∧ vk_S 16 lenS bytS (fun i => xA u (100 + i)) (fun i => xA u (200 + i)) (aS u) U H
  ∧ va_Z "java/lang/String" "COMPACT_STRINGS" "Z" (.int 1) (aS u) U H ∧ va_Z "jdk/internal/util/Preconditions" "SIOOBE_FORMATTER" "Ljava/util/function/BiFunction;" (xF u) (aS u) U H
  ∧ (∀ q ∈ SLT, vk_R (cN (q.1 / 10000)) (q.1 % 10000) (stL.getD q.2 "") (xA u (100 + q.2)) U)
  ∧ (∀ q ∈ MLT, q.2.2 = true → va_Nw (.methodLinkNest (cN (q.1 / 10000)) (q.1 % 10000) (mY q.2.1) "EarRows") U)
  ∧ (xF u).category = 1
def inU (u : UV) (U : State) : Prop := va_K (xD u) zCl (tyL u) U ∧ (∀ i j, i < 63 → j < 63 → xA u i = xA u j → i = j) ∧ roF u U U.heap
theorem inU.mv {u : UV} {s U : State} (h : inU u s) (hz : s.heap.size ≤ U.heap.size) (hk : ∀ q : Nat, q < s.heap.size → ¬ aS u q → U.heap[q]? = s.heap[q]?) (hA : s.vm.Alike U.vm)
    (hR : ∀ own k tx a, vk_R own k tx a s → vk_R own k tx a U) (hN : ∀ a i x h, va_Nw (.methodLinkNest a i x h) s → va_Nw (.methodLinkNest a i x h) U) : inU u U := by
  obtain ⟨h1, h2, ⟨h3, h4, h5⟩, h6, h7, h8, h9, h10, h11⟩ := h
  exact ⟨va_K.moved hA h1, h2, ⟨(h3.kept (hk _ h4 h5)).moved hA, Nat.lt_of_lt_of_le h4 hz, h5⟩, (h6.kept hk).moved hA, (h7.kept hk).moved hA, (h8.kept hk).moved hA, fun q hq => hR _ _ _ _ (h9 q hq), fun q hq e => hN _ _ _ _ (h10 q hq e), h11⟩
theorem inU.go {u : UV} {s U : State} {H : Heap} {locs : List Loc} (h : inU u s) (hS : va_S (aS u) s.heap H locs) (hU : U.heap = H) (hW : s.WarmedH U.vm) : inU u U := by
  subst hU
  exact h.mv hS.1 hS.2.1 hW.alike (fun _ _ _ _ q => q.warm hW) (fun _ _ _ _ q => va_Nw.warmM hW q)
theorem inU.blind {u : UV} {U : State} (h : inU u U) (g : JFrame) (mk : MethodId) (a : Array Value) : inU u (U.calling g mk a) :=
  h.mv (Nat.le_refl _) (fun _ _ _ => rfl) (Vm.Alike.refl U.vm) (fun _ _ _ _ q => vk_R.same rfl q) (fun _ _ _ _ q => va_Nw.same rfl rfl q)
/-- the words that hold on -/
def TBL : List Cond := lw_tbl.filter goodWord
theorem inTBL {w : Cond} (h : w ∈ lw_tbl) (g : goodWord w = true) : w ∈ TBL := List.mem_filter.mpr ⟨h, g⟩
def wsM (z : Nat) : List Cond := cdW z :: TBL
def rmM (z : Nat) : Room := { frames := mK z, cells := 0, slots := 0, locals := 37 * mK z }
def pcM (u : UV) (as : List Value) (hi : HI) (hl : HL) : Array Value → State → Prop := fun a U => a = (as.map (tv u)).toArray ∧ inU u U ∧ va_P (xD u) zCl (wd u hi hl) U.heap
def qcM (u : UV) (K : Option Value → HI → HL → Prop) : Array Value → State → Outcome → State → Prop := fun _ st oc t => (∃ (r : Option Value) (hi' : HI) (hl' : HL), oc = .returned (r.map (tv u)) ∧ K r hi' hl' ∧ va_P (xD u) zCl (wd u hi' hl') t.heap) ∧ va_F (aS u) st t
/-- A CALL of method z: it returns, and what is behind it is as K says -/
def Call (u : UV) (z : Nat) (as : List Value) (hi : HI) (hl : HL) (K : Option Value → HI → HL → Prop) : Prop := Met u.1 (mY z) (wsM z) (rmM z) (pcM u as hi hl) (qcM u K) 0 0 (aS u)
def cxM (u : UV) (y : Nat) (p : Program) (R : Room) (s : State) (m : MethodId) (args : Array Value) (meth : Method) (c : Code) (cells slots : Nat) : Prop :=
  p.tables.exec = Jvm.exec ∧ c.code = mB y ∧ meth.sig.returnType = mR y ∧ c.maxLocals = mL y ∧ s.vm.findClass (cN (mO y)) = some m.cls ∧ (∀ w ∈ TBL, w.before args s = true) ∧ inU u s ∧ mK y ≤ R.frames ∧ 37 * mK y ≤ R.locals ∧ cells ≤ R.cells ∧ slots ≤ R.slots
def rOk (ins : Instr) (ty : Option FieldType) (r : Option Value) : Prop := match r with
  | some (.int v) => ins = .ireturn ∧ ∃ t, ty = some t ∧ narrow t (.int v) = .int v
  | some (.long _) => ins = .lreturn ∧ ty = some .long
  | some (.ref _) => ins = .areturn ∧ ∃ n, ty = some (.object n)
  | none => ins = .return_ ∧ ty = none
  | _ => False
def rtM (u : UV) (y : Nat) (p : Program) (e : Env) (R : Room) (s : State) (m : MethodId) (args : Array Value) (below : List Frame) (meth : Method) (c : Code) (cells slots : Nat) (Z : State → Prop) (K : Option Value → HI → HL → Prop) : Prop :=
  ∀ (r : Option Value) (hi : HI) (hl : HL) (H : Heap) (locs : List Loc) (ls : Array Slot) (pc : Nat) (ins : Instr), K r hi hl → va_P (xD u) zCl (wd u hi hl) H → va_S (aS u) s.heap H locs → rOk ins (mR y) r → decode (mB y) pc = .ok (ins, 1) → W p u.1 e R s m args below meth c H locs cells slots Z (F0 m pc ls ((r.map (tv u)).toList))
def asl (u : UV) (lv : List Value) : List (Nat × Value) := lv.zipIdx.filterMap (fun q => if q.1 = .null then none else some (q.2, tv u q.1))
/-- THE MACHINE at pc of method y, with these locals, stack and numbers, comes to an end that K says -/
def Wp (u : UV) (y pc : Nat) (lv st : List Value) (hi : HI) (hl : HL) (K : Option Value → HI → HL → Prop) : Prop :=
  ∀ (p : Program) (e : Env) (R : Room) (s : State) (m : MethodId) (args : Array Value) (below : List Frame) (meth : Method) (c : Code) (cells slots : Nat) (Z : State → Prop) (H : Heap) (locs : List Loc) (ls : Array Slot),
    cxM u y p R s m args meth c cells slots → rtM u y p e R s m args below meth c cells slots Z K → (mG y = false → ∀ v ∈ lv, v.category = 1) → va_P (xD u) zCl (wd u hi hl) H → va_S (aS u) s.heap H locs → lv_has ls (mL y) (asl u lv) → lv.length = mL y →
    W p u.1 e R s m args below meth c H locs cells slots Z (F0 m pc ls (st.map (tv u)))
/-! one instruction -/
def cats (st : List Value) : Nat := (st.map fun v => v.category).sum
def ldi (lv : List Value) (i : Nat) (k : Int32 → Prop) : Prop := match lv[i]? with
  | some (.int x) => k x
  | _ => False
def ldl (lv : List Value) (i : Nat) (k : Int64 → Prop) : Prop := match lv[i]? with
  | some (.long x) => k x
  | _ => False
def lda (lv : List Value) (i : Nat) (k : Nat → Prop) : Prop := match lv[i]? with
  | some (.ref x) => k x
  | _ => False
def noL (lv : List Value) (i : Nat) : Bool := match i with
  | 0 => true
  | j + 1 => match lv[j]? with
    | some (.long _) => false
    | some (.double _) => false
    | _ => true
def stO (y : Nat) (lv : List Value) (i : Nat) (v : Value) (k : List Value → Prop) : Prop := if ((!(mG y)) || noL lv i) && decide (i < lv.length) then k (lv.set i v) else False
def stL2 (y : Nat) (lv : List Value) (i : Nat) (x : Int64) (k : List Value → Prop) : Prop := if mG y && (noL lv i && decide (i + 1 < lv.length)) then k ((lv.set i (.long x)).set (i + 1) .null) else False
def b1 (st : List Value) (k : Int32 → List Value → Prop) : Prop := match st with
  | .int a :: s => k a s
  | _ => False
def b2 (st : List Value) (k : Int32 → Int32 → List Value → Prop) : Prop := match st with
  | .int b :: .int a :: s => k a b s
  | _ => False
def l1 (st : List Value) (k : Int64 → List Value → Prop) : Prop := match st with
  | .long a :: s => k a s
  | _ => False
def l2 (st : List Value) (k : Int64 → Int64 → List Value → Prop) : Prop := match st with
  | .long b :: .long a :: s => k a b s
  | _ => False
def r1 (st : List Value) (k : Nat → List Value → Prop) : Prop := match st with
  | .ref a :: s => k a s
  | _ => False
def ra (st : List Value) (k : Nat → Int32 → List Value → Prop) : Prop := match st with
  | .int i :: .ref a :: s => k a i s
  | _ => False
def ic (c : Jvm.ClassFile.Cond) (a b : Int32) (T F : Prop) : Prop := match c with
  | .eq => (a = b → T) ∧ (¬ a = b → F)
  | .ne => (¬ a = b → T) ∧ (a = b → F)
  | .lt => (a < b → T) ∧ (¬ a < b → F)
  | .ge => (b ≤ a → T) ∧ (¬ b ≤ a → F)
  | .gt => (b < a → T) ∧ (¬ b < a → F)
  | .le => (a ≤ b → T) ∧ (¬ a ≤ b → F)
def swd (x : Int32) : List (Int32 × Nat) → Prop
  | [] => True
  | q :: l => ¬ x = q.1 ∧ swd x l
def swc (x : Int32) (g : Nat → Prop) : List (Int32 × Nat) → Prop
  | [] => True
  | q :: l => (x = q.1 → g q.2) ∧ swc x g l
def rz (ty : Option FieldType) (v : Int32) : Prop := match ty with
  | some .int => True
  | some .boolean => v = 0 ∨ v = 1
  | some .char => narrow .char (.int v) = .int v
  | some .byte => narrow .byte (.int v) = .int v
  | _ => False
/-- a call: its conditions, by computing; the callee's world is ours -/
def cl1 (u : UV) (go : List Value → HI → HL → Prop) (y z : Nat) (st : List Value) (hi : HI) (hl : HL) : Prop :=
  if decide (z < 228) && (decide (mK z < mK y) && (mS z && (decide (mA z ≤ st.length) && (decide (cats (st.drop (mA z)) ≤ 8) && (decide ((lg_sl (st.take (mA z))).length ≤ mL z) && (mG z || (st.take (mA z)).all (fun v => decide (v.category = 1)))))))) then
    Call u z ((st.take (mA z)).reverse) hi hl (fun r hi' hl' => go (r.toList ++ st.drop (mA z)) hi' hl') else False
def cl2 (u : UV) (go : List Value → HI → HL → Prop) (y z h : Nat) (st : List Value) (hi : HI) (hl : HL) : Prop :=
  if decide (z < 228) && (decide (mK z < mK y) && ((!(mS z)) && (decide (mA z + 1 ≤ st.length) && (decide (cats (st.drop (mA z + 1)) ≤ 8) && (decide ((lg_sl (st.take (mA z + 1))).length ≤ mL z) && (mG z || (st.take (mA z + 1)).all (fun v => decide (v.category = 1)))))))) then
    (if mO z = 10 then 100 ≤ h ∧ h < 116 else kd h = mO z ∧ mO z < 8) ∧ Call u z ((st.take (mA z + 1)).reverse) hi hl (fun r hi' hl' => go (r.toList ++ st.drop (mA z + 1)) hi' hl') else False
def rcv (st : List Value) (n : Nat) (k : Nat → Prop) : Prop := match st[n]? with
  | some (.ref h) => k h
  | _ => False
def vi (u : UV) (go : Nat → List Value → List Value → HI → HL → Prop) (K : Option Value → HI → HL → Prop) (y pc : Nat) (r : Row) (lv st : List Value) (hi : HI) (hl : HL) : Prop :=
  match r.1 with
  | .iconst n => go (pc + 1) lv (.int (Int32.ofInt n) :: st) hi hl
  | .bipush n => go (pc + 2) lv (.int (Int8.ofInt n).toInt32 :: st) hi hl
  | .sipush n => go (pc + 3) lv (.int (Int16.ofInt n).toInt32 :: st) hi hl
  | .lconst n => go (pc + 1) lv (.long (Int64.ofNat (n : Nat)) :: st) hi hl
  | .ldc i => match lk CLT (mO y) i with
    | some v => go (pc + 2) lv (.int v :: st) hi hl
    | none => match lk SLT (mO y) i with
      | some n => go (pc + 2) lv (.ref (100 + n) :: st) hi hl
      | none => False
  | .ldc_w i => match lk CLT (mO y) i with
    | some v => go (pc + 3) lv (.int v :: st) hi hl
    | none => match lk SLT (mO y) i with
      | some n => go (pc + 3) lv (.ref (100 + n) :: st) hi hl
      | none => False
  | .ldc2_w i => match lk LLT (mO y) i with
    | some v => go (pc + 3) lv (.long v :: st) hi hl
    | none => False
  | .iload_n n => ldi lv n (fun x => go (pc + 1) lv (.int x :: st) hi hl)
  | .iload i => ldi lv i (fun x => go (pc + 2) lv (.int x :: st) hi hl)
  | .lload_n n => ldl lv n (fun x => go (pc + 1) lv (.long x :: st) hi hl)
  | .lload i => ldl lv i (fun x => go (pc + 2) lv (.long x :: st) hi hl)
  | .aload_n n => lda lv n (fun x => go (pc + 1) lv (.ref x :: st) hi hl)
  | .aload i => lda lv i (fun x => go (pc + 2) lv (.ref x :: st) hi hl)
  | .istore_n n => b1 st (fun x s => stO y lv n (.int x) (fun lv' => go (pc + 1) lv' s hi hl))
  | .istore i => b1 st (fun x s => stO y lv i (.int x) (fun lv' => go (pc + 2) lv' s hi hl))
  | .lstore_n n => l1 st (fun x s => stL2 y lv n x (fun lv' => go (pc + 1) lv' s hi hl))
  | .lstore i => l1 st (fun x s => stL2 y lv i x (fun lv' => go (pc + 2) lv' s hi hl))
  | .astore_n n => r1 st (fun x s => stO y lv n (.ref x) (fun lv' => go (pc + 1) lv' s hi hl))
  | .astore i => r1 st (fun x s => stO y lv i (.ref x) (fun lv' => go (pc + 2) lv' s hi hl))
  | .iinc i n => ldi lv i (fun x => stO y lv i (.int (x + Int32.ofInt n)) (fun lv' => go (pc + 3) lv' st hi hl))
  | .iadd => b2 st (fun a b s => go (pc + 1) lv (.int (a + b) :: s) hi hl)
  | .isub => b2 st (fun a b s => go (pc + 1) lv (.int (a - b) :: s) hi hl)
  | .imul => b2 st (fun a b s => go (pc + 1) lv (.int (a * b) :: s) hi hl)
  | .idiv => b2 st (fun a b s => ¬ b = 0 ∧ go (pc + 1) lv (.int (a / b) :: s) hi hl)
  | .irem => b2 st (fun a b s => ¬ b = 0 ∧ go (pc + 1) lv (.int (a - a / b * b) :: s) hi hl)
  | .iand => b2 st (fun a b s => go (pc + 1) lv (.int (a &&& b) :: s) hi hl)
  | .ior => b2 st (fun a b s => go (pc + 1) lv (.int (a ||| b) :: s) hi hl)
  | .ixor => b2 st (fun a b s => go (pc + 1) lv (.int (a ^^^ b) :: s) hi hl)
  | .ishl => b2 st (fun a b s => go (pc + 1) lv (.int (a <<< (b &&& 31)) :: s) hi hl)
  | .ishr => b2 st (fun a b s => go (pc + 1) lv (.int (a >>> (b &&& 31)) :: s) hi hl)
  | .ladd => l2 st (fun a b s => go (pc + 1) lv (.long (a + b) :: s) hi hl)
  | .lmul => l2 st (fun a b s => go (pc + 1) lv (.long (a * b) :: s) hi hl)
  | .ldiv => l2 st (fun a b s => ¬ b = 0 ∧ go (pc + 1) lv (.long (a / b) :: s) hi hl)
  | .land => l2 st (fun a b s => go (pc + 1) lv (.long (a &&& b) :: s) hi hl)
  | .lor => l2 st (fun a b s => go (pc + 1) lv (.long (a ||| b) :: s) hi hl)
  | .lcmp => l2 st (fun a b s => go (pc + 1) lv (.int (lg_cmp a b) :: s) hi hl)
  | .lshl => b1 st (fun b s => l1 s (fun a s => go (pc + 1) lv (.long (a <<< (b.toInt64 &&& 63)) :: s) hi hl))
  | .i2l => b1 st (fun a s => go (pc + 1) lv (.long a.toInt64 :: s) hi hl)
  | .l2i => l1 st (fun a s => go (pc + 1) lv (.int a.toInt32 :: s) hi hl)
  | .i2b => b1 st (fun a s => go (pc + 1) lv (.int a.toInt8.toInt32 :: s) hi hl)
  | .i2s => b1 st (fun a s => go (pc + 1) lv (.int a.toInt16.toInt32 :: s) hi hl)
  | .i2c => b1 st (fun a s => go (pc + 1) lv (.int (a.toUInt32 % 65536).toInt32 :: s) hi hl)
  | .dup => match st with
    | a :: s => if a.category = 1 then go (pc + 1) lv (a :: a :: s) hi hl else False
    | _ => False
  | .dup2 => match st with
    | a :: b :: s => if a.category = 1 ∧ b.category = 1 then go (pc + 1) lv (a :: b :: a :: b :: s) hi hl else False
    | _ => False
  | .pop => match st with
    | a :: s => if a.category = 1 then go (pc + 1) lv s hi hl else False
    | _ => False
  | .pop2 => match st with
    | a :: s => if a.category = 2 then go (pc + 1) lv s hi hl else False
    | _ => False
  | .if_icmp c _ => b2 st (fun a b s => ic c a b (go r.2.2.1 lv s hi hl) (go (pc + 3) lv s hi hl))
  | .ifCond c _ => b1 st (fun a s => ic c a 0 (go r.2.2.1 lv s hi hl) (go (pc + 3) lv s hi hl))
  | .goto _ => go r.2.2.1 lv st hi hl
  | .tableswitch _ _ _ _ => b1 st (fun x s => (swd x r.2.2.2 → go r.2.2.1 lv s hi hl) ∧ swc x (fun t => go t lv s hi hl) r.2.2.2)
  | .getfield i => r1 st (fun h s => match lk FLT (mO y) i with
    | some (ci, k) => if ci = 15 then (100 ≤ h ∧ h < 116) ∧ go (pc + 3) lv ((if k = 0 then .ref (h + 100) else .int 0) :: s) hi hl else kd h = ci ∧ go (pc + 3) lv ((if rt ci k = true then .ref (rf h k) else .int (hi h k)) :: s) hi hl
    | none => False)
  | .putfield i => b1 st (fun v s => r1 s (fun h s => match lk FLT (mO y) i with
    | some (ci, k) => if rt ci k = false ∧ ci < 8 then kd h = ci ∧ (if bz ci k = true then v = 0 ∨ v = 1 else True) ∧ go (pc + 3) lv s (up2 hi h k v) hl else False
    | none => False))
  | .getstatic i => if mO y = 10 then (if i = 38 then go (pc + 3) lv (.int 1 :: st) hi hl else if i = 1053 then go (pc + 3) lv (.retAddr 0 :: st) hi hl else False) else False
  | .arraylength => r1 st (fun h s => if mO y = 13 then h = 99 ∧ go (pc + 1) lv (.int (Int32.ofNat (xN u)) :: s) hi hl else if mO y = 10 ∨ mO y = 11 then (200 ≤ h ∧ h < 216) ∧ go (pc + 1) lv (.int (Int32.ofNat (lenS.getD (h - 200) 0)) :: s) hi hl else (8 ≤ kd h ∧ kd h ≤ 13) ∧ go (pc + 1) lv (.int (Int32.ofNat (ln h)) :: s) hi hl)
  | .iaload => ra st (fun h i s => if mO y = 13 then (h = 99 ∧ vp_in i (xN u)) ∧ go (pc + 1) lv (.int (xX u i.toNatClampNeg) :: s) hi hl else (kd h = 8 ∧ vp_in i (ln h)) ∧ go (pc + 1) lv (.int (hi h i.toNatClampNeg) :: s) hi hl)
  | .baload => ra st (fun h i s => if mO y = 11 then ((200 ≤ h ∧ h < 216) ∧ vp_in i (lenS.getD (h - 200) 0)) ∧ go (pc + 1) lv (.int ((bytS.getD (h - 200) []).getD i.toNatClampNeg 0) :: s) hi hl else (kd h = 9 ∧ vp_in i (ln h)) ∧ go (pc + 1) lv (.int (hi h i.toNatClampNeg) :: s) hi hl)
  | .laload => ra st (fun h i s => (kd h = 10 ∧ vp_in i (ln h)) ∧ go (pc + 1) lv (.long (hl h i.toNatClampNeg) :: s) hi hl)
  | .aaload => ra st (fun h i s => ((11 ≤ kd h ∧ kd h ≤ 13) ∧ vp_in i (ln h)) ∧ go (pc + 1) lv (.ref (rf h i.toNatClampNeg) :: s) hi hl)
  | .iastore => b1 st (fun x s => ra s (fun h i s => (kd h = 8 ∧ vp_in i (ln h)) ∧ go (pc + 1) lv s (up2 hi h i.toNatClampNeg x) hl))
  | .bastore => b1 st (fun x s => ra s (fun h i s => (kd h = 9 ∧ vp_in i (ln h)) ∧ go (pc + 1) lv s (up2 hi h i.toNatClampNeg x.toInt8.toInt32) hl))
  | .lastore => l1 st (fun x s => ra s (fun h i s => (kd h = 10 ∧ vp_in i (ln h)) ∧ go (pc + 1) lv s hi (upl hl h i.toNatClampNeg x)))
  | .invokestatic i => match lk MLT (mO y) i with
    | some (z, _) => if z = 1000 then b2 st (fun a b s => if decide (1 ≤ mK y) && decide (cats s ≤ 8) then go (pc + 3) lv (.int (if a < b then b else a) :: s) hi hl else False)
      else if z = 1001 then b2 st (fun a b s => if decide (1 ≤ mK y) && decide (cats s ≤ 8) then go (pc + 3) lv (.int (if b < a then b else a) :: s) hi hl else False)
      else if z = 1002 then b2 st (fun dp n s => r1 s (fun d s => ra s (fun s0 sp s => if decide (1 ≤ mK y) && decide (cats s ≤ 8) then
        (if mO y = 0 then ((kd s0 = 8 ∧ kd d = 8) ∧ ¬ sp < 0 ∧ ¬ dp < 0 ∧ ¬ n < 0 ∧ sp.toNatClampNeg + n.toNatClampNeg ≤ ln s0 ∧ dp.toNatClampNeg + n.toNatClampNeg ≤ ln d) ∧ go (pc + 3) lv s (cpi hi s0 d sp.toNatClampNeg dp.toNatClampNeg n.toNatClampNeg) hl
         else ((kd s0 = 10 ∧ kd d = 10) ∧ ¬ sp < 0 ∧ ¬ dp < 0 ∧ ¬ n < 0 ∧ sp.toNatClampNeg + n.toNatClampNeg ≤ ln s0 ∧ dp.toNatClampNeg + n.toNatClampNeg ≤ ln d) ∧ go (pc + 3) lv s hi (cpl hl s0 d sp.toNatClampNeg dp.toNatClampNeg n.toNatClampNeg)) else False)))
      else cl1 u (go (pc + 3) lv) y z st hi hl
    | none => False
  | .invokevirtual i => match lk MLT (mO y) i with
    | some (z, _) => rcv st (mA z) (fun h => cl2 u (go (pc + 3) lv) y z h st hi hl)
    | none => False
  | .ireturn => match st with
    | [.int v] => rz (mR y) v ∧ K (some (.int v)) hi hl
    | _ => False
  | .lreturn => match st with
    | [.long v] => mR y = some .long ∧ K (some (.long v)) hi hl
    | _ => False
  | .areturn => match st with
    | [.ref h] => (∃ n, mR y = some (.object n)) ∧ K (some (.ref h)) hi hl
    | _ => False
  | .return_ => match st with
    | [] => mR y = none ∧ K none hi hl
    | _ => False
  | _ => False
/-- where a walk stops: the heads of loops (branches back) -/
def cut (y pc : Nat) : Bool := (mC y).contains pc
def vc (u : UV) : Nat → Nat → Nat → List Value → List Value → HI → HL → (Option Value → HI → HL → Prop) → Prop
  | 0, y, pc, lv, st, hi, hl, K => Wp u y pc lv st hi hl K
  | k + 1, y, pc, lv, st, hi, hl, K => match row y pc with
    | none => False
    | some r => vi u (fun pc' lv' st' hi' hl' => if cut y pc' = true then Wp u y pc' lv' st' hi' hl' K else vc u k y pc' lv' st' hi' hl' K) K y pc r lv st hi hl
