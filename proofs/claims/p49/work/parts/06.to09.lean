/-! 06.sem -/
/-! The world as numbers: an object or array is a handle (below 63); what its int fields and places hold is a function; its references never change. -/
/-- the launch; class ids and slots; the handles' addresses; the array classes; the script: its cell, length, ints; what a static of the JDK holds -/
abbrev UV : Type := Launch × va_G × (Nat → Nat) × (Nat → ClassId) × (Nat × Nat × (Nat → Int32)) × Value
abbrev xD (u : UV) : va_G := u.2.1
abbrev xA (u : UV) : Nat → Nat := u.2.2.1
abbrev xC (u : UV) : Nat → ClassId := u.2.2.2.1
abbrev xB (u : UV) : Nat := u.2.2.2.2.1.1
abbrev xN (u : UV) : Nat := u.2.2.2.2.1.2.1
abbrev xX (u : UV) : Nat → Int32 := u.2.2.2.2.1.2.2
abbrev xF (u : UV) : Value := u.2.2.2.2.2
def tv (u : UV) : Value → Value
  | .ref h => .ref (xA u h)
  | .retAddr _ => xF u
  | v => v
def up2 (hi : HI) (h k : Nat) (v : Int32) : HI := fun o => if o = h then upd (hi h) k v else hi o
def upl (hl : HL) (h k : Nat) (v : Int64) : HL := fun o => if o = h then vp_updL (hl h) k v else hl o
def cpi (hi : HI) (s d sp dp n : Nat) : HI := fun o => if o = d then va_cpy (hi s) (hi d) sp dp n else hi o
def cpl (hl : HL) (s d sp dp n : Nat) : HL := fun o => if o = d then va_cpy (hl s) (hl d) sp dp n else hl o
def fds (u : UV) (hi : HI) (h ci : Nat) : List Value := (List.range (nfL.getD ci 0)).map (fun k => if rt ci k = true then .ref (xA u (rf h k)) else .int (hi h k))
def en (u : UV) (hi : HI) (hl : HL) (h : Nat) : va_E :=
  if kd h < 8 then .inr (kd h, fds u hi h (kd h))
  else if kd h < 10 then .inl (xC u (kd h), ln h, .inl (hi h))
  else if kd h = 10 then .inl (xC u 10, ln h, .inr (.inl (hl h)))
  else .inl (xC u (kd h), ln h, .inr (.inr (.inr (.inr (fun k => some (xA u (rf h k)))))))
def wd (u : UV) (hi : HI) (hl : HL) : va_W := (List.range 63).map (fun h => (xA u h, en u hi hl h))
def tyL (u : UV) : List (ClassId × FieldType) := [(xC u 8, .int), (xC u 9, .byte), (xC u 10, .long), (xC u 11, .object "EarRows$Gleaner"), (xC u 12, .object "EarRows$Sheet"), (xC u 13, .object "java/lang/String")]
def aS (u : UV) : Nat → Prop := fun q => ∃ h, h < 63 ∧ q = xA u h
/-- what is read and never written -/
def roF (u : UV) (U : State) (H : Heap) : Prop :=
  (va_X (xA u 99) (xN u) (xX u) U H ∧ xA u 99 < H.size ∧ ¬ aS u (xA u 99)) ∧ vk_S 16 lenS bytS (fun i => xA u (100 + i)) (fun i => xA u (200 + i)) (aS u) U H
  ∧ va_Z "java/lang/String" "COMPACT_STRINGS" "Z" (.int 1) (aS u) U H ∧ va_Z "jdk/internal/util/Preconditions" "SIOOBE_FORMATTER" "Ljava/util/function/BiFunction;" (xF u) (aS u) U H
  ∧ (∀ q ∈ SLT, vk_R (cN (q.1 / 10000)) (q.1 % 10000) (stL.getD q.2 "") (xA u (100 + q.2)) U)
  ∧ (∀ q ∈ MLT, q.2.2 = true → va_Nw (.methodLinkNest (cN (q.1 / 10000)) (q.1 % 10000) (mY q.2.1) "EarRows") U)
  ∧ (xF u).category = 1
def inU (u : UV) (U : State) : Prop := va_K (xD u) zCl (tyL u) U ∧ (∀ i j, i < 63 → j < 63 → xA u i = xA u j → i = j) ∧ roF u U U.heap
theorem inU.mv {u : UV} {s U : State} (h : inU u s) (hz : s.heap.size ≤ U.heap.size) (hk : ∀ q : Nat, q < s.heap.size → ¬ aS u q → U.heap[q]? = s.heap[q]?) (hA : s.vm.Alike U.vm)
    (hR : ∀ own k tx a, vk_R own k tx a s → vk_R own k tx a U) (hN : ∀ a i x h, va_Nw (.methodLinkNest a i x h) s → va_Nw (.methodLinkNest a i x h) U) : inU u U := by
  obtain ⟨h1, h2, ⟨h3, h4, h5⟩, h6, h7, h8, h9, h10, h11⟩ := h
  exact ⟨va_K.moved hA h1, h2, ⟨(h3.kept (hk _ h4 h5)).moved hA, Nat.lt_of_lt_of_le h4 hz, h5⟩, (h6.kept hk).moved hA, (h7.kept hk).moved hA, (h8.kept hk).moved hA, fun q hq => hR _ _ _ _ (h9 q hq), fun q hq e => hN _ _ _ _ (h10 q hq e), h11⟩
theorem inU.go {u : UV} {s U : State} {H : Heap} {locs : List Loc} (h : inU u s) (hS : va_S (aS u) s.heap H locs) (hU : U.heap = H) (hW : s.WarmedH U.vm) : inU u U := by
  subst hU
  exact h.mv hS.1 hS.2.1 hW.alike (fun _ _ _ _ q => q.warm hW) (fun _ _ _ _ q => va_Nw.warmM hW q)
theorem inU.blind {u : UV} {U : State} (h : inU u U) (g : JFrame) (mk : MethodId) (a : Array Value) : inU u (U.calling g mk a) :=
  h.mv (Nat.le_refl _) (fun _ _ _ => rfl) (Vm.Alike.refl U.vm) (fun _ _ _ _ q => vk_R.same rfl q) (fun _ _ _ _ q => va_Nw.same rfl rfl q)
/-- the words that hold on -/
def TBL : List Cond := lw_tbl.filter goodWord
theorem inTBL {w : Cond} (h : w ∈ lw_tbl) (g : goodWord w = true) : w ∈ TBL := List.mem_filter.mpr ⟨h, g⟩
def wsM (z : Nat) : List Cond := cdW z :: TBL
def rmM (z : Nat) : Room := { frames := mK z, cells := 0, slots := 0, locals := 37 * mK z }
def pcM (u : UV) (as : List Value) (hi : HI) (hl : HL) : Array Value → State → Prop := fun a U => a = (as.map (tv u)).toArray ∧ inU u U ∧ va_P (xD u) zCl (wd u hi hl) U.heap
def qcM (u : UV) (K : Option Value → HI → HL → Prop) : Array Value → State → Outcome → State → Prop := fun _ st oc t => (∃ (r : Option Value) (hi' : HI) (hl' : HL), oc = .returned (r.map (tv u)) ∧ K r hi' hl' ∧ va_P (xD u) zCl (wd u hi' hl') t.heap) ∧ va_F (aS u) st t
/-- A CALL of method z: it returns, and what is behind it is as K says -/
def Call (u : UV) (z : Nat) (as : List Value) (hi : HI) (hl : HL) (K : Option Value → HI → HL → Prop) : Prop := Met u.1 (mY z) (wsM z) (rmM z) (pcM u as hi hl) (qcM u K) 0 0 (aS u)
def cxM (u : UV) (y : Nat) (p : Program) (R : Room) (s : State) (m : MethodId) (args : Array Value) (meth : Method) (c : Code) (cells slots : Nat) : Prop :=
  p.tables.exec = Jvm.exec ∧ c.code = mB y ∧ meth.sig.returnType = mR y ∧ c.maxLocals = mL y ∧ s.vm.findClass (cN (mO y)) = some m.cls ∧ (∀ w ∈ TBL, w.before args s = true) ∧ inU u s ∧ mK y ≤ R.frames ∧ 37 * mK y ≤ R.locals ∧ cells ≤ R.cells ∧ slots ≤ R.slots
def rOk (ins : Instr) (ty : Option FieldType) (r : Option Value) : Prop := match r with
  | some (.int v) => ins = .ireturn ∧ ∃ t, ty = some t ∧ narrow t (.int v) = .int v
  | some (.long _) => ins = .lreturn ∧ ty = some .long
  | some (.ref _) => ins = .areturn ∧ ∃ n, ty = some (.object n)
  | none => ins = .return_ ∧ ty = none
  | _ => False
def rtM (u : UV) (y : Nat) (p : Program) (e : Env) (R : Room) (s : State) (m : MethodId) (args : Array Value) (below : List Frame) (meth : Method) (c : Code) (cells slots : Nat) (Z : State → Prop) (K : Option Value → HI → HL → Prop) : Prop :=
  ∀ (r : Option Value) (hi : HI) (hl : HL) (H : Heap) (locs : List Loc) (ls : Array Slot) (pc : Nat) (ins : Instr), K r hi hl → va_P (xD u) zCl (wd u hi hl) H → va_S (aS u) s.heap H locs → rOk ins (mR y) r → decode (mB y) pc = .ok (ins, 1) → W p u.1 e R s m args below meth c H locs cells slots Z (F0 m pc ls ((r.map (tv u)).toList))
def asl (u : UV) (lv : List Value) : List (Nat × Value) := lv.zipIdx.filterMap (fun q => if q.1 = .null then none else some (q.2, tv u q.1))
/-- THE MACHINE at pc of method y, with these locals, stack and numbers, comes to an end that K says -/
def Wp (u : UV) (y pc : Nat) (lv st : List Value) (hi : HI) (hl : HL) (K : Option Value → HI → HL → Prop) : Prop :=
  ∀ (p : Program) (e : Env) (R : Room) (s : State) (m : MethodId) (args : Array Value) (below : List Frame) (meth : Method) (c : Code) (cells slots : Nat) (Z : State → Prop) (H : Heap) (locs : List Loc) (ls : Array Slot),
    cxM u y p R s m args meth c cells slots → rtM u y p e R s m args below meth c cells slots Z K → (mG y = false → ∀ v ∈ lv, v.category = 1) → va_P (xD u) zCl (wd u hi hl) H → va_S (aS u) s.heap H locs → lv_has ls (mL y) (asl u lv) → lv.length = mL y →
    W p u.1 e R s m args below meth c H locs cells slots Z (F0 m pc ls (st.map (tv u)))
/-! one instruction -/
def cats (st : List Value) : Nat := (st.map fun v => v.category).sum
def ldi (lv : List Value) (i : Nat) (k : Int32 → Prop) : Prop := match lv[i]? with
  | some (.int x) => k x
  | _ => False
def ldl (lv : List Value) (i : Nat) (k : Int64 → Prop) : Prop := match lv[i]? with
  | some (.long x) => k x
  | _ => False
def lda (lv : List Value) (i : Nat) (k : Nat → Prop) : Prop := match lv[i]? with
  | some (.ref x) => k x
  | _ => False
def noL (lv : List Value) (i : Nat) : Bool := match i with
  | 0 => true
  | j + 1 => match lv[j]? with
    | some (.long _) => false
    | some (.double _) => false
    | _ => true
def stO (y : Nat) (lv : List Value) (i : Nat) (v : Value) (k : List Value → Prop) : Prop := if ((!(mG y)) || noL lv i) && decide (i < lv.length) then k (lv.set i v) else False
def stL2 (y : Nat) (lv : List Value) (i : Nat) (x : Int64) (k : List Value → Prop) : Prop := if mG y && (noL lv i && decide (i + 1 < lv.length)) then k ((lv.set i (.long x)).set (i + 1) .null) else False
def b1 (st : List Value) (k : Int32 → List Value → Prop) : Prop := match st with
  | .int a :: s => k a s
  | _ => False
def b2 (st : List Value) (k : Int32 → Int32 → List Value → Prop) : Prop := match st with
  | .int b :: .int a :: s => k a b s
  | _ => False
def l1 (st : List Value) (k : Int64 → List Value → Prop) : Prop := match st with
  | .long a :: s => k a s
  | _ => False
def l2 (st : List Value) (k : Int64 → Int64 → List Value → Prop) : Prop := match st with
  | .long b :: .long a :: s => k a b s
  | _ => False
def r1 (st : List Value) (k : Nat → List Value → Prop) : Prop := match st with
  | .ref a :: s => k a s
  | _ => False
def ra (st : List Value) (k : Nat → Int32 → List Value → Prop) : Prop := match st with
  | .int i :: .ref a :: s => k a i s
  | _ => False
def ic (c : Jvm.ClassFile.Cond) (a b : Int32) (T F : Prop) : Prop := match c with
  | .eq => (a = b → T) ∧ (¬ a = b → F)
  | .ne => (¬ a = b → T) ∧ (a = b → F)
  | .lt => (a < b → T) ∧ (¬ a < b → F)
  | .ge => (b ≤ a → T) ∧ (¬ b ≤ a → F)
  | .gt => (b < a → T) ∧ (¬ b < a → F)
  | .le => (a ≤ b → T) ∧ (¬ a ≤ b → F)
def swd (x : Int32) : List (Int32 × Nat) → Prop
  | [] => True
  | q :: l => ¬ x = q.1 ∧ swd x l
def swc (x : Int32) (g : Nat → Prop) : List (Int32 × Nat) → Prop
  | [] => True
  | q :: l => (x = q.1 → g q.2) ∧ swc x g l
def rz (ty : Option FieldType) (v : Int32) : Prop := match ty with
  | some .int => True
  | some .boolean => v = 0 ∨ v = 1
  | some .char => narrow .char (.int v) = .int v
  | some .byte => narrow .byte (.int v) = .int v
  | _ => False
/-- a call: its conditions, by computing; the callee's world is ours -/
def cl1 (u : UV) (go : List Value → HI → HL → Prop) (y z : Nat) (st : List Value) (hi : HI) (hl : HL) : Prop :=
  if decide (z < 228) && (decide (mK z < mK y) && (mS z && (decide (mA z ≤ st.length) && (decide (cats (st.drop (mA z)) ≤ 8) && (decide ((lg_sl (st.take (mA z))).length ≤ mL z) && (mG z || (st.take (mA z)).all (fun v => decide (v.category = 1)))))))) then
    Call u z ((st.take (mA z)).reverse) hi hl (fun r hi' hl' => go (r.toList ++ st.drop (mA z)) hi' hl') else False
def cl2 (u : UV) (go : List Value → HI → HL → Prop) (y z h : Nat) (st : List Value) (hi : HI) (hl : HL) : Prop :=
  if decide (z < 228) && (decide (mK z < mK y) && ((!(mS z)) && (decide (mA z + 1 ≤ st.length) && (decide (cats (st.drop (mA z + 1)) ≤ 8) && (decide ((lg_sl (st.take (mA z + 1))).length ≤ mL z) && (mG z || (st.take (mA z + 1)).all (fun v => decide (v.category = 1)))))))) then
    (if mO z = 10 then 100 ≤ h ∧ h < 116 else kd h = mO z ∧ mO z < 8) ∧ Call u z ((st.take (mA z + 1)).reverse) hi hl (fun r hi' hl' => go (r.toList ++ st.drop (mA z + 1)) hi' hl') else False
def rcv (st : List Value) (n : Nat) (k : Nat → Prop) : Prop := match st[n]? with
  | some (.ref h) => k h
  | _ => False
def vi (u : UV) (go : Nat → List Value → List Value → HI → HL → Prop) (K : Option Value → HI → HL → Prop) (y pc : Nat) (r : Row) (lv st : List Value) (hi : HI) (hl : HL) : Prop :=
  match r.1 with
  | .iconst n => go (pc + 1) lv (.int (Int32.ofInt n) :: st) hi hl
  | .bipush n => go (pc + 2) lv (.int (Int8.ofInt n).toInt32 :: st) hi hl
  | .sipush n => go (pc + 3) lv (.int (Int16.ofInt n).toInt32 :: st) hi hl
  | .lconst n => go (pc + 1) lv (.long (Int64.ofNat (n : Nat)) :: st) hi hl
  | .ldc i => match lk CLT (mO y) i with
    | some v => go (pc + 2) lv (.int v :: st) hi hl
    | none => match lk SLT (mO y) i with
      | some n => go (pc + 2) lv (.ref (100 + n) :: st) hi hl
      | none => False
  | .ldc_w i => match lk CLT (mO y) i with
    | some v => go (pc + 3) lv (.int v :: st) hi hl
    | none => match lk SLT (mO y) i with
      | some n => go (pc + 3) lv (.ref (100 + n) :: st) hi hl
      | none => False
  | .ldc2_w i => match lk LLT (mO y) i with
    | some v => go (pc + 3) lv (.long v :: st) hi hl
    | none => False
  | .iload_n n => ldi lv n (fun x => go (pc + 1) lv (.int x :: st) hi hl)
  | .iload i => ldi lv i (fun x => go (pc + 2) lv (.int x :: st) hi hl)
  | .lload_n n => ldl lv n (fun x => go (pc + 1) lv (.long x :: st) hi hl)
  | .lload i => ldl lv i (fun x => go (pc + 2) lv (.long x :: st) hi hl)
  | .aload_n n => lda lv n (fun x => go (pc + 1) lv (.ref x :: st) hi hl)
  | .aload i => lda lv i (fun x => go (pc + 2) lv (.ref x :: st) hi hl)
  | .istore_n n => b1 st (fun x s => stO y lv n (.int x) (fun lv' => go (pc + 1) lv' s hi hl))
  | .istore i => b1 st (fun x s => stO y lv i (.int x) (fun lv' => go (pc + 2) lv' s hi hl))
  | .lstore_n n => l1 st (fun x s => stL2 y lv n x (fun lv' => go (pc + 1) lv' s hi hl))
  | .lstore i => l1 st (fun x s => stL2 y lv i x (fun lv' => go (pc + 2) lv' s hi hl))
  | .astore_n n => r1 st (fun x s => stO y lv n (.ref x) (fun lv' => go (pc + 1) lv' s hi hl))
  | .astore i => r1 st (fun x s => stO y lv i (.ref x) (fun lv' => go (pc + 2) lv' s hi hl))
  | .iinc i n => ldi lv i (fun x => stO y lv i (.int (x + Int32.ofInt n)) (fun lv' => go (pc + 3) lv' st hi hl))
  | .iadd => b2 st (fun a b s => go (pc + 1) lv (.int (a + b) :: s) hi hl)
  | .isub => b2 st (fun a b s => go (pc + 1) lv (.int (a - b) :: s) hi hl)
  | .imul => b2 st (fun a b s => go (pc + 1) lv (.int (a * b) :: s) hi hl)
  | .idiv => b2 st (fun a b s => ¬ b = 0 ∧ go (pc + 1) lv (.int (a / b) :: s) hi hl)
  | .irem => b2 st (fun a b s => ¬ b = 0 ∧ go (pc + 1) lv (.int (a - a / b * b) :: s) hi hl)
  | .iand => b2 st (fun a b s => go (pc + 1) lv (.int (a &&& b) :: s) hi hl)
  | .ior => b2 st (fun a b s => go (pc + 1) lv (.int (a ||| b) :: s) hi hl)
  | .ixor => b2 st (fun a b s => go (pc + 1) lv (.int (a ^^^ b) :: s) hi hl)
  | .ishl => b2 st (fun a b s => go (pc + 1) lv (.int (a <<< (b &&& 31)) :: s) hi hl)
  | .ishr => b2 st (fun a b s => go (pc + 1) lv (.int (a >>> (b &&& 31)) :: s) hi hl)
  | .ladd => l2 st (fun a b s => go (pc + 1) lv (.long (a + b) :: s) hi hl)
  | .lmul => l2 st (fun a b s => go (pc + 1) lv (.long (a * b) :: s) hi hl)
  | .ldiv => l2 st (fun a b s => ¬ b = 0 ∧ go (pc + 1) lv (.long (a / b) :: s) hi hl)
  | .land => l2 st (fun a b s => go (pc + 1) lv (.long (a &&& b) :: s) hi hl)
  | .lor => l2 st (fun a b s => go (pc + 1) lv (.long (a ||| b) :: s) hi hl)
  | .lcmp => l2 st (fun a b s => go (pc + 1) lv (.int (lg_cmp a b) :: s) hi hl)
  | .lshl => b1 st (fun b s => l1 s (fun a s => go (pc + 1) lv (.long (a <<< (b.toInt64 &&& 63)) :: s) hi hl))
  | .i2l => b1 st (fun a s => go (pc + 1) lv (.long a.toInt64 :: s) hi hl)
  | .l2i => l1 st (fun a s => go (pc + 1) lv (.int a.toInt32 :: s) hi hl)
  | .i2b => b1 st (fun a s => go (pc + 1) lv (.int a.toInt8.toInt32 :: s) hi hl)
  | .i2s => b1 st (fun a s => go (pc + 1) lv (.int a.toInt16.toInt32 :: s) hi hl)
  | .i2c => b1 st (fun a s => go (pc + 1) lv (.int (a.toUInt32 % 65536).toInt32 :: s) hi hl)
  | .dup => match st with
    | a :: s => if a.category = 1 then go (pc + 1) lv (a :: a :: s) hi hl else False
    | _ => False
  | .dup2 => match st with
    | a :: b :: s => if a.category = 1 ∧ b.category = 1 then go (pc + 1) lv (a :: b :: a :: b :: s) hi hl else False
    | _ => False
  | .pop => match st with
    | a :: s => if a.category = 1 then go (pc + 1) lv s hi hl else False
    | _ => False
  | .pop2 => match st with
    | a :: s => if a.category = 2 then go (pc + 1) lv s hi hl else False
    | _ => False
  | .if_icmp c _ => b2 st (fun a b s => ic c a b (go r.2.2.1 lv s hi hl) (go (pc + 3) lv s hi hl))
  | .ifCond c _ => b1 st (fun a s => ic c a 0 (go r.2.2.1 lv s hi hl) (go (pc + 3) lv s hi hl))
  | .goto _ => go r.2.2.1 lv st hi hl
  | .tableswitch _ _ _ _ => b1 st (fun x s => (swd x r.2.2.2 → go r.2.2.1 lv s hi hl) ∧ swc x (fun t => go t lv s hi hl) r.2.2.2)
  | .getfield i => r1 st (fun h s => match lk FLT (mO y) i with
    | some (ci, k) => if ci = 15 then (100 ≤ h ∧ h < 116) ∧ go (pc + 3) lv ((if k = 0 then .ref (h + 100) else .int 0) :: s) hi hl else kd h = ci ∧ go (pc + 3) lv ((if rt ci k = true then .ref (rf h k) else .int (hi h k)) :: s) hi hl
    | none => False)
  | .putfield i => b1 st (fun v s => r1 s (fun h s => match lk FLT (mO y) i with
    | some (ci, k) => if rt ci k = false ∧ ci < 8 then kd h = ci ∧ (if bz ci k = true then v = 0 ∨ v = 1 else True) ∧ go (pc + 3) lv s (up2 hi h k v) hl else False
    | none => False))
  | .getstatic i => if mO y = 10 then (if i = 38 then go (pc + 3) lv (.int 1 :: st) hi hl else if i = 1053 then go (pc + 3) lv (.retAddr 0 :: st) hi hl else False) else False
  | .arraylength => r1 st (fun h s => if mO y = 13 then h = 99 ∧ go (pc + 1) lv (.int (Int32.ofNat (xN u)) :: s) hi hl else if mO y = 10 ∨ mO y = 11 then (200 ≤ h ∧ h < 216) ∧ go (pc + 1) lv (.int (Int32.ofNat (lenS.getD (h - 200) 0)) :: s) hi hl else (8 ≤ kd h ∧ kd h ≤ 13) ∧ go (pc + 1) lv (.int (Int32.ofNat (ln h)) :: s) hi hl)
  | .iaload => ra st (fun h i s => if mO y = 13 then (h = 99 ∧ vp_in i (xN u)) ∧ go (pc + 1) lv (.int (xX u i.toNatClampNeg) :: s) hi hl else (kd h = 8 ∧ vp_in i (ln h)) ∧ go (pc + 1) lv (.int (hi h i.toNatClampNeg) :: s) hi hl)
  | .baload => ra st (fun h i s => if mO y = 11 then ((200 ≤ h ∧ h < 216) ∧ vp_in i (lenS.getD (h - 200) 0)) ∧ go (pc + 1) lv (.int ((bytS.getD (h - 200) []).getD i.toNatClampNeg 0) :: s) hi hl else (kd h = 9 ∧ vp_in i (ln h)) ∧ go (pc + 1) lv (.int (hi h i.toNatClampNeg) :: s) hi hl)
  | .laload => ra st (fun h i s => (kd h = 10 ∧ vp_in i (ln h)) ∧ go (pc + 1) lv (.long (hl h i.toNatClampNeg) :: s) hi hl)
  | .aaload => ra st (fun h i s => ((11 ≤ kd h ∧ kd h ≤ 13) ∧ vp_in i (ln h)) ∧ go (pc + 1) lv (.ref (rf h i.toNatClampNeg) :: s) hi hl)
  | .iastore => b1 st (fun x s => ra s (fun h i s => (kd h = 8 ∧ vp_in i (ln h)) ∧ go (pc + 1) lv s (up2 hi h i.toNatClampNeg x) hl))
  | .bastore => b1 st (fun x s => ra s (fun h i s => (kd h = 9 ∧ vp_in i (ln h)) ∧ go (pc + 1) lv s (up2 hi h i.toNatClampNeg x.toInt8.toInt32) hl))
  | .lastore => l1 st (fun x s => ra s (fun h i s => (kd h = 10 ∧ vp_in i (ln h)) ∧ go (pc + 1) lv s hi (upl hl h i.toNatClampNeg x)))
  | .invokestatic i => match lk MLT (mO y) i with
    | some (z, _) => if z = 1000 then b2 st (fun a b s => if decide (1 ≤ mK y) && decide (cats s ≤ 8) then go (pc + 3) lv (.int (if a < b then b else a) :: s) hi hl else False)
      else if z = 1001 then b2 st (fun a b s => if decide (1 ≤ mK y) && decide (cats s ≤ 8) then go (pc + 3) lv (.int (if b < a then b else a) :: s) hi hl else False)
      else if z = 1002 then b2 st (fun dp n s => r1 s (fun d s => ra s (fun s0 sp s => if decide (1 ≤ mK y) && decide (cats s ≤ 8) then
        (if mO y = 0 then ((kd s0 = 8 ∧ kd d = 8) ∧ ¬ sp < 0 ∧ ¬ dp < 0 ∧ ¬ n < 0 ∧ sp.toNatClampNeg + n.toNatClampNeg ≤ ln s0 ∧ dp.toNatClampNeg + n.toNatClampNeg ≤ ln d) ∧ go (pc + 3) lv s (cpi hi s0 d sp.toNatClampNeg dp.toNatClampNeg n.toNatClampNeg) hl
         else ((kd s0 = 10 ∧ kd d = 10) ∧ ¬ sp < 0 ∧ ¬ dp < 0 ∧ ¬ n < 0 ∧ sp.toNatClampNeg + n.toNatClampNeg ≤ ln s0 ∧ dp.toNatClampNeg + n.toNatClampNeg ≤ ln d) ∧ go (pc + 3) lv s hi (cpl hl s0 d sp.toNatClampNeg dp.toNatClampNeg n.toNatClampNeg)) else False)))
      else cl1 u (go (pc + 3) lv) y z st hi hl
    | none => False
  | .invokevirtual i => match lk MLT (mO y) i with
    | some (z, _) => rcv st (mA z) (fun h => cl2 u (go (pc + 3) lv) y z h st hi hl)
    | none => False
  | .ireturn => match st with
    | [.int v] => rz (mR y) v ∧ K (some (.int v)) hi hl
    | _ => False
  | .lreturn => match st with
    | [.long v] => mR y = some .long ∧ K (some (.long v)) hi hl
    | _ => False
  | .areturn => match st with
    | [.ref h] => (∃ n, mR y = some (.object n)) ∧ K (some (.ref h)) hi hl
    | _ => False
  | .return_ => match st with
    | [] => mR y = none ∧ K none hi hl
    | _ => False
  | _ => False
/-- where a walk stops: the heads of loops (branches back) -/
def cut (y pc : Nat) : Bool := (mC y).contains pc
def vc (u : UV) : Nat → Nat → Nat → List Value → List Value → HI → HL → (Option Value → HI → HL → Prop) → Prop
  | 0, y, pc, lv, st, hi, hl, K => Wp u y pc lv st hi hl K
  | k + 1, y, pc, lv, st, hi, hl, K => match row y pc with
    | none => False
    | some r => vi u (fun pc' lv' st' hi' hl' => if cut y pc' = true then Wp u y pc' lv' st' hi' hl' K else vc u k y pc' lv' st' hi' hl' K) K y pc r lv st hi hl
/-! 07.sound -/
theorem mem_asl {u : UV} {lv : List Value} {q : Nat × Value} : q ∈ asl u lv ↔ ∃ (i : Nat) (v : Value), lv[i]? = some v ∧ v ≠ .null ∧ q = (i, tv u v) := by
  unfold asl
  rw [List.mem_filterMap]
  constructor
  · rintro ⟨⟨v, i⟩, h1, h2⟩
    have h3 := List.mem_zipIdx_iff_getElem?.mp h1
    by_cases hv : v = .null
    · simp [hv] at h2
    · simp only [hv, if_false, Option.some.injEq] at h2
      exact ⟨i, v, h3, hv, h2.symm⟩
  · rintro ⟨i, v, h1, h2, rfl⟩
    exact ⟨(v, i), List.mem_zipIdx_iff_getElem?.mpr h1, by simp [h2]⟩
theorem tv_cat {u : UV} (h : (xF u).category = 1) (v : Value) : (tv u v).category = v.category := by
  cases v <;> first | rfl | exact h
theorem lv_get {u : UV} {ls : Array Slot} {n i : Nat} {lv : List Value} {v : Value} (h : lv_has ls n (asl u lv)) (hi : lv[i]? = some v) (hv : v ≠ .null) : ls[i]? = some (.val (tv u v)) := h.2.2 (i, tv u v) (mem_asl.mpr ⟨i, v, hi, hv, rfl⟩)
theorem noL_cat {u : UV} (hF : (xF u).category = 1) {lv : List Value} {i j : Nat} {w : Value} (h : noL lv i = true) (hj : lv[j]? = some w) (e : j + 1 = i) : ¬ (tv u w).category = 2 := by
  subst e
  rw [tv_cat hF]
  simp only [noL, hj] at h
  cases w <;> simp [Value.category] at h ⊢
theorem lv_up1 {u : UV} (hF : (xF u).category = 1) {y : Nat} {ls : Array Slot} {n i : Nat} {lv : List Value} {v : Value} (hv : v ≠ .null) (hg : mG y = false → ∀ v ∈ lv, v.category = 1) (hno : ((!(mG y)) || noL lv i) = true) (hi : i < lv.length)
    (h : lv_has ls n ((i, tv u v) :: (asl u lv).filter (fun q => !(q.1 == i) && !(q.1 + 1 == i && q.2.category == 2)))) : lv_has ls n (asl u (lv.set i v)) := by
  refine ⟨h.1, h.2.1, fun q hq => ?_⟩
  obtain ⟨j, w, h1, h2, rfl⟩ := mem_asl.mp hq
  by_cases hj : j = i
  · subst hj
    rw [List.getElem?_set_self hi] at h1
    cases h1
    exact h.2.2 _ List.mem_cons_self
  · rw [List.getElem?_set_ne (Ne.symm hj)] at h1
    refine h.2.2 _ (List.mem_cons_of_mem _ (List.mem_filter.mpr ⟨mem_asl.mpr ⟨j, w, h1, h2, rfl⟩, ?_⟩))
    have hc : ¬ (j + 1 = i ∧ (tv u w).category = 2) := by
      rintro ⟨e, hc⟩
      rcases Bool.or_eq_true_iff.mp hno with hn | hn
      · have := hg (by simpa using hn) w (List.mem_of_getElem? h1)
        rw [tv_cat hF, this] at hc
        cases hc
      · exact noL_cat hF hn h1 e hc
    simp only [Bool.and_eq_true, Bool.not_eq_true', beq_eq_false_iff_ne, Bool.and_eq_false_iff, ne_eq]
    refine ⟨hj, ?_⟩
    by_cases e : j + 1 = i
    · exact Or.inr (fun z => hc ⟨e, z⟩)
    · exact Or.inl e
theorem lv_up2 {u : UV} (hF : (xF u).category = 1) {ls : Array Slot} {n i : Nat} {lv : List Value} {x : Int64} (hno : noL lv i = true) (hi : i + 1 < lv.length)
    (h : lv_has ls n ((i, Value.long x) :: (asl u lv).filter (fun q => !(q.1 == i) && (!(q.1 == i + 1) && !(q.1 + 1 == i && q.2.category == 2))))) : lv_has ls n (asl u ((lv.set i (.long x)).set (i + 1) .null)) := by
  refine ⟨h.1, h.2.1, fun q hq => ?_⟩
  obtain ⟨j, w, h1, h2, rfl⟩ := mem_asl.mp hq
  by_cases hj2 : j = i + 1
  · subst hj2
    rw [List.getElem?_set_self (by rw [List.length_set]; exact hi)] at h1
    cases h1
    exact absurd rfl h2
  · rw [List.getElem?_set_ne (Ne.symm hj2)] at h1
    by_cases hj : j = i
    · subst hj
      rw [List.getElem?_set_self (by omega)] at h1
      cases h1
      exact h.2.2 _ List.mem_cons_self
    · rw [List.getElem?_set_ne (Ne.symm hj)] at h1
      refine h.2.2 _ (List.mem_cons_of_mem _ (List.mem_filter.mpr ⟨mem_asl.mpr ⟨j, w, h1, h2, rfl⟩, ?_⟩))
      simp only [Bool.and_eq_true, Bool.not_eq_true', beq_eq_false_iff_ne, Bool.and_eq_false_iff, ne_eq]
      refine ⟨hj, hj2, ?_⟩
      by_cases e : j + 1 = i
      · exact Or.inr (noL_cat hF hno h1 e)
      · exact Or.inl e
/-! the world's cells -/
theorem kd_lt {h : Nat} (e : kd h ≠ 14) : h < 63 := by
  rcases Nat.lt_or_ge h 63 with q | q
  · exact q
  · exact absurd (by unfold kd; rw [List.getD_eq_getElem?_getD, List.getElem?_eq_none (show kdL.length ≤ h from q)]; rfl) e
theorem wd_at {u : UV} {hi : HI} {hl : HL} {h : Nat} (e : kd h ≠ 14) : (wd u hi hl)[h]? = some (xA u h, en u hi hl h) := by
  unfold wd
  rw [List.getElem?_map, List.getElem?_range (kd_lt e)]
  rfl
theorem en_congr {u : UV} {hi hi' : HI} {hl hl' : HL} {h : Nat} (e1 : hi h = hi' h) (e2 : hl h = hl' h) : en u hi hl h = en u hi' hl' h := by
  unfold en fds
  rw [e1, e2]
theorem wd_set {u : UV} {hi hi' : HI} {hl hl' : HL} {h : Nat} {x : va_E} (e : kd h ≠ 14) (hx : x = en u hi' hl' h) (h1 : ∀ j, j ≠ h → hi j = hi' j) (h2 : ∀ j, j ≠ h → hl j = hl' j) : (wd u hi hl).set h (xA u h, x) = wd u hi' hl' := by
  subst hx
  apply List.ext_getElem?
  intro j
  by_cases hj : j = h
  · subst hj
    rw [wd_at e, List.getElem?_set_self (by unfold wd; rw [List.length_map, List.length_range]; exact kd_lt e)]
  · rw [List.getElem?_set_ne (Ne.symm hj)]
    unfold wd
    rw [List.getElem?_map, List.getElem?_map]
    cases hr : (List.range 63)[j]? with
    | none => rfl
    | some i =>
      have hi2 : i = j := by
        have := List.getElem?_range (n := 63) (i := j) (by have := (List.getElem?_eq_some_iff.mp hr).1; simpa using this)
        rw [hr] at this
        exact Option.some.inj this
      subst hi2
      exact congrArg (fun z => some (xA u i, z)) (en_congr (h1 i hj) (h2 i hj))
theorem wd_D {u : UV} {s : State} (h : inU u s) (hi : HI) (hl : HL) : va_D (aS u) (wd u hi hl) := by
  have key : ∀ (i : Nat) (q : Nat × va_E), (wd u hi hl)[i]? = some q → i < 63 ∧ q.1 = xA u i := by
    intro i q hq
    unfold wd at hq
    rw [List.getElem?_map] at hq
    cases hr : (List.range 63)[i]? with
    | none => rw [hr] at hq; cases hq
    | some j =>
      have hlt : i < 63 := by have := (List.getElem?_eq_some_iff.mp hr).1; simpa using this
      rw [List.getElem?_range hlt] at hr
      cases hr
      rw [List.getElem?_range hlt] at hq
      cases hq
      exact ⟨hlt, rfl⟩
  refine ⟨fun i j p q hp hq e => ?_, fun k q hq => ?_⟩
  · obtain ⟨a1, a2⟩ := key i p hp
    obtain ⟨b1, b2⟩ := key j q hq
    exact h.2.1 i j a1 b1 (by rw [← a2, ← b2]; exact e)
  · obtain ⟨a1, a2⟩ := key k q hq
    exact ⟨k, a1, a2⟩
theorem en_o {u : UV} {hi : HI} {hl : HL} {h ci : Nat} (e : kd h = ci) (hc : ci < 8) : en u hi hl h = .inr (ci, fds u hi h ci) := by
  unfold en
  rw [e, if_pos hc]
theorem en_i {u : UV} {hi : HI} {hl : HL} {h : Nat} (e : kd h = 8) : en u hi hl h = .inl (xC u 8, ln h, .inl (hi h)) := by
  unfold en
  rw [e]; rfl
theorem en_b {u : UV} {hi : HI} {hl : HL} {h : Nat} (e : kd h = 9) : en u hi hl h = .inl (xC u 9, ln h, .inl (hi h)) := by
  unfold en
  rw [e]; rfl
theorem en_l {u : UV} {hi : HI} {hl : HL} {h : Nat} (e : kd h = 10) : en u hi hl h = .inl (xC u 10, ln h, .inr (.inl (hl h))) := by
  unfold en
  rw [e]; rfl
theorem en_a {u : UV} {hi : HI} {hl : HL} {h k : Nat} (e : kd h = k) (h1 : 11 ≤ k) : en u hi hl h = .inl (xC u k, ln h, .inr (.inr (.inr (.inr (fun k => some (xA u (rf h k))))))) := by
  unfold en
  rw [e, if_neg (by omega), if_neg (by omega), if_neg (by omega)]
theorem en_arr {u : UV} {hi : HI} {hl : HL} {h : Nat} (h1 : 8 ≤ kd h) (h2 : kd h ≤ 13) : ∃ (x : vp_A), en u hi hl h = .inl (xC u (kd h), x) ∧ x.1 = ln h := by
  unfold en
  rw [if_neg (by omega)]
  by_cases a : kd h < 10
  · rw [if_pos a]; exact ⟨_, rfl, rfl⟩
  · rw [if_neg a]
    by_cases b : kd h = 10
    · rw [if_pos b, b]; exact ⟨_, rfl, rfl⟩
    · rw [if_neg b]; exact ⟨_, rfl, rfl⟩
theorem ty_at {u : UV} {k : Nat} (h1 : 8 ≤ k) (h2 : k ≤ 13) : ∃ ty, (tyL u)[k - 8]? = some (xC u k, ty) := by
  have h : k = 8 ∨ k = 9 ∨ k = 10 ∨ k = 11 ∨ k = 12 ∨ k = 13 := by omega
  rcases h with rfl | rfl | rfl | rfl | rfl | rfl <;> exact ⟨_, rfl⟩
theorem ty_ref {u : UV} {k : Nat} (h1 : 11 ≤ k) (h2 : k ≤ 13) : ∃ C, (tyL u)[k - 8]? = some (xC u k, .object C) := by
  have h : k = 11 ∨ k = 12 ∨ k = 13 := by omega
  rcases h with rfl | rfl | rfl <;> exact ⟨_, rfl⟩
theorem fds_at {u : UV} {hi : HI} {h ci k : Nat} (hk : k < nfL.getD ci 0) : (fds u hi h ci)[k]? = some (if rt ci k = true then .ref (xA u (rf h k)) else .int (hi h k)) := by
  unfold fds
  rw [List.getElem?_map, List.getElem?_range hk]
  rfl
theorem up2_at {hi : HI} {h k : Nat} {v : Int32} : up2 hi h k v h = upd (hi h) k v := by simp [up2]
theorem up2_ne {hi : HI} {h k : Nat} {v : Int32} {j : Nat} (e : j ≠ h) : hi j = up2 hi h k v j := by simp [up2, e]
theorem upl_at {hl : HL} {h k : Nat} {v : Int64} : upl hl h k v h = vp_updL (hl h) k v := by simp [upl]
theorem upl_ne {hl : HL} {h k : Nat} {v : Int64} {j : Nat} (e : j ≠ h) : hl j = upl hl h k v j := by simp [upl, e]
theorem fds_set {u : UV} {hi : HI} {h ci k : Nat} {v : Int32} (hk : k < nfL.getD ci 0) (hr : rt ci k = false) : (fds u hi h ci).set k (.int v) = fds u (up2 hi h k v) h ci := by
  apply List.ext_getElem?
  intro j
  have hlen : (fds u hi h ci).length = nfL.getD ci 0 := by unfold fds; rw [List.length_map, List.length_range]
  by_cases hj : j = k
  · subst hj
    rw [List.getElem?_set_self (by omega), fds_at hk, hr, up2_at]
    simp [upd]
  · rw [List.getElem?_set_ne (Ne.symm hj)]
    by_cases hjl : j < nfL.getD ci 0
    · rw [fds_at hjl, fds_at hjl, up2_at]
      simp [upd, hj]
    · rw [List.getElem?_eq_none (by omega), List.getElem?_eq_none (by unfold fds; rw [List.length_map, List.length_range]; omega)]
/-! links -/
theorem lk_mem {α : Type} {t : List (Nat × α)} {o i : Nat} {x : α} (h : lk t o i = some x) : (10000 * o + i, x) ∈ t := lkl_mem h
theorem key_d {o i : Nat} (h : i < 10000) : (10000 * o + i) / 10000 = o ∧ (10000 * o + i) % 10000 = i := by omega
def ilen (ins : Instr) : Nat := match ins with
  | .bipush _ => 2
  | .ldc _ => 2
  | .iload _ => 2
  | .lload _ => 2
  | .aload _ => 2
  | .istore _ => 2
  | .lstore _ => 2
  | .astore _ => 2
  | .sipush _ => 3
  | .ldc_w _ => 3
  | .ldc2_w _ => 3
  | .iinc _ _ => 3
  | .if_icmp _ _ => 3
  | .ifCond _ _ => 3
  | .goto _ => 3
  | .getfield _ => 3
  | .putfield _ => 3
  | .getstatic _ => 3
  | .invokevirtual _ => 3
  | .invokestatic _ => 3
  | .tableswitch _ _ _ _ => 0
  | _ => 1
/-- a constant pool's place -/
def ipl (ins : Instr) : Nat := match ins with
  | .ldc i => i
  | .ldc_w i => i
  | .ldc2_w i => i
  | .getfield i => i
  | .putfield i => i
  | .getstatic i => i
  | .invokevirtual i => i
  | .invokestatic i => i
  | _ => 0
def lnOk (q : Nat × Row) : Bool := (ilen q.2.1 == 0 || ilen q.2.1 == q.2.2.1 || ilen q.2.1 == 1 && q.2.2.1 == 1) && decide (ipl q.2.1 < 10000)

set_option maxRecDepth 100000 in
theorem ln_w : (List.range 229).all (fun z => (mW z).all (fun q => match q.2.1 with
  | .new _ => true
  | .anewarray _ => true
  | .newarray _ => true
  | .invokespecial _ => true
  | _ => lnOk q)) = true := by decide +kernel
theorem row_mem {z pc : Nat} {r : Row} (h : row z pc = some r) : (pc, r) ∈ mW z := rwc_mem h
theorem rw_dec {y pc : Nat} {r : Row} {ins : Instr} {n : Nat} (hz : y < 229) (hr : row y pc = some r) (e : r.1 = ins) (hs : (match ins with | .new _ => true | .anewarray _ => true | .newarray _ => true | .invokespecial _ => true | .tableswitch _ _ _ _ => true | _ => false) = false) (hn : ilen ins = n) (h0 : 0 < n) : decode (mB y) pc = .ok (ins, n) := by
  have h1 := dcOk hz hr
  unfold rwOk at h1
  rw [Bool.and_eq_true, decide_eq_true_eq] at h1
  have h2 := List.all_eq_true.mp (List.all_eq_true.mp ln_w y (List.mem_range.mpr hz)) _ (row_mem hr)
  obtain ⟨i, l, t, sw⟩ := r
  dsimp only at e h1 h2
  subst e
  have h3 : lnOk (pc, i, l, t, sw) = true := by
    revert h2 hs
    cases i <;> simp
  have h4 : l = n := by
    simp only [lnOk, Bool.and_eq_true, Bool.or_eq_true, beq_iff_eq] at h3
    omega
  rw [← h4]
  exact h1.1
theorem rw_pl {y pc : Nat} {r : Row} (hz : y < 229) (hr : row y pc = some r) (hs : (match r.1 with | .new _ => true | .anewarray _ => true | .newarray _ => true | .invokespecial _ => true | _ => false) = false) : ipl r.1 < 10000 := by
  have h2 := List.all_eq_true.mp (List.all_eq_true.mp ln_w y (List.mem_range.mpr hz)) _ (row_mem hr)
  obtain ⟨i, l, t, sw⟩ := r
  dsimp only at hs h2 ⊢
  have h3 : lnOk (pc, i, l, t, sw) = true := by
    revert h2 hs
    cases i <;> simp
  simp only [lnOk, Bool.and_eq_true, decide_eq_true_eq] at h3
  exact h3.2
theorem rw_tgt {y pc : Nat} {r : Row} {off : Int} (hz : y < 229) (hr : row y pc = some r) (e : (∃ c, r.1 = .if_icmp c off) ∨ (∃ c, r.1 = .ifCond c off) ∨ r.1 = .goto off) : (pc : Int) + off = (r.2.2.1 : Int) := by
  have h1 := dcOk hz hr
  unfold rwOk at h1
  rw [Bool.and_eq_true] at h1
  obtain ⟨i, l, t, sw⟩ := r
  dsimp only at e h1 ⊢
  rcases e with ⟨c, rfl⟩ | ⟨c, rfl⟩ | rfl
  · exact of_decide_eq_true h1.2
  · exact of_decide_eq_true h1.2
  · exact of_decide_eq_true h1.2
abbrev Gk (u : UV) (y : Nat) (K : Option Value → HI → HL → Prop) (go : Nat → List Value → List Value → HI → HL → Prop) : Prop := ∀ pc lv st hi hl, go pc lv st hi hl → Wp u y pc lv st hi hl K
section VV
variable {u : UV} {y pc : Nat} {r : Row} {lv st : List Value} {hi : HI} {hl : HL} {K : Option Value → HI → HL → Prop} {go : Nat → List Value → List Value → HI → HL → Prop}

theorem v_iconst {n : Int} (hz : y < 229) (hr : row y pc = some r) (hg : Gk u y K go) (ei : r.1 = .iconst n) (h : vi u go K y pc r lv st hi hl) : Wp u y pc lv st hi hl K := by
  simp only [vi, ei] at h
  intro p e R s m args below meth c cells slots Z H locs ls C T G P S L N
  exact lv_iconst C.1 C.2.1 (rw_dec hz hr ei rfl rfl (by decide)) rfl (hg _ _ _ _ _ h p e R s m args below meth c cells slots Z H locs ls C T G P S L N)
theorem v_bipush {n : Int} (hz : y < 229) (hr : row y pc = some r) (hg : Gk u y K go) (ei : r.1 = .bipush n) (h : vi u go K y pc r lv st hi hl) : Wp u y pc lv st hi hl K := by
  simp only [vi, ei] at h
  intro p e R s m args below meth c cells slots Z H locs ls C T G P S L N
  exact lv_bipush C.1 C.2.1 (rw_dec hz hr ei rfl rfl (by decide)) rfl (hg _ _ _ _ _ h p e R s m args below meth c cells slots Z H locs ls C T G P S L N)
theorem v_sipush {n : Int} (hz : y < 229) (hr : row y pc = some r) (hg : Gk u y K go) (ei : r.1 = .sipush n) (h : vi u go K y pc r lv st hi hl) : Wp u y pc lv st hi hl K := by
  simp only [vi, ei] at h
  intro p e R s m args below meth c cells slots Z H locs ls C T G P S L N
  exact lv_sipush C.1 C.2.1 (rw_dec hz hr ei rfl rfl (by decide)) rfl (hg _ _ _ _ _ h p e R s m args below meth c cells slots Z H locs ls C T G P S L N)
theorem v_lconst {n : Fin 2} (hz : y < 229) (hr : row y pc = some r) (hg : Gk u y K go) (ei : r.1 = .lconst n) (h : vi u go K y pc r lv st hi hl) : Wp u y pc lv st hi hl K := by
  simp only [vi, ei] at h
  intro p e R s m args below meth c cells slots Z H locs ls C T G P S L N
  exact lv_lconst C.1 C.2.1 (rw_dec hz hr ei rfl rfl (by decide)) rfl (hg _ _ _ _ _ h p e R s m args below meth c cells slots Z H locs ls C T G P S L N)
theorem v_iload_n {n : Fin 4} (hz : y < 229) (hr : row y pc = some r) (hg : Gk u y K go) (ei : r.1 = .iload_n n) (h : vi u go K y pc r lv st hi hl) : Wp u y pc lv st hi hl K := by
  simp only [vi, ei] at h
  unfold ldi at h
  split at h
  · rename_i x hx
    intro p e R s m args below meth c cells slots Z H locs ls C T G P S L N
    exact lv_iload_n C.1 C.2.1 (rw_dec hz hr ei rfl rfl (by decide)) rfl (lv_get L hx (by simp)) (hg _ _ _ _ _ h p e R s m args below meth c cells slots Z H locs ls C T G P S L N)
  · exact h.elim
theorem v_iload {n : Nat} (hz : y < 229) (hr : row y pc = some r) (hg : Gk u y K go) (ei : r.1 = .iload n) (h : vi u go K y pc r lv st hi hl) : Wp u y pc lv st hi hl K := by
  simp only [vi, ei] at h
  unfold ldi at h
  split at h
  · rename_i x hx
    intro p e R s m args below meth c cells slots Z H locs ls C T G P S L N
    exact lv_iload C.1 C.2.1 (rw_dec hz hr ei rfl rfl (by decide)) (lv_get L hx (by simp)) (hg _ _ _ _ _ h p e R s m args below meth c cells slots Z H locs ls C T G P S L N)
  · exact h.elim
theorem v_lload_n {n : Fin 4} (hz : y < 229) (hr : row y pc = some r) (hg : Gk u y K go) (ei : r.1 = .lload_n n) (h : vi u go K y pc r lv st hi hl) : Wp u y pc lv st hi hl K := by
  simp only [vi, ei] at h
  unfold ldl at h
  split at h
  · rename_i x hx
    intro p e R s m args below meth c cells slots Z H locs ls C T G P S L N
    exact lv_lload_n C.1 C.2.1 (rw_dec hz hr ei rfl rfl (by decide)) rfl (lv_get L hx (by simp)) (hg _ _ _ _ _ h p e R s m args below meth c cells slots Z H locs ls C T G P S L N)
  · exact h.elim
theorem v_lload {n : Nat} (hz : y < 229) (hr : row y pc = some r) (hg : Gk u y K go) (ei : r.1 = .lload n) (h : vi u go K y pc r lv st hi hl) : Wp u y pc lv st hi hl K := by
  simp only [vi, ei] at h
  unfold ldl at h
  split at h
  · rename_i x hx
    intro p e R s m args below meth c cells slots Z H locs ls C T G P S L N
    exact lv_lload C.1 C.2.1 (rw_dec hz hr ei rfl rfl (by decide)) (lv_get L hx (by simp)) (hg _ _ _ _ _ h p e R s m args below meth c cells slots Z H locs ls C T G P S L N)
  · exact h.elim
theorem v_aload_n {n : Fin 4} (hz : y < 229) (hr : row y pc = some r) (hg : Gk u y K go) (ei : r.1 = .aload_n n) (h : vi u go K y pc r lv st hi hl) : Wp u y pc lv st hi hl K := by
  simp only [vi, ei] at h
  unfold lda at h
  split at h
  · rename_i x hx
    intro p e R s m args below meth c cells slots Z H locs ls C T G P S L N
    exact lv_aload_n C.1 C.2.1 (rw_dec hz hr ei rfl rfl (by decide)) rfl (lv_get L hx (by simp)) (hg _ _ _ _ _ h p e R s m args below meth c cells slots Z H locs ls C T G P S L N)
  · exact h.elim
theorem v_aload {n : Nat} (hz : y < 229) (hr : row y pc = some r) (hg : Gk u y K go) (ei : r.1 = .aload n) (h : vi u go K y pc r lv st hi hl) : Wp u y pc lv st hi hl K := by
  simp only [vi, ei] at h
  unfold lda at h
  split at h
  · rename_i x hx
    intro p e R s m args below meth c cells slots Z H locs ls C T G P S L N
    exact lv_aload C.1 C.2.1 (rw_dec hz hr ei rfl rfl (by decide)) (lv_get L hx (by simp)) (hg _ _ _ _ _ h p e R s m args below meth c cells slots Z H locs ls C T G P S L N)
  · exact h.elim
theorem v_istore_n {n : Fin 4} (hz : y < 229) (hr : row y pc = some r) (hg : Gk u y K go) (ei : r.1 = .istore_n n) (h : vi u go K y pc r lv st hi hl) : Wp u y pc lv st hi hl K := by
  simp only [vi, ei] at h
  unfold b1 at h
  split at h
  · rename_i x s0
    unfold stO at h
    split at h
    · rename_i hc
      rw [Bool.and_eq_true, decide_eq_true_eq] at hc
      intro p e R s m args below meth c cells slots Z H locs ls C T G P S L N
      exact lv_istore_n C.1 C.2.1 (rw_dec hz hr ei rfl rfl (by decide)) rfl L (by rw [← N]; exact hc.2) rfl (fun ls2 h2 => hg _ _ _ _ _ h p e R s m args below meth c cells slots Z H locs ls2 C T (fun hq v hv => (List.mem_or_eq_of_mem_set hv).elim (G hq v) (fun z => by rw [z]; rfl)) P S (lv_up1 C.2.2.2.2.2.2.1.2.2.2.2.2.2.2.2 (v := .int x) (by simp) G hc.1 hc.2 h2) (by rw [List.length_set]; exact N))
    · exact h.elim
  · exact h.elim
theorem v_istore {n : Nat} (hz : y < 229) (hr : row y pc = some r) (hg : Gk u y K go) (ei : r.1 = .istore n) (h : vi u go K y pc r lv st hi hl) : Wp u y pc lv st hi hl K := by
  simp only [vi, ei] at h
  unfold b1 at h
  split at h
  · rename_i x s0
    unfold stO at h
    split at h
    · rename_i hc
      rw [Bool.and_eq_true, decide_eq_true_eq] at hc
      intro p e R s m args below meth c cells slots Z H locs ls C T G P S L N
      exact lv_istore C.1 C.2.1 (rw_dec hz hr ei rfl rfl (by decide)) L (by rw [← N]; exact hc.2) rfl (fun ls2 h2 => hg _ _ _ _ _ h p e R s m args below meth c cells slots Z H locs ls2 C T (fun hq v hv => (List.mem_or_eq_of_mem_set hv).elim (G hq v) (fun z => by rw [z]; rfl)) P S (lv_up1 C.2.2.2.2.2.2.1.2.2.2.2.2.2.2.2 (v := .int x) (by simp) G hc.1 hc.2 h2) (by rw [List.length_set]; exact N))
    · exact h.elim
  · exact h.elim
theorem v_astore_n {n : Fin 4} (hz : y < 229) (hr : row y pc = some r) (hg : Gk u y K go) (ei : r.1 = .astore_n n) (h : vi u go K y pc r lv st hi hl) : Wp u y pc lv st hi hl K := by
  simp only [vi, ei] at h
  unfold r1 at h
  split at h
  · rename_i x s0
    unfold stO at h
    split at h
    · rename_i hc
      rw [Bool.and_eq_true, decide_eq_true_eq] at hc
      intro p e R s m args below meth c cells slots Z H locs ls C T G P S L N
      exact lv_astore_n C.1 C.2.1 (rw_dec hz hr ei rfl rfl (by decide)) rfl L (by rw [← N]; exact hc.2) rfl (fun ls2 h2 => hg _ _ _ _ _ h p e R s m args below meth c cells slots Z H locs ls2 C T (fun hq v hv => (List.mem_or_eq_of_mem_set hv).elim (G hq v) (fun z => by rw [z]; rfl)) P S (lv_up1 C.2.2.2.2.2.2.1.2.2.2.2.2.2.2.2 (v := .ref x) (by simp) G hc.1 hc.2 h2) (by rw [List.length_set]; exact N))
    · exact h.elim
  · exact h.elim
theorem v_astore {n : Nat} (hz : y < 229) (hr : row y pc = some r) (hg : Gk u y K go) (ei : r.1 = .astore n) (h : vi u go K y pc r lv st hi hl) : Wp u y pc lv st hi hl K := by
  simp only [vi, ei] at h
  unfold r1 at h
  split at h
  · rename_i x s0
    unfold stO at h
    split at h
    · rename_i hc
      rw [Bool.and_eq_true, decide_eq_true_eq] at hc
      intro p e R s m args below meth c cells slots Z H locs ls C T G P S L N
      exact lv_astore C.1 C.2.1 (rw_dec hz hr ei rfl rfl (by decide)) L (by rw [← N]; exact hc.2) rfl (fun ls2 h2 => hg _ _ _ _ _ h p e R s m args below meth c cells slots Z H locs ls2 C T (fun hq v hv => (List.mem_or_eq_of_mem_set hv).elim (G hq v) (fun z => by rw [z]; rfl)) P S (lv_up1 C.2.2.2.2.2.2.1.2.2.2.2.2.2.2.2 (v := .ref x) (by simp) G hc.1 hc.2 h2) (by rw [List.length_set]; exact N))
    · exact h.elim
  · exact h.elim
theorem v_lstore_n {n : Fin 4} (hz : y < 229) (hr : row y pc = some r) (hg : Gk u y K go) (ei : r.1 = .lstore_n n) (h : vi u go K y pc r lv st hi hl) : Wp u y pc lv st hi hl K := by
  simp only [vi, ei] at h
  unfold l1 at h
  split at h
  · rename_i x s0
    unfold stL2 at h
    split at h
    · rename_i hc
      rw [Bool.and_eq_true, Bool.and_eq_true, decide_eq_true_eq] at hc
      intro p e R s m args below meth c cells slots Z H locs ls C T G P S L N
      exact lv_lstore_n C.1 C.2.1 (rw_dec hz hr ei rfl rfl (by decide)) rfl L (by rw [← N]; exact hc.2.2) rfl (fun ls2 h2 => hg _ _ _ _ _ h p e R s m args below meth c cells slots Z H locs ls2 C T (fun hq => by rw [hc.1] at hq; cases hq) P S (lv_up2 C.2.2.2.2.2.2.1.2.2.2.2.2.2.2.2 hc.2.1 hc.2.2 h2) (by rw [List.length_set, List.length_set]; exact N))
    · exact h.elim
  · exact h.elim
theorem v_lstore {n : Nat} (hz : y < 229) (hr : row y pc = some r) (hg : Gk u y K go) (ei : r.1 = .lstore n) (h : vi u go K y pc r lv st hi hl) : Wp u y pc lv st hi hl K := by
  simp only [vi, ei] at h
  unfold l1 at h
  split at h
  · rename_i x s0
    unfold stL2 at h
    split at h
    · rename_i hc
      rw [Bool.and_eq_true, Bool.and_eq_true, decide_eq_true_eq] at hc
      intro p e R s m args below meth c cells slots Z H locs ls C T G P S L N
      exact lv_lstore C.1 C.2.1 (rw_dec hz hr ei rfl rfl (by decide)) L (by rw [← N]; exact hc.2.2) rfl (fun ls2 h2 => hg _ _ _ _ _ h p e R s m args below meth c cells slots Z H locs ls2 C T (fun hq => by rw [hc.1] at hq; cases hq) P S (lv_up2 C.2.2.2.2.2.2.1.2.2.2.2.2.2.2.2 hc.2.1 hc.2.2 h2) (by rw [List.length_set, List.length_set]; exact N))
    · exact h.elim
  · exact h.elim
theorem v_iinc {i : Nat} {n : Int} (hz : y < 229) (hr : row y pc = some r) (hg : Gk u y K go) (ei : r.1 = .iinc i n) (h : vi u go K y pc r lv st hi hl) : Wp u y pc lv st hi hl K := by
  simp only [vi, ei] at h
  unfold ldi at h
  split at h
  · rename_i x hx
    unfold stO at h
    split at h
    · rename_i hc
      rw [Bool.and_eq_true, decide_eq_true_eq] at hc
      intro p e R s m args below meth c cells slots Z H locs ls C T G P S L N
      obtain ⟨k, hk⟩ := List.getElem?_of_mem (mem_asl.mpr ⟨i, .int x, hx, by simp, rfl⟩ : (i, tv u (.int x)) ∈ asl u lv)
      exact lv_iinc C.1 C.2.1 (rw_dec hz hr ei rfl rfl (by decide)) L (k := k) hk rfl (by rw [← N]; exact hc.2) rfl (fun ls2 h2 => hg _ _ _ _ _ h p e R s m args below meth c cells slots Z H locs ls2 C T (fun hq v hv => (List.mem_or_eq_of_mem_set hv).elim (G hq v) (fun z => by rw [z]; rfl)) P S (lv_up1 C.2.2.2.2.2.2.1.2.2.2.2.2.2.2.2 (v := .int (x + Int32.ofInt n)) (by simp) G hc.1 hc.2 h2) (by rw [List.length_set]; exact N))
    · exact h.elim
  · exact h.elim
theorem v_iadd (hz : y < 229) (hr : row y pc = some r) (hg : Gk u y K go) (ei : r.1 = .iadd) (h : vi u go K y pc r lv st hi hl) : Wp u y pc lv st hi hl K := by
  simp only [vi, ei] at h
  unfold b2 at h
  split at h
  · intro p e R s m args below meth c cells slots Z H locs ls C T G P S L N
    exact lv_iadd C.1 C.2.1 (rw_dec hz hr ei rfl rfl (by decide)) (hg _ _ _ _ _ h p e R s m args below meth c cells slots Z H locs ls C T G P S L N)
  · exact h.elim
theorem v_isub (hz : y < 229) (hr : row y pc = some r) (hg : Gk u y K go) (ei : r.1 = .isub) (h : vi u go K y pc r lv st hi hl) : Wp u y pc lv st hi hl K := by
  simp only [vi, ei] at h
  unfold b2 at h
  split at h
  · intro p e R s m args below meth c cells slots Z H locs ls C T G P S L N
    exact lv_isub C.1 C.2.1 (rw_dec hz hr ei rfl rfl (by decide)) (hg _ _ _ _ _ h p e R s m args below meth c cells slots Z H locs ls C T G P S L N)
  · exact h.elim
theorem v_imul (hz : y < 229) (hr : row y pc = some r) (hg : Gk u y K go) (ei : r.1 = .imul) (h : vi u go K y pc r lv st hi hl) : Wp u y pc lv st hi hl K := by
  simp only [vi, ei] at h
  unfold b2 at h
  split at h
  · intro p e R s m args below meth c cells slots Z H locs ls C T G P S L N
    exact lv_imul C.1 C.2.1 (rw_dec hz hr ei rfl rfl (by decide)) (hg _ _ _ _ _ h p e R s m args below meth c cells slots Z H locs ls C T G P S L N)
  · exact h.elim
theorem v_iand (hz : y < 229) (hr : row y pc = some r) (hg : Gk u y K go) (ei : r.1 = .iand) (h : vi u go K y pc r lv st hi hl) : Wp u y pc lv st hi hl K := by
  simp only [vi, ei] at h
  unfold b2 at h
  split at h
  · intro p e R s m args below meth c cells slots Z H locs ls C T G P S L N
    exact lv_iand C.1 C.2.1 (rw_dec hz hr ei rfl rfl (by decide)) (hg _ _ _ _ _ h p e R s m args below meth c cells slots Z H locs ls C T G P S L N)
  · exact h.elim
theorem v_ior (hz : y < 229) (hr : row y pc = some r) (hg : Gk u y K go) (ei : r.1 = .ior) (h : vi u go K y pc r lv st hi hl) : Wp u y pc lv st hi hl K := by
  simp only [vi, ei] at h
  unfold b2 at h
  split at h
  · intro p e R s m args below meth c cells slots Z H locs ls C T G P S L N
    exact lv_ior C.1 C.2.1 (rw_dec hz hr ei rfl rfl (by decide)) (hg _ _ _ _ _ h p e R s m args below meth c cells slots Z H locs ls C T G P S L N)
  · exact h.elim
theorem v_ixor (hz : y < 229) (hr : row y pc = some r) (hg : Gk u y K go) (ei : r.1 = .ixor) (h : vi u go K y pc r lv st hi hl) : Wp u y pc lv st hi hl K := by
  simp only [vi, ei] at h
  unfold b2 at h
  split at h
  · intro p e R s m args below meth c cells slots Z H locs ls C T G P S L N
    exact lv_ixor C.1 C.2.1 (rw_dec hz hr ei rfl rfl (by decide)) (hg _ _ _ _ _ h p e R s m args below meth c cells slots Z H locs ls C T G P S L N)
  · exact h.elim
theorem v_ishl (hz : y < 229) (hr : row y pc = some r) (hg : Gk u y K go) (ei : r.1 = .ishl) (h : vi u go K y pc r lv st hi hl) : Wp u y pc lv st hi hl K := by
  simp only [vi, ei] at h
  unfold b2 at h
  split at h
  · intro p e R s m args below meth c cells slots Z H locs ls C T G P S L N
    exact lv_ishl C.1 C.2.1 (rw_dec hz hr ei rfl rfl (by decide)) (hg _ _ _ _ _ h p e R s m args below meth c cells slots Z H locs ls C T G P S L N)
  · exact h.elim
theorem v_ishr (hz : y < 229) (hr : row y pc = some r) (hg : Gk u y K go) (ei : r.1 = .ishr) (h : vi u go K y pc r lv st hi hl) : Wp u y pc lv st hi hl K := by
  simp only [vi, ei] at h
  unfold b2 at h
  split at h
  · intro p e R s m args below meth c cells slots Z H locs ls C T G P S L N
    exact lv_ishr C.1 C.2.1 (rw_dec hz hr ei rfl rfl (by decide)) (hg _ _ _ _ _ h p e R s m args below meth c cells slots Z H locs ls C T G P S L N)
  · exact h.elim
theorem v_ladd (hz : y < 229) (hr : row y pc = some r) (hg : Gk u y K go) (ei : r.1 = .ladd) (h : vi u go K y pc r lv st hi hl) : Wp u y pc lv st hi hl K := by
  simp only [vi, ei] at h
  unfold l2 at h
  split at h
  · intro p e R s m args below meth c cells slots Z H locs ls C T G P S L N
    exact lv_ladd C.1 C.2.1 (rw_dec hz hr ei rfl rfl (by decide)) (hg _ _ _ _ _ h p e R s m args below meth c cells slots Z H locs ls C T G P S L N)
  · exact h.elim
theorem v_lmul (hz : y < 229) (hr : row y pc = some r) (hg : Gk u y K go) (ei : r.1 = .lmul) (h : vi u go K y pc r lv st hi hl) : Wp u y pc lv st hi hl K := by
  simp only [vi, ei] at h
  unfold l2 at h
  split at h
  · intro p e R s m args below meth c cells slots Z H locs ls C T G P S L N
    exact lv_lmul C.1 C.2.1 (rw_dec hz hr ei rfl rfl (by decide)) (hg _ _ _ _ _ h p e R s m args below meth c cells slots Z H locs ls C T G P S L N)
  · exact h.elim
theorem v_land (hz : y < 229) (hr : row y pc = some r) (hg : Gk u y K go) (ei : r.1 = .land) (h : vi u go K y pc r lv st hi hl) : Wp u y pc lv st hi hl K := by
  simp only [vi, ei] at h
  unfold l2 at h
  split at h
  · intro p e R s m args below meth c cells slots Z H locs ls C T G P S L N
    exact lv_land C.1 C.2.1 (rw_dec hz hr ei rfl rfl (by decide)) (hg _ _ _ _ _ h p e R s m args below meth c cells slots Z H locs ls C T G P S L N)
  · exact h.elim
theorem v_lor (hz : y < 229) (hr : row y pc = some r) (hg : Gk u y K go) (ei : r.1 = .lor) (h : vi u go K y pc r lv st hi hl) : Wp u y pc lv st hi hl K := by
  simp only [vi, ei] at h
  unfold l2 at h
  split at h
  · intro p e R s m args below meth c cells slots Z H locs ls C T G P S L N
    exact lv_lor C.1 C.2.1 (rw_dec hz hr ei rfl rfl (by decide)) (hg _ _ _ _ _ h p e R s m args below meth c cells slots Z H locs ls C T G P S L N)
  · exact h.elim
theorem v_idiv (hz : y < 229) (hr : row y pc = some r) (hg : Gk u y K go) (ei : r.1 = .idiv) (h : vi u go K y pc r lv st hi hl) : Wp u y pc lv st hi hl K := by
  simp only [vi, ei] at h
  unfold b2 at h
  split at h
  · intro p e R s m args below meth c cells slots Z H locs ls C T G P S L N
    exact lv_idiv C.1 C.2.1 (rw_dec hz hr ei rfl rfl (by decide)) h.1 (hg _ _ _ _ _ h.2 p e R s m args below meth c cells slots Z H locs ls C T G P S L N)
  · exact h.elim
theorem v_irem (hz : y < 229) (hr : row y pc = some r) (hg : Gk u y K go) (ei : r.1 = .irem) (h : vi u go K y pc r lv st hi hl) : Wp u y pc lv st hi hl K := by
  simp only [vi, ei] at h
  unfold b2 at h
  split at h
  · intro p e R s m args below meth c cells slots Z H locs ls C T G P S L N
    exact lv_irem C.1 C.2.1 (rw_dec hz hr ei rfl rfl (by decide)) h.1 (hg _ _ _ _ _ h.2 p e R s m args below meth c cells slots Z H locs ls C T G P S L N)
  · exact h.elim
theorem v_ldiv (hz : y < 229) (hr : row y pc = some r) (hg : Gk u y K go) (ei : r.1 = .ldiv) (h : vi u go K y pc r lv st hi hl) : Wp u y pc lv st hi hl K := by
  simp only [vi, ei] at h
  unfold l2 at h
  split at h
  · intro p e R s m args below meth c cells slots Z H locs ls C T G P S L N
    exact lv_ldiv C.1 C.2.1 (rw_dec hz hr ei rfl rfl (by decide)) h.1 (hg _ _ _ _ _ h.2 p e R s m args below meth c cells slots Z H locs ls C T G P S L N)
  · exact h.elim
theorem v_lcmp (hz : y < 229) (hr : row y pc = some r) (hg : Gk u y K go) (ei : r.1 = .lcmp) (h : vi u go K y pc r lv st hi hl) : Wp u y pc lv st hi hl K := by
  simp only [vi, ei] at h
  unfold l2 at h
  split at h
  · intro p e R s m args below meth c cells slots Z H locs ls C T G P S L N
    exact W.lcmp C.1 C.2.1 (rw_dec hz hr ei rfl rfl (by decide)) (hg _ _ _ _ _ h p e R s m args below meth c cells slots Z H locs ls C T G P S L N)
  · exact h.elim
theorem v_lshl (hz : y < 229) (hr : row y pc = some r) (hg : Gk u y K go) (ei : r.1 = .lshl) (h : vi u go K y pc r lv st hi hl) : Wp u y pc lv st hi hl K := by
  simp only [vi, ei] at h
  unfold b1 at h
  split at h
  · unfold l1 at h
    split at h
    · intro p e R s m args below meth c cells slots Z H locs ls C T G P S L N
      exact lv_lshl C.1 C.2.1 (rw_dec hz hr ei rfl rfl (by decide)) rfl (hg _ _ _ _ _ h p e R s m args below meth c cells slots Z H locs ls C T G P S L N)
    · exact h.elim
  · exact h.elim
theorem v_i2l (hz : y < 229) (hr : row y pc = some r) (hg : Gk u y K go) (ei : r.1 = .i2l) (h : vi u go K y pc r lv st hi hl) : Wp u y pc lv st hi hl K := by
  simp only [vi, ei] at h
  unfold b1 at h
  split at h
  · intro p e R s m args below meth c cells slots Z H locs ls C T G P S L N
    exact lv_i2l C.1 C.2.1 (rw_dec hz hr ei rfl rfl (by decide)) rfl (hg _ _ _ _ _ h p e R s m args below meth c cells slots Z H locs ls C T G P S L N)
  · exact h.elim
theorem v_l2i (hz : y < 229) (hr : row y pc = some r) (hg : Gk u y K go) (ei : r.1 = .l2i) (h : vi u go K y pc r lv st hi hl) : Wp u y pc lv st hi hl K := by
  simp only [vi, ei] at h
  unfold l1 at h
  split at h
  · intro p e R s m args below meth c cells slots Z H locs ls C T G P S L N
    exact lv_l2i C.1 C.2.1 (rw_dec hz hr ei rfl rfl (by decide)) rfl (hg _ _ _ _ _ h p e R s m args below meth c cells slots Z H locs ls C T G P S L N)
  · exact h.elim
theorem v_i2b (hz : y < 229) (hr : row y pc = some r) (hg : Gk u y K go) (ei : r.1 = .i2b) (h : vi u go K y pc r lv st hi hl) : Wp u y pc lv st hi hl K := by
  simp only [vi, ei] at h
  unfold b1 at h
  split at h
  · intro p e R s m args below meth c cells slots Z H locs ls C T G P S L N
    exact lv_i2b C.1 C.2.1 (rw_dec hz hr ei rfl rfl (by decide)) rfl (hg _ _ _ _ _ h p e R s m args below meth c cells slots Z H locs ls C T G P S L N)
  · exact h.elim
theorem v_i2s (hz : y < 229) (hr : row y pc = some r) (hg : Gk u y K go) (ei : r.1 = .i2s) (h : vi u go K y pc r lv st hi hl) : Wp u y pc lv st hi hl K := by
  simp only [vi, ei] at h
  unfold b1 at h
  split at h
  · intro p e R s m args below meth c cells slots Z H locs ls C T G P S L N
    exact lv_i2s C.1 C.2.1 (rw_dec hz hr ei rfl rfl (by decide)) rfl (hg _ _ _ _ _ h p e R s m args below meth c cells slots Z H locs ls C T G P S L N)
  · exact h.elim
theorem v_i2c (hz : y < 229) (hr : row y pc = some r) (hg : Gk u y K go) (ei : r.1 = .i2c) (h : vi u go K y pc r lv st hi hl) : Wp u y pc lv st hi hl K := by
  simp only [vi, ei] at h
  unfold b1 at h
  split at h
  · intro p e R s m args below meth c cells slots Z H locs ls C T G P S L N
    exact lv_i2c C.1 C.2.1 (rw_dec hz hr ei rfl rfl (by decide)) rfl (hg _ _ _ _ _ h p e R s m args below meth c cells slots Z H locs ls C T G P S L N)
  · exact h.elim
theorem v_dup (hz : y < 229) (hr : row y pc = some r) (hg : Gk u y K go) (ei : r.1 = .dup) (h : vi u go K y pc r lv st hi hl) : Wp u y pc lv st hi hl K := by
  simp only [vi, ei] at h
  split at h
  · split at h
    · rename_i hc
      intro p e R s m args below meth c cells slots Z H locs ls C T G P S L N
      exact lv_dup C.1 C.2.1 (rw_dec hz hr ei rfl rfl (by decide)) (by rw [tv_cat C.2.2.2.2.2.2.1.2.2.2.2.2.2.2.2]; exact hc) (hg _ _ _ _ _ h p e R s m args below meth c cells slots Z H locs ls C T G P S L N)
    · exact h.elim
  · exact h.elim
theorem v_pop (hz : y < 229) (hr : row y pc = some r) (hg : Gk u y K go) (ei : r.1 = .pop) (h : vi u go K y pc r lv st hi hl) : Wp u y pc lv st hi hl K := by
  simp only [vi, ei] at h
  split at h
  · split at h
    · rename_i hc
      intro p e R s m args below meth c cells slots Z H locs ls C T G P S L N
      exact lv_pop C.1 C.2.1 (rw_dec hz hr ei rfl rfl (by decide)) (by rw [tv_cat C.2.2.2.2.2.2.1.2.2.2.2.2.2.2.2]; exact hc) (hg _ _ _ _ _ h p e R s m args below meth c cells slots Z H locs ls C T G P S L N)
    · exact h.elim
  · exact h.elim
theorem v_pop2 (hz : y < 229) (hr : row y pc = some r) (hg : Gk u y K go) (ei : r.1 = .pop2) (h : vi u go K y pc r lv st hi hl) : Wp u y pc lv st hi hl K := by
  simp only [vi, ei] at h
  split at h
  · split at h
    · rename_i hc
      intro p e R s m args below meth c cells slots Z H locs ls C T G P S L N
      exact lv_pop2_2 C.1 C.2.1 (rw_dec hz hr ei rfl rfl (by decide)) (by rw [tv_cat C.2.2.2.2.2.2.1.2.2.2.2.2.2.2.2]; exact hc) (hg _ _ _ _ _ h p e R s m args below meth c cells slots Z H locs ls C T G P S L N)
    · exact h.elim
  · exact h.elim
theorem v_dup2 (hz : y < 229) (hr : row y pc = some r) (hg : Gk u y K go) (ei : r.1 = .dup2) (h : vi u go K y pc r lv st hi hl) : Wp u y pc lv st hi hl K := by
  simp only [vi, ei] at h
  split at h
  · split at h
    · rename_i hc
      intro p e R s m args below meth c cells slots Z H locs ls C T G P S L N
      exact lv_dup2_11 C.1 C.2.1 (rw_dec hz hr ei rfl rfl (by decide)) (by rw [tv_cat C.2.2.2.2.2.2.1.2.2.2.2.2.2.2.2]; exact hc.1) (by rw [tv_cat C.2.2.2.2.2.2.1.2.2.2.2.2.2.2.2]; exact hc.2) (hg _ _ _ _ _ h p e R s m args below meth c cells slots Z H locs ls C T G P S L N)
    · exact h.elim
  · exact h.elim
theorem v_icmp_eq {off : Int} (hz : y < 229) (hr : row y pc = some r) (hg : Gk u y K go) (ei : r.1 = .if_icmp .eq off) (h : vi u go K y pc r lv st hi hl) : Wp u y pc lv st hi hl K := by
  simp only [vi, ei] at h
  unfold b2 at h
  split at h
  · intro p e R s m args below meth c cells slots Z H locs ls C T G P S L N
    exact lv_icmp_eq C.1 C.2.1 (rw_dec hz hr ei rfl rfl (by decide)) (rw_tgt hz hr (Or.inl ⟨_, ei⟩)) (fun q => hg _ _ _ _ _ (h.1 q) p e R s m args below meth c cells slots Z H locs ls C T G P S L N) (fun q => hg _ _ _ _ _ (h.2 q) p e R s m args below meth c cells slots Z H locs ls C T G P S L N)
  · exact h.elim
theorem v_if_eq {off : Int} (hz : y < 229) (hr : row y pc = some r) (hg : Gk u y K go) (ei : r.1 = .ifCond .eq off) (h : vi u go K y pc r lv st hi hl) : Wp u y pc lv st hi hl K := by
  simp only [vi, ei] at h
  unfold b1 at h
  split at h
  · intro p e R s m args below meth c cells slots Z H locs ls C T G P S L N
    exact lv_if_eq C.1 C.2.1 (rw_dec hz hr ei rfl rfl (by decide)) (rw_tgt hz hr (Or.inr (Or.inl ⟨_, ei⟩))) (fun q => hg _ _ _ _ _ (h.1 q) p e R s m args below meth c cells slots Z H locs ls C T G P S L N) (fun q => hg _ _ _ _ _ (h.2 q) p e R s m args below meth c cells slots Z H locs ls C T G P S L N)
  · exact h.elim
theorem v_icmp_ne {off : Int} (hz : y < 229) (hr : row y pc = some r) (hg : Gk u y K go) (ei : r.1 = .if_icmp .ne off) (h : vi u go K y pc r lv st hi hl) : Wp u y pc lv st hi hl K := by
  simp only [vi, ei] at h
  unfold b2 at h
  split at h
  · intro p e R s m args below meth c cells slots Z H locs ls C T G P S L N
    exact lv_icmp_ne C.1 C.2.1 (rw_dec hz hr ei rfl rfl (by decide)) (rw_tgt hz hr (Or.inl ⟨_, ei⟩)) (fun q => hg _ _ _ _ _ (h.1 q) p e R s m args below meth c cells slots Z H locs ls C T G P S L N) (fun q => hg _ _ _ _ _ (h.2 q) p e R s m args below meth c cells slots Z H locs ls C T G P S L N)
  · exact h.elim
theorem v_if_ne {off : Int} (hz : y < 229) (hr : row y pc = some r) (hg : Gk u y K go) (ei : r.1 = .ifCond .ne off) (h : vi u go K y pc r lv st hi hl) : Wp u y pc lv st hi hl K := by
  simp only [vi, ei] at h
  unfold b1 at h
  split at h
  · intro p e R s m args below meth c cells slots Z H locs ls C T G P S L N
    exact lv_if_ne C.1 C.2.1 (rw_dec hz hr ei rfl rfl (by decide)) (rw_tgt hz hr (Or.inr (Or.inl ⟨_, ei⟩))) (fun q => hg _ _ _ _ _ (h.1 q) p e R s m args below meth c cells slots Z H locs ls C T G P S L N) (fun q => hg _ _ _ _ _ (h.2 q) p e R s m args below meth c cells slots Z H locs ls C T G P S L N)
  · exact h.elim
theorem v_icmp_lt {off : Int} (hz : y < 229) (hr : row y pc = some r) (hg : Gk u y K go) (ei : r.1 = .if_icmp .lt off) (h : vi u go K y pc r lv st hi hl) : Wp u y pc lv st hi hl K := by
  simp only [vi, ei] at h
  unfold b2 at h
  split at h
  · intro p e R s m args below meth c cells slots Z H locs ls C T G P S L N
    exact lv_icmp_lt C.1 C.2.1 (rw_dec hz hr ei rfl rfl (by decide)) (rw_tgt hz hr (Or.inl ⟨_, ei⟩)) (fun q => hg _ _ _ _ _ (h.1 q) p e R s m args below meth c cells slots Z H locs ls C T G P S L N) (fun q => hg _ _ _ _ _ (h.2 q) p e R s m args below meth c cells slots Z H locs ls C T G P S L N)
  · exact h.elim
theorem v_if_lt {off : Int} (hz : y < 229) (hr : row y pc = some r) (hg : Gk u y K go) (ei : r.1 = .ifCond .lt off) (h : vi u go K y pc r lv st hi hl) : Wp u y pc lv st hi hl K := by
  simp only [vi, ei] at h
  unfold b1 at h
  split at h
  · intro p e R s m args below meth c cells slots Z H locs ls C T G P S L N
    exact lv_if_lt C.1 C.2.1 (rw_dec hz hr ei rfl rfl (by decide)) (rw_tgt hz hr (Or.inr (Or.inl ⟨_, ei⟩))) (fun q => hg _ _ _ _ _ (h.1 q) p e R s m args below meth c cells slots Z H locs ls C T G P S L N) (fun q => hg _ _ _ _ _ (h.2 q) p e R s m args below meth c cells slots Z H locs ls C T G P S L N)
  · exact h.elim
theorem v_icmp_ge {off : Int} (hz : y < 229) (hr : row y pc = some r) (hg : Gk u y K go) (ei : r.1 = .if_icmp .ge off) (h : vi u go K y pc r lv st hi hl) : Wp u y pc lv st hi hl K := by
  simp only [vi, ei] at h
  unfold b2 at h
  split at h
  · intro p e R s m args below meth c cells slots Z H locs ls C T G P S L N
    exact lv_icmp_ge C.1 C.2.1 (rw_dec hz hr ei rfl rfl (by decide)) (rw_tgt hz hr (Or.inl ⟨_, ei⟩)) (fun q => hg _ _ _ _ _ (h.1 q) p e R s m args below meth c cells slots Z H locs ls C T G P S L N) (fun q => hg _ _ _ _ _ (h.2 q) p e R s m args below meth c cells slots Z H locs ls C T G P S L N)
  · exact h.elim
theorem v_if_ge {off : Int} (hz : y < 229) (hr : row y pc = some r) (hg : Gk u y K go) (ei : r.1 = .ifCond .ge off) (h : vi u go K y pc r lv st hi hl) : Wp u y pc lv st hi hl K := by
  simp only [vi, ei] at h
  unfold b1 at h
  split at h
  · intro p e R s m args below meth c cells slots Z H locs ls C T G P S L N
    exact lv_if_ge C.1 C.2.1 (rw_dec hz hr ei rfl rfl (by decide)) (rw_tgt hz hr (Or.inr (Or.inl ⟨_, ei⟩))) (fun q => hg _ _ _ _ _ (h.1 q) p e R s m args below meth c cells slots Z H locs ls C T G P S L N) (fun q => hg _ _ _ _ _ (h.2 q) p e R s m args below meth c cells slots Z H locs ls C T G P S L N)
  · exact h.elim
theorem v_icmp_gt {off : Int} (hz : y < 229) (hr : row y pc = some r) (hg : Gk u y K go) (ei : r.1 = .if_icmp .gt off) (h : vi u go K y pc r lv st hi hl) : Wp u y pc lv st hi hl K := by
  simp only [vi, ei] at h
  unfold b2 at h
  split at h
  · intro p e R s m args below meth c cells slots Z H locs ls C T G P S L N
    exact lv_icmp_gt C.1 C.2.1 (rw_dec hz hr ei rfl rfl (by decide)) (rw_tgt hz hr (Or.inl ⟨_, ei⟩)) (fun q => hg _ _ _ _ _ (h.1 q) p e R s m args below meth c cells slots Z H locs ls C T G P S L N) (fun q => hg _ _ _ _ _ (h.2 q) p e R s m args below meth c cells slots Z H locs ls C T G P S L N)
  · exact h.elim
theorem v_if_gt {off : Int} (hz : y < 229) (hr : row y pc = some r) (hg : Gk u y K go) (ei : r.1 = .ifCond .gt off) (h : vi u go K y pc r lv st hi hl) : Wp u y pc lv st hi hl K := by
  simp only [vi, ei] at h
  unfold b1 at h
  split at h
  · intro p e R s m args below meth c cells slots Z H locs ls C T G P S L N
    exact lv_if_gt C.1 C.2.1 (rw_dec hz hr ei rfl rfl (by decide)) (rw_tgt hz hr (Or.inr (Or.inl ⟨_, ei⟩))) (fun q => hg _ _ _ _ _ (h.1 q) p e R s m args below meth c cells slots Z H locs ls C T G P S L N) (fun q => hg _ _ _ _ _ (h.2 q) p e R s m args below meth c cells slots Z H locs ls C T G P S L N)
  · exact h.elim
theorem v_icmp_le {off : Int} (hz : y < 229) (hr : row y pc = some r) (hg : Gk u y K go) (ei : r.1 = .if_icmp .le off) (h : vi u go K y pc r lv st hi hl) : Wp u y pc lv st hi hl K := by
  simp only [vi, ei] at h
  unfold b2 at h
  split at h
  · intro p e R s m args below meth c cells slots Z H locs ls C T G P S L N
    exact lv_icmp_le C.1 C.2.1 (rw_dec hz hr ei rfl rfl (by decide)) (rw_tgt hz hr (Or.inl ⟨_, ei⟩)) (fun q => hg _ _ _ _ _ (h.1 q) p e R s m args below meth c cells slots Z H locs ls C T G P S L N) (fun q => hg _ _ _ _ _ (h.2 q) p e R s m args below meth c cells slots Z H locs ls C T G P S L N)
  · exact h.elim
theorem v_if_le {off : Int} (hz : y < 229) (hr : row y pc = some r) (hg : Gk u y K go) (ei : r.1 = .ifCond .le off) (h : vi u go K y pc r lv st hi hl) : Wp u y pc lv st hi hl K := by
  simp only [vi, ei] at h
  unfold b1 at h
  split at h
  · intro p e R s m args below meth c cells slots Z H locs ls C T G P S L N
    exact lv_if_le C.1 C.2.1 (rw_dec hz hr ei rfl rfl (by decide)) (rw_tgt hz hr (Or.inr (Or.inl ⟨_, ei⟩))) (fun q => hg _ _ _ _ _ (h.1 q) p e R s m args below meth c cells slots Z H locs ls C T G P S L N) (fun q => hg _ _ _ _ _ (h.2 q) p e R s m args below meth c cells slots Z H locs ls C T G P S L N)
  · exact h.elim
theorem v_goto {off : Int} (hz : y < 229) (hr : row y pc = some r) (hg : Gk u y K go) (ei : r.1 = .goto off) (h : vi u go K y pc r lv st hi hl) : Wp u y pc lv st hi hl K := by
  simp only [vi, ei] at h
  intro p e R s m args below meth c cells slots Z H locs ls C T G P S L N
  exact lv_goto C.1 C.2.1 (rw_dec hz hr ei rfl rfl (by decide)) (rw_tgt hz hr (Or.inr (Or.inr ei))) (hg _ _ _ _ _ h p e R s m args below meth c cells slots Z H locs ls C T G P S L N)
end VV
/-! 08.sound2 -/
def nsp (ins : Instr) : Bool := match ins with
  | .new _ => false
  | .anewarray _ => false
  | .newarray _ => false
  | .invokespecial _ => false
  | _ => true
theorem hsplit (h n : Nat) (q : n ≤ h) : ∃ j, h = n + j := ⟨h - n, by omega⟩
theorem fs_w : ∀ w ∈ (FLT.filter (fun q => q.2.1 == 15)).map (fun q => Cond.fieldLink (cN (q.1 / 10000)) (q.1 % 10000) "java/lang/String" (if q.2.2 = 0 then "value" else "coder") (if q.2.2 = 0 then "[B" else "B")), w ∈ lw_tbl := sbq_ok lw_tbl _ (by decide +kernel)
theorem fs_b : ∀ q ∈ FLT, q.2.1 = 15 → q.2.2 = 0 ∨ q.2.2 = 1 := by decide +kernel
theorem zl_w : ∀ w ∈ [Cond.fieldLink "java/lang/String" 38 "java/lang/String" "COMPACT_STRINGS" "Z", Cond.fieldLink "java/lang/String" 1053 "jdk/internal/util/Preconditions" "SIOOBE_FORMATTER" "Ljava/util/function/BiFunction;"], w ∈ lw_tbl := sbq_ok lw_tbl _ (by decide +kernel)
theorem lay_good (C : String) (T : u_T) (k : Nat) : goodWord (u_lay C T k) = true := by
  unfold u_lay
  split <;> rfl
theorem us_in {C : String} {T : u_T} {N : Nat} (h : ∀ w ∈ u_ws C T N, w ∈ lw_tbl) : ∀ w ∈ u_ws C T N, w ∈ TBL := by
  intro w hw
  refine inTBL (h w hw) ?_
  obtain ⟨k, -, rfl⟩ := List.mem_map.mp hw
  exact lay_good C T k
theorem zC_ok {ci : Nat} (h : ci < 8) : zCl[ci]? = some (zC ci) ∧ (∀ w ∈ u_ws (zC ci).1 (zC ci).2.1 (zC ci).2.2, w ∈ TBL) ∧ (∀ k, k < (zC ci).2.2 → parseFieldDescriptor ((zC ci).2.1 k).2.2.1 = some (zty ci k)) ∧ (∀ a, a < (zC ci).2.2 → ∀ b, b < (zC ci).2.2 → a ≠ b → ((zC ci).2.1 a).2.1 ≠ ((zC ci).2.1 b).2.1) ∧ (zC ci).2.2 = nfL.getD ci 0 ∧ (zC ci).1 = cN ci := by
  match ci, h with
  | 0, _ => exact ⟨rfl, us_in zw0, zo0, zn0, rfl, rfl⟩
  | 1, _ => exact ⟨rfl, us_in zw1, zo1, zn1, rfl, rfl⟩
  | 2, _ => exact ⟨rfl, us_in zw2, zo2, zn2, rfl, rfl⟩
  | 3, _ => exact ⟨rfl, us_in zw3, zo3, zn3, rfl, rfl⟩
  | 4, _ => exact ⟨rfl, us_in zw4, zo4, zn4, rfl, rfl⟩
  | 5, _ => exact ⟨rfl, us_in zw5, zo5, zn5, rfl, rfl⟩
  | 6, _ => exact ⟨rfl, us_in zw6, zo6, zn6, rfl, rfl⟩
  | 7, _ => exact ⟨rfl, us_in zw7, zo7, zn7, rfl, rfl⟩
theorem zC_fin : ∀ ci, ci < 8 → ∀ k, k < nfL.getD ci 0 → rt ci k = false → ((zC ci).2.1 k).2.2.2 = false ∧ zty ci k = (if bz ci k = true then .boolean else .int) := by decide +kernel
theorem fl_at {o i ci k : Nat} (hi : i < 10000) (h : lk FLT o i = some (ci, k)) (hc : ¬ ci = 15) : ci < 8 ∧ k < (zC ci).2.2 ∧ ((zC ci).2.1 k).1 = (zC ci).1 ∧ Cond.fieldLink (cN o) i (zC ci).1 ((zC ci).2.1 k).2.1 ((zC ci).2.1 k).2.2.1 ∈ TBL := by
  have hm := lk_mem h
  have hb := List.all_eq_true.mp fl_b _ hm
  simp only [flB, Bool.or_eq_true, Bool.and_eq_true, decide_eq_true_eq, beq_iff_eq] at hb
  rcases hb with hb | ⟨h1, h2, h3⟩
  · exact absurd hb hc
  · have hw := fl_w _ (List.mem_map.mpr ⟨_, List.mem_filter.mpr ⟨hm, by simpa using hc⟩, rfl⟩)
    unfold flW at hw
    dsimp only at hw
    rw [(key_d hi).1, (key_d hi).2] at hw
    exact ⟨h1, h2, h3, inTBL hw rfl⟩
section VW
variable {u : UV} {y pc : Nat} {r : Row} {lv st : List Value} {hi : HI} {hl : HL} {K : Option Value → HI → HL → Prop} {go : Nat → List Value → List Value → HI → HL → Prop}
theorem pl_of (hz : y < 229) (hr : row y pc = some r) {ins : Instr} (ei : r.1 = ins) (hs : nsp ins = true) : ipl ins < 10000 := by
  subst ei
  exact rw_pl hz hr (by revert hs; cases r.1 <;> simp [nsp])

theorem v_ldc {i : Nat} (hz : y < 229) (hr : row y pc = some r) (hg : Gk u y K go) (ei : r.1 = .ldc i) (h : vi u go K y pc r lv st hi hl) : Wp u y pc lv st hi hl K := by
  simp only [vi, ei] at h
  have hp : i < 10000 := pl_of hz hr ei rfl
  split at h
  · rename_i v hv
    have hw := zc_all _ (List.mem_map.mpr ⟨_, lk_mem hv, rfl⟩)
    dsimp only at hw
    rw [(key_d hp).1, (key_d hp).2] at hw
    intro p e R s m args below meth c cells slots Z H locs ls C T G P S L N
    exact lv_ldc C.1 C.2.1 C.2.2.2.2.1 (C.2.2.2.2.2.1 _ (inTBL hw rfl)) (rw_dec hz hr ei rfl rfl (by decide)) (hg _ _ _ _ _ h p e R s m args below meth c cells slots Z H locs ls C T G P S L N)
  · split at h
    · rename_i n hn
      intro p e R s m args below meth c cells slots Z H locs ls C T G P S L N
      have hq := C.2.2.2.2.2.2.1.2.2.2.2.2.2.1 _ (lk_mem hn)
      dsimp only at hq
      rw [(key_d hp).1, (key_d hp).2] at hq
      exact va_ldcS C.1 C.2.1 C.2.2.2.2.1 hq (rw_dec hz hr ei rfl rfl (by decide)) (hg _ _ _ _ _ h p e R s m args below meth c cells slots Z H locs ls C T G P S L N)
    · exact h.elim
theorem vx_ldcw {p : Program} {l : Launch} {e : Env} {R : Room} {s : State} {m : MethodId} {args : Array Value} {below : List Frame} {meth : Method} {c : Code} {H : Heap} {locs : List Loc} {cells slots : Nat} {Q : State → Prop} {cc : ByteArray} {pc : Nat} {ls : Array Slot} {rest : List Value} (hexec : p.tables.exec = Jvm.exec) (hb : c.code = cc) {own tx : String} {index q : Nat} (hown : s.vm.findClass own = some m.cls) (hZ : vk_R own index tx q s) (hdg : decode cc pc = .ok (.ldc_w index, 3))
    (k : W p l e R s m args below meth c H locs cells slots Q (F0 m (pc + 3) ls (.ref q :: rest))) : W p l e R s m args below meth c H locs cells slots Q (F0 m pc ls rest) := by
  intro T hT X
  obtain ⟨t, a1, b1⟩ := k T hT X
  refine ⟨t, ?_, b1⟩
  obtain ⟨k, cf, i, a', hk, hcf, hcp, -, hr, hev'⟩ := Cond.stringRef_spec hown hZ.1
  cases hZ.2.symm.trans hev'
  obtain ⟨k', hk', he⟩ := X.warmed.alike.2.2 _ _ hk
  have hr' : k'.resolved[index]? = some (some (.string q)) := by
    rcases X.warmed.entry hk hk' index with h | ⟨h, -⟩
    · rw [h]; exact hr
    · rw [hr] at h; cases h
  jvm_step X.here [hexec, hb, hdg, ldc_w.wp_string (e := e) (s := T) (f := F0 m pc ls rest) X.here.top hk' (by rw [he]; exact hcf) hcp hr']
  exact a1
theorem v_ldc_w {i : Nat} (hz : y < 229) (hr : row y pc = some r) (hg : Gk u y K go) (ei : r.1 = .ldc_w i) (h : vi u go K y pc r lv st hi hl) : Wp u y pc lv st hi hl K := by
  simp only [vi, ei] at h
  have hp : i < 10000 := pl_of hz hr ei rfl
  split at h
  · rename_i v hv
    have hw := zc_all _ (List.mem_map.mpr ⟨_, lk_mem hv, rfl⟩)
    dsimp only at hw
    rw [(key_d hp).1, (key_d hp).2] at hw
    intro p e R s m args below meth c cells slots Z H locs ls C T G P S L N
    exact lv_ldcw C.1 C.2.1 C.2.2.2.2.1 (C.2.2.2.2.2.1 _ (inTBL hw rfl)) (rw_dec hz hr ei rfl rfl (by decide)) (hg _ _ _ _ _ h p e R s m args below meth c cells slots Z H locs ls C T G P S L N)
  · split at h
    · rename_i n hn
      intro p e R s m args below meth c cells slots Z H locs ls C T G P S L N
      have hq := C.2.2.2.2.2.2.1.2.2.2.2.2.2.1 _ (lk_mem hn)
      dsimp only at hq
      rw [(key_d hp).1, (key_d hp).2] at hq
      exact vx_ldcw C.1 C.2.1 C.2.2.2.2.1 hq (rw_dec hz hr ei rfl rfl (by decide)) (hg _ _ _ _ _ h p e R s m args below meth c cells slots Z H locs ls C T G P S L N)
    · exact h.elim
theorem v_ldc2_w {i : Nat} (hz : y < 229) (hr : row y pc = some r) (hg : Gk u y K go) (ei : r.1 = .ldc2_w i) (h : vi u go K y pc r lv st hi hl) : Wp u y pc lv st hi hl K := by
  simp only [vi, ei] at h
  have hp : i < 10000 := pl_of hz hr ei rfl
  split at h
  · rename_i v hv
    have hw := zl_all _ (List.mem_map.mpr ⟨_, lk_mem hv, rfl⟩)
    dsimp only at hw
    rw [(key_d hp).1, (key_d hp).2] at hw
    intro p e R s m args below meth c cells slots Z H locs ls C T G P S L N
    exact lv_ldc2 C.1 C.2.1 C.2.2.2.2.1 (C.2.2.2.2.2.1 _ (inTBL hw rfl)) (rw_dec hz hr ei rfl rfl (by decide)) (hg _ _ _ _ _ h p e R s m args below meth c cells slots Z H locs ls C T G P S L N)
  · exact h.elim
theorem swd_of {x : Int32} : ∀ (l : List (Int32 × Nat)), (∀ j, j < l.length → ¬ x = (l.getD j (0, 0)).1) → swd x l
  | [], _ => trivial
  | q :: l, h => ⟨h 0 (by simp), swd_of l (fun j hj => by have := h (j + 1) (by simp; omega); simpa using this)⟩
theorem swc_at {x : Int32} {g : Nat → Prop} : ∀ (l : List (Int32 × Nat)), swc x g l → ∀ j, j < l.length → x = (l.getD j (0, 0)).1 → g (l.getD j (0, 0)).2
  | [], _, j, hj, _ => by simp at hj
  | q :: l, h, 0, _, e => h.1 (by simpa using e)
  | q :: l, h, j + 1, hj, e => by
    have := swc_at l h.2 j (by simp at hj; omega) (by simpa using e)
    simpa using this
theorem i32_of {x : Int32} {z : Int} (h : x.toInt = z) : x = Int32.ofInt z := by rw [← h, Int32.ofInt_toInt]
theorem i32_ne {x : Int32} {z : Int} (h1 : -2147483648 ≤ z) (h2 : z ≤ 2147483647) (h : x.toInt ≠ z) : ¬ x = Int32.ofInt z := by
  intro e
  apply h
  rw [e, Int32.toInt_ofInt]
  exact Int.bmod_eq_of_le (by simpa using h1) (by simpa using (by omega : z < 2147483648))
theorem v_tableswitch {d lo hi2 : Int} {offs : Array Int} (hz : y < 229) (hr : row y pc = some r) (hg : Gk u y K go) (ei : r.1 = .tableswitch d lo hi2 offs) (h : vi u go K y pc r lv st hi hl) : Wp u y pc lv st hi hl K := by
  simp only [vi, ei] at h
  have h1 := dcOk hz hr
  unfold rwOk at h1
  rw [Bool.and_eq_true, decide_eq_true_eq] at h1
  obtain ⟨i0, l0, t0, sw⟩ := r
  dsimp only at ei h h1
  subst ei
  obtain ⟨hd, hsw⟩ := h1
  unfold swOk at hsw
  dsimp only at hsw hd
  simp only [Bool.and_eq_true, decide_eq_true_eq] at hsw
  obtain ⟨e1, e2, ⟨e3, e4⟩, e5, e6⟩ := hsw
  unfold b1 at h
  split at h
  · rename_i x s0
    intro p e R s m args below meth c cells slots Z H locs ls C T G P S L N
    by_cases hx : x.toInt < lo ∨ hi2 < x.toInt
    · refine lv_tableOut C.1 C.2.1 hd hx e1 (hg _ _ _ _ _ (h.1 (swd_of sw (fun j hj => ?_))) p e R s m args below meth c cells slots Z H locs ls C T G P S L N)
      have h6 := List.all_eq_true.mp e6 j (List.mem_range.mpr hj)
      rw [decide_eq_true_eq] at h6
      rw [h6.1]
      exact i32_ne (by omega) (by omega) (by omega)
    · have hx1 : ¬ x.toInt < lo := fun q => hx (Or.inl q)
      have hx2 : ¬ hi2 < x.toInt := fun q => hx (Or.inr q)
      have hj : (x.toInt - lo).toNat < sw.length := by omega
      have h6 := List.all_eq_true.mp e6 _ (List.mem_range.mpr hj)
      rw [decide_eq_true_eq] at h6
      have ho : offs[(x.toInt - lo).toNat]? = some (offs.getD (x.toInt - lo).toNat 0) := by
        rw [Array.getD_eq_getD_getElem?, Array.getElem?_eq_getElem (by omega)]
        rfl
      refine lv_tableIn C.1 C.2.1 hd hx1 hx2 ho h6.2 (hg _ _ _ _ _ (swc_at sw h.2 _ hj ?_) p e R s m args below meth c cells slots Z H locs ls C T G P S L N)
      rw [h6.1]
      exact i32_of (by omega)
  · exact h.elim
theorem v_getfield {i : Nat} (hz : y < 229) (hr : row y pc = some r) (hg : Gk u y K go) (ei : r.1 = .getfield i) (h : vi u go K y pc r lv st hi hl) : Wp u y pc lv st hi hl K := by
  simp only [vi, ei] at h
  have hp : i < 10000 := pl_of hz hr ei rfl
  unfold r1 at h
  split at h
  · rename_i h0 s0
    split at h
    · rename_i ci k hk
      split at h
      · rename_i h15
        subst h15
        obtain ⟨⟨ha, hb⟩, h⟩ := h
        obtain ⟨j, rfl⟩ := hsplit h0 100 ha
        have hj : j < 16 := by have hb' : (100 + j : Nat) < 116 := hb; omega
        have hw := fs_w _ (List.mem_map.mpr ⟨_, List.mem_filter.mpr ⟨lk_mem hk, by simp⟩, rfl⟩)
        have hk2 := fs_b _ (lk_mem hk) rfl
        dsimp only at hw hk2
        rw [(key_d hp).1, (key_d hp).2] at hw
        intro p e R s m args below meth c cells slots Z H locs ls C T G P S L N
        have hV := (C.2.2.2.2.2.2.1.2.2.2.1.1 j hj)
        rcases hk2 with rfl | rfl
        · refine vk_getf C.1 C.2.1 hV.2.2.1 S C.2.2.2.2.1 (C.2.2.2.2.2.1 _ (inTBL hw rfl)) (fun x q => q) (rw_dec hz hr ei rfl rfl (by decide)) ?_
          have h := hg _ _ _ _ _ h p e R s m args below meth c cells slots Z H locs ls C T G P S L N
          rw [if_pos rfl, show (100 + j + 100 : Nat) = 200 + j by omega] at h
          exact h
        · refine vk_getf C.1 C.2.1 hV.2.1 S C.2.2.2.2.1 (C.2.2.2.2.2.1 _ (inTBL hw rfl)) (fun x q => q) (rw_dec hz hr ei rfl rfl (by decide)) ?_
          exact hg _ _ _ _ _ h p e R s m args below meth c cells slots Z H locs ls C T G P S L N
      · rename_i h15
        obtain ⟨f1, f2, f3, f4⟩ := fl_at hp hk h15
        obtain ⟨z1, z2, z3, z4, z5, z6⟩ := zC_ok f1
        obtain ⟨hkd, h⟩ := h
        intro p e R s m args below meth c cells slots Z H locs ls C T G P S L N
        refine va_get C.1 C.2.1 C.2.2.2.2.2.1 z2 C.2.2.2.2.1 C.2.2.2.2.2.2.1.1 P h0 (fs := fds u hi h0 ci) (ci := ci) (by rw [wd_at (by omega), en_o hkd f1]) z1 k f2 (C.2.2.2.2.2.1 _ f4) (fun x q => by rw [f3] at q; exact q) (fds_at (by rw [← z5]; exact f2)) (rw_dec hz hr ei rfl rfl (by decide)) ?_
        have h := hg _ _ _ _ _ h p e R s m args below meth c cells slots Z H locs ls C T G P S L N
        by_cases hrt : rt ci k = true
        · rw [if_pos hrt] at h ⊢
          exact h
        · rw [if_neg hrt] at h ⊢
          exact h
    · exact h.elim
  · exact h.elim
theorem v_putfield {i : Nat} (hz : y < 229) (hr : row y pc = some r) (hg : Gk u y K go) (ei : r.1 = .putfield i) (h : vi u go K y pc r lv st hi hl) : Wp u y pc lv st hi hl K := by
  simp only [vi, ei] at h
  have hp : i < 10000 := pl_of hz hr ei rfl
  unfold b1 at h
  split at h
  · rename_i v s0
    unfold r1 at h
    split at h
    · rename_i h0 s1
      split at h
      · rename_i ci k hk
        split at h
        · rename_i hc
          obtain ⟨hc, hc8⟩ := hc
          obtain ⟨f1, f2, f3, f4⟩ := fl_at hp hk (by omega)
          obtain ⟨z1, z2, z3, z4, z5, z6⟩ := zC_ok f1
          obtain ⟨hkd, hbv, h⟩ := h
          have hk' : k < nfL.getD ci 0 := by rw [← z5]; exact f2
          obtain ⟨q1, q2⟩ := zC_fin ci f1 k hk' hc
          intro p e R s m args below meth c cells slots Z H locs ls C T G P S L N
          have hne : kd h0 ≠ 14 := by omega
          refine va_put C.1 C.2.1 C.2.2.2.2.2.1 z2 (zty ci) z3 z4 C.2.2.2.2.1 C.2.2.2.2.2.2.1.1 P (wd_D C.2.2.2.2.2.2.1 hi hl) S h0 (fs := fds u hi h0 ci) (ci := ci) (by rw [wd_at hne, en_o hkd f1]) z1 k f2 (C.2.2.2.2.2.1 _ f4) (fun x q => by rw [f3] at q; exact q) q1 (ty := zty ci k) (v := .int v) (z3 k f2) ?_ ?_ ?_ (rw_dec hz hr ei rfl rfl (by decide)) (fun H1 locs1 P1 _ S1 => ?_)
          · rw [q2]
            by_cases hz1 : bz ci k = true
            · rw [if_pos hz1] at hbv ⊢
              rcases hbv with rfl | rfl <;> rfl
            · rw [if_neg hz1]; rfl
          · rw [q2]
            by_cases hz1 : bz ci k = true
            · rw [if_pos hz1] at hbv ⊢
              rcases hbv with rfl | rfl <;> rfl
            · rw [if_neg hz1]; rfl
          · unfold fds; rw [List.length_map, List.length_range]; exact hk'
          · rw [wd_set (hi' := up2 hi h0 k v) (hl' := hl) hne (by rw [en_o hkd f1, fds_set hk' hc]) (fun j hj => up2_ne hj) (fun _ _ => rfl)] at P1
            exact hg _ _ _ _ _ h p e R s m args below meth c cells slots Z H1 locs1 ls C T G P1 S1 L N
        · exact h.elim
      · exact h.elim
    · exact h.elim
  · exact h.elim
theorem v_getstatic {i : Nat} (hz : y < 229) (hr : row y pc = some r) (hg : Gk u y K go) (ei : r.1 = .getstatic i) (h : vi u go K y pc r lv st hi hl) : Wp u y pc lv st hi hl K := by
  simp only [vi, ei] at h
  split at h
  · rename_i ho
    split at h
    · rename_i h1
      subst h1
      intro p e R s m args below meth c cells slots Z H locs ls C T G P S L N
      have ho2 : cN (mO y) = "java/lang/String" := by rw [ho]; rfl
      refine va_gets C.1 C.2.1 C.2.2.2.2.2.2.1.2.2.2.2.1 S C.2.2.2.2.1 (C.2.2.2.2.2.1 _ (inTBL (by rw [ho2]; exact zl_w _ List.mem_cons_self) rfl)) (fun x q => q) (rw_dec hz hr ei rfl rfl (by decide)) (hg _ _ _ _ _ h p e R s m args below meth c cells slots Z H locs ls C T G P S L N)
    · split at h
      · rename_i h1
        subst h1
        intro p e R s m args below meth c cells slots Z H locs ls C T G P S L N
        have ho2 : cN (mO y) = "java/lang/String" := by rw [ho]; rfl
        refine va_gets C.1 C.2.1 C.2.2.2.2.2.2.1.2.2.2.2.2.1 S C.2.2.2.2.1 (C.2.2.2.2.2.1 _ (inTBL (by rw [ho2]; exact zl_w _ (List.mem_cons_of_mem _ List.mem_cons_self)) rfl)) (fun x q => q) (rw_dec hz hr ei rfl rfl (by decide)) (hg _ _ _ _ _ h p e R s m args below meth c cells slots Z H locs ls C T G P S L N)
      · exact h.elim
  · exact h.elim
theorem v_arraylength (hz : y < 229) (hr : row y pc = some r) (hg : Gk u y K go) (ei : r.1 = .arraylength) (h : vi u go K y pc r lv st hi hl) : Wp u y pc lv st hi hl K := by
  simp only [vi, ei] at h
  unfold r1 at h
  split at h
  · rename_i h0 s0
    intro p e R s m args below meth c cells slots Z H locs ls C T G P S L N
    split at h
    · obtain ⟨rfl, h⟩ := h
      have hV := C.2.2.2.2.2.2.1.2.2.1
      exact va_slen C.1 C.2.1 hV.1 hV.2.1 hV.2.2 S (rw_dec hz hr ei rfl rfl (by decide)) (hg _ _ _ _ _ h p e R s m args below meth c cells slots Z H locs ls C T G P S L N)
    · split at h
      · obtain ⟨⟨ha, hb⟩, h⟩ := h
        obtain ⟨j, rfl⟩ := hsplit h0 200 ha
        have hj : j < 16 := by have hb' : (200 + j : Nat) < 216 := hb; omega
        have hV := (C.2.2.2.2.2.2.1.2.2.2.1.1 j hj).2.2.2
        have h := hg _ _ _ _ _ h p e R s m args below meth c cells slots Z H locs ls C T G P S L N
        rw [show (200 + j - 200 : Nat) = j by omega] at h
        exact va_tlen C.1 C.2.1 hV S rfl (rw_dec hz hr ei rfl rfl (by decide)) h
      · obtain ⟨⟨ha, hb⟩, h⟩ := h
        obtain ⟨x, hx, hx2⟩ := en_arr (u := u) (hi := hi) (hl := hl) ha hb
        obtain ⟨ty, hty⟩ := ty_at (u := u) ha hb
        exact va_alen C.1 C.2.1 C.2.2.2.2.2.2.1.1 P h0 (kd h0 - 8) (by rw [wd_at (by omega), hx]) hty (by rw [hx2]) (rw_dec hz hr ei rfl rfl (by decide)) (hg _ _ _ _ _ h p e R s m args below meth c cells slots Z H locs ls C T G P S L N)
  · exact h.elim
theorem v_iaload (hz : y < 229) (hr : row y pc = some r) (hg : Gk u y K go) (ei : r.1 = .iaload) (h : vi u go K y pc r lv st hi hl) : Wp u y pc lv st hi hl K := by
  simp only [vi, ei] at h
  unfold ra at h
  split at h
  · rename_i i0 h0 s0
    intro p e R s m args below meth c cells slots Z H locs ls C T G P S L N
    split at h
    · obtain ⟨⟨rfl, hin⟩, h⟩ := h
      have hV := C.2.2.2.2.2.2.1.2.2.1
      exact va_sld C.1 C.2.1 hV.1 hV.2.1 hV.2.2 S hin (rw_dec hz hr ei rfl rfl (by decide)) (hg _ _ _ _ _ h p e R s m args below meth c cells slots Z H locs ls C T G P S L N)
    · obtain ⟨⟨hkd, hin⟩, h⟩ := h
      exact va_iald C.1 C.2.1 C.2.2.2.2.2.2.1.1 P h0 0 (by rw [wd_at (by omega), en_i hkd]) rfl hin (rw_dec hz hr ei rfl rfl (by decide)) (hg _ _ _ _ _ h p e R s m args below meth c cells slots Z H locs ls C T G P S L N)
  · exact h.elim
theorem v_baload (hz : y < 229) (hr : row y pc = some r) (hg : Gk u y K go) (ei : r.1 = .baload) (h : vi u go K y pc r lv st hi hl) : Wp u y pc lv st hi hl K := by
  simp only [vi, ei] at h
  unfold ra at h
  split at h
  · rename_i i0 h0 s0
    intro p e R s m args below meth c cells slots Z H locs ls C T G P S L N
    split at h
    · obtain ⟨⟨⟨ha, hb⟩, hin⟩, h⟩ := h
      obtain ⟨j, rfl⟩ := hsplit h0 200 ha
      have hj : j < 16 := by have hb' : (200 + j : Nat) < 216 := hb; omega
      have hV := (C.2.2.2.2.2.2.1.2.2.2.1.1 j hj).2.2.2
      have h := hg _ _ _ _ _ h p e R s m args below meth c cells slots Z H locs ls C T G P S L N
      rw [show (200 + j - 200 : Nat) = j by omega] at h hin
      exact va_tb C.1 C.2.1 hV S hin rfl (rw_dec hz hr ei rfl rfl (by decide)) h
    · obtain ⟨⟨hkd, hin⟩, h⟩ := h
      exact va_bald C.1 C.2.1 C.2.2.2.2.2.2.1.1 P h0 1 (by rw [wd_at (by omega), en_b hkd]) rfl hin (rw_dec hz hr ei rfl rfl (by decide)) (hg _ _ _ _ _ h p e R s m args below meth c cells slots Z H locs ls C T G P S L N)
  · exact h.elim
theorem v_laload (hz : y < 229) (hr : row y pc = some r) (hg : Gk u y K go) (ei : r.1 = .laload) (h : vi u go K y pc r lv st hi hl) : Wp u y pc lv st hi hl K := by
  simp only [vi, ei] at h
  unfold ra at h
  split at h
  · rename_i i0 h0 s0
    intro p e R s m args below meth c cells slots Z H locs ls C T G P S L N
    obtain ⟨⟨hkd, hin⟩, h⟩ := h
    exact va_lald C.1 C.2.1 C.2.2.2.2.2.2.1.1 P h0 2 (by rw [wd_at (by omega), en_l hkd]) rfl hin (rw_dec hz hr ei rfl rfl (by decide)) (hg _ _ _ _ _ h p e R s m args below meth c cells slots Z H locs ls C T G P S L N)
  · exact h.elim
theorem v_aaload (hz : y < 229) (hr : row y pc = some r) (hg : Gk u y K go) (ei : r.1 = .aaload) (h : vi u go K y pc r lv st hi hl) : Wp u y pc lv st hi hl K := by
  simp only [vi, ei] at h
  unfold ra at h
  split at h
  · rename_i i0 h0 s0
    intro p e R s m args below meth c cells slots Z H locs ls C T G P S L N
    obtain ⟨⟨⟨ha, hb⟩, hin⟩, h⟩ := h
    obtain ⟨Cn, hty⟩ := ty_ref (u := u) ha hb
    exact va_aldq C.1 C.2.1 C.2.2.2.2.2.2.1.1 P h0 (kd h0 - 8) (f := fun k => some (xA u (rf h0 k))) (by rw [wd_at (by omega), en_a rfl ha]) hty hin (rw_dec hz hr ei rfl rfl (by decide)) (hg _ _ _ _ _ h p e R s m args below meth c cells slots Z H locs ls C T G P S L N)
  · exact h.elim
theorem v_iastore (hz : y < 229) (hr : row y pc = some r) (hg : Gk u y K go) (ei : r.1 = .iastore) (h : vi u go K y pc r lv st hi hl) : Wp u y pc lv st hi hl K := by
  simp only [vi, ei] at h
  unfold b1 at h
  split at h
  · rename_i x s0
    unfold ra at h
    split at h
    · rename_i i0 h0 s1
      intro p e R s m args below meth c cells slots Z H locs ls C T G P S L N
      obtain ⟨⟨hkd, hin⟩, h⟩ := h
      have hne : kd h0 ≠ 14 := by omega
      refine va_iast C.1 C.2.1 C.2.2.2.2.2.2.1.1 P (wd_D C.2.2.2.2.2.2.1 hi hl) S h0 0 (by rw [wd_at hne, en_i hkd]) rfl hin (rw_dec hz hr ei rfl rfl (by decide)) (fun H1 locs1 P1 _ S1 => ?_)
      rw [wd_set (hi' := up2 hi h0 i0.toNatClampNeg x) (hl' := hl) hne (by rw [en_i hkd, up2_at]) (fun j hj => up2_ne hj) (fun _ _ => rfl)] at P1
      exact hg _ _ _ _ _ h p e R s m args below meth c cells slots Z H1 locs1 ls C T G P1 S1 L N
    · exact h.elim
  · exact h.elim
theorem v_bastore (hz : y < 229) (hr : row y pc = some r) (hg : Gk u y K go) (ei : r.1 = .bastore) (h : vi u go K y pc r lv st hi hl) : Wp u y pc lv st hi hl K := by
  simp only [vi, ei] at h
  unfold b1 at h
  split at h
  · rename_i x s0
    unfold ra at h
    split at h
    · rename_i i0 h0 s1
      intro p e R s m args below meth c cells slots Z H locs ls C T G P S L N
      obtain ⟨⟨hkd, hin⟩, h⟩ := h
      have hne : kd h0 ≠ 14 := by omega
      refine va_bast C.1 C.2.1 C.2.2.2.2.2.2.1.1 P (wd_D C.2.2.2.2.2.2.1 hi hl) S h0 1 (by rw [wd_at hne, en_b hkd]) rfl hin (rw_dec hz hr ei rfl rfl (by decide)) (fun H1 locs1 P1 _ S1 => ?_)
      rw [wd_set (hi' := up2 hi h0 i0.toNatClampNeg x.toInt8.toInt32) (hl' := hl) hne (by rw [en_b hkd, up2_at, vp_nar_byte]) (fun j hj => up2_ne hj) (fun _ _ => rfl)] at P1
      exact hg _ _ _ _ _ h p e R s m args below meth c cells slots Z H1 locs1 ls C T G P1 S1 L N
    · exact h.elim
  · exact h.elim
theorem v_lastore (hz : y < 229) (hr : row y pc = some r) (hg : Gk u y K go) (ei : r.1 = .lastore) (h : vi u go K y pc r lv st hi hl) : Wp u y pc lv st hi hl K := by
  simp only [vi, ei] at h
  unfold l1 at h
  split at h
  · rename_i x s0
    unfold ra at h
    split at h
    · rename_i i0 h0 s1
      intro p e R s m args below meth c cells slots Z H locs ls C T G P S L N
      obtain ⟨⟨hkd, hin⟩, h⟩ := h
      have hne : kd h0 ≠ 14 := by omega
      refine va_last C.1 C.2.1 C.2.2.2.2.2.2.1.1 P (wd_D C.2.2.2.2.2.2.1 hi hl) S h0 2 (by rw [wd_at hne, en_l hkd]) rfl hin (rw_dec hz hr ei rfl rfl (by decide)) (fun H1 locs1 P1 _ S1 => ?_)
      rw [wd_set (hi' := hi) (hl' := upl hl h0 i0.toNatClampNeg x) hne (by rw [en_l hkd, upl_at]) (fun _ _ => rfl) (fun j hj => upl_ne hj)] at P1
      exact hg _ _ _ _ _ h p e R s m args below meth c cells slots Z H1 locs1 ls C T G P1 S1 L N
    · exact h.elim
  · exact h.elim
theorem v_ireturn (hz : y < 229) (hr : row y pc = some r) (hg : Gk u y K go) (ei : r.1 = .ireturn) (h : vi u go K y pc r lv st hi hl) : Wp u y pc lv st hi hl K := by
  simp only [vi, ei] at h
  split at h
  · rename_i v
    intro p e R s m args below meth c cells slots Z H locs ls C T G P S L N
    refine T (some (.int v)) hi hl H locs ls pc .ireturn h.2 P S ⟨rfl, ?_⟩ (rw_dec hz hr ei rfl rfl (by decide))
    have h1 := h.1
    unfold rz at h1
    split at h1
    · rename_i e1; exact ⟨_, e1, rfl⟩
    · rename_i e1
      refine ⟨_, e1, ?_⟩
      rcases h1 with rfl | rfl <;> rfl
    · rename_i e1; exact ⟨_, e1, h1⟩
    · rename_i e1; exact ⟨_, e1, h1⟩
    · exact h1.elim
  · exact h.elim
theorem v_lreturn (hz : y < 229) (hr : row y pc = some r) (hg : Gk u y K go) (ei : r.1 = .lreturn) (h : vi u go K y pc r lv st hi hl) : Wp u y pc lv st hi hl K := by
  simp only [vi, ei] at h
  split at h
  · rename_i v
    intro p e R s m args below meth c cells slots Z H locs ls C T G P S L N
    exact T (some (.long v)) hi hl H locs ls pc .lreturn h.2 P S ⟨rfl, h.1⟩ (rw_dec hz hr ei rfl rfl (by decide))
  · exact h.elim
theorem v_areturn (hz : y < 229) (hr : row y pc = some r) (hg : Gk u y K go) (ei : r.1 = .areturn) (h : vi u go K y pc r lv st hi hl) : Wp u y pc lv st hi hl K := by
  simp only [vi, ei] at h
  split at h
  · rename_i v
    intro p e R s m args below meth c cells slots Z H locs ls C T G P S L N
    exact T (some (.ref v)) hi hl H locs ls pc .areturn h.2 P S ⟨rfl, h.1⟩ (rw_dec hz hr ei rfl rfl (by decide))
  · exact h.elim
theorem v_return (hz : y < 229) (hr : row y pc = some r) (hg : Gk u y K go) (ei : r.1 = .return_) (h : vi u go K y pc r lv st hi hl) : Wp u y pc lv st hi hl K := by
  simp only [vi, ei] at h
  split at h
  · intro p e R s m args below meth c cells slots Z H locs ls C T G P S L N
    exact T none hi hl H locs ls pc .return_ h.2 P S ⟨rfl, h.1⟩ (rw_dec hz hr ei rfl rfl (by decide))
  · exact h.elim
end VW
/-! 09.calls -/
/-! calls, and the machine whole -/
theorem mathW : ∀ w ∈ [Cond.code Lib.Math.max.name Lib.Math.max.code 2 (some .int)], w ∈ lw_tbl := fun w hw => by
  rw [List.mem_singleton.mp hw]
  exact inT5 (List.mem_of_getElem? (i := 123) rfl)
theorem mathW2 : ∀ w ∈ [Cond.code Lib.Math.min.name Lib.Math.min.code 2 (some .int)], w ∈ lw_tbl := fun w hw => by
  rw [List.mem_singleton.mp hw]
  exact inT2 (List.mem_of_getElem? (i := 70) rfl)
set_option maxRecDepth 100000 in
theorem mathS : ∀ w ∈ [Cond.static Lib.Math.min.name, Cond.static arraycopyName, Cond.static Lib.Math.max.name], w ∈ lw_tbl := sbq_ok lw_tbl _ (by decide +kernel)
set_option maxRecDepth 100000 in
theorem mathN : ∀ w ∈ [Cond.initialized "java/lang/Math", Cond.initialized "java/lang/System"], w ∈ lw_tbl := sbq_ok lw_tbl _ (by decide +kernel)
set_option maxRecDepth 100000 in
theorem mathA : ∀ w ∈ [Cond.native arraycopyName], w ∈ lw_tbl := sbq_ok lw_tbl _ (by decide +kernel)
theorem goodMem {ws : List Cond} (h : ∀ w ∈ ws, w ∈ lw_tbl ∧ goodWord w = true) : GoodIn TBL ws := fun w hw => ⟨inTBL (h w hw).1 (h w hw).2, good_of_word (h w hw).2⟩
theorem tblMem : ∀ w ∈ TBL, w ∈ lw_tbl ∧ goodWord w = true := fun w hw => List.mem_filter.mp hw
theorem wsMem {z : Nat} (h : z < 228) : ∀ w ∈ wsM z, w ∈ lw_tbl ∧ goodWord w = true := by
  intro w hw
  rcases List.mem_cons.mp hw with rfl | hw
  · exact ⟨(mtOk h).1, rfl⟩
  · exact tblMem w hw
theorem blindM (u : UV) (as : List Value) (hi : HI) (hl : HL) : FrameBlind (pcM u as hi hl) := fun a U g mk q => ⟨q.1, q.2.1.blind g mk a, q.2.2⟩
theorem map_cats {u : UV} (hF : (xF u).category = 1) (st : List Value) : ((st.map (tv u)).map fun v => v.category).sum = cats st := by
  unfold cats
  rw [List.map_map]
  congr 1
  apply List.map_congr_left
  intro v _
  exact tv_cat hF v
theorem ml_at {o i z : Nat} {b : Bool} (hi : i < 10000) (h : lk MLT o i = some (z, b)) : (z < 228 ∨ 1000 ≤ z) ∧ mlW (10000 * o + i, z, b) ∈ lw_tbl := by
  have hm := lk_mem h
  have hb := List.all_eq_true.mp ml_b _ hm
  rw [Bool.or_eq_true, decide_eq_true_eq, decide_eq_true_eq] at hb
  exact ⟨hb, ml_w _ (List.mem_map.mpr ⟨_, hm, rfl⟩)⟩
theorem vnest : ∀ q ∈ MLT, q.2.2 = true → mS q.2.1 = true := by decide +kernel
section VX
variable {p : Program} {l : Launch} {e : Env} {R : Room} {s : State} {m : MethodId} {args : Array Value} {below : List Frame} {meth : Method} {c : Code} {H : Heap} {locs : List Loc} {cells slots : Nat} {Q : State → Prop} {pc : Nat} {ls : Array Slot} {rest st0 : List Value}
theorem vx_call {u : UV} {K' : Option Value → HI → HL → Prop} {a : Array Value} (hr : va_Run p l e R s m args below meth c H locs cells slots 0 0 (F0 m pc ls st0) rest (qcM u K' a) (aS u)) (hS : va_S (aS u) s.heap H locs)
    (kk : ∀ (r : Option Value) (hi' : HI) (hl' : HL) (H1 : Heap) (locs1 : List Loc), K' r hi' hl' → va_P (xD u) zCl (wd u hi' hl') H1 → va_S (aS u) s.heap H1 locs1 → W p l e R s m args below meth c H1 locs1 cells slots Q (F0 m (pc + 3) ls ((r.map (tv u)).toList ++ rest))) : W p l e R s m args below meth c H locs cells slots Q (F0 m pc ls st0) := by
  intro T hT X
  obtain ⟨v, st₀, t, T', L, h0, X', hL, e1, e2, ⟨⟨r, hi', hl', hv, hk', hp⟩, hz, hk⟩, st⟩ := hr T hT X
  have hv2 : v = r.map (tv u) := by
    injection hv
  subst hv2
  rw [h0] at hz hk
  obtain ⟨t2, a1, b1⟩ := kk r hi' hl' T'.heap (locs ++ L) hk' (by rw [e1]; exact hp)
    ⟨Nat.le_trans hS.1 (by rw [e1]; exact hz), fun q h1 h2 => by rw [e1, hk q (Nat.lt_of_lt_of_le h1 hS.1) h2]; exact hS.2.1 q h1 h2, fun q hq => by
      rcases List.mem_append.mp hq with h | h
      · exact hS.2.2 q h
      · exact hL q h⟩ T' rfl X'
  exact ⟨t2, st t2 a1, b1⟩
end VX
section VZ
variable {u : UV} {y pc : Nat} {r : Row} {lv st : List Value} {hi : HI} {hl : HL} {K : Option Value → HI → HL → Prop} {go : Nat → List Value → List Value → HI → HL → Prop}
set_option maxHeartbeats 4000000 in
theorem v_static {i z : Nat} {b : Bool} (hz : y < 229) (hr : row y pc = some r) (hg : Gk u y K go) (ei : r.1 = .invokestatic i) (hlk : lk MLT (mO y) i = some (z, b)) (h : cl1 u (go (pc + 3) lv) y z st hi hl) : Wp u y pc lv st hi hl K := by
  have hp : i < 10000 := pl_of hz hr ei rfl
  have hm := ml_at hp hlk
  have hnest := lk_mem hlk
  unfold cl1 at h
  split at h
  · rename_i hc
    simp only [Bool.and_eq_true, decide_eq_true_eq] at hc
    obtain ⟨c1, c2, c3, c4, c5, c6, c7⟩ := hc
    obtain ⟨m1, m2, m3, m4, m5, m6, m7, m8⟩ := mtOk c1
    rw [if_pos c3] at m2
    have hw := hm.2
    unfold mlW at hw
    dsimp only at hw
    rw [if_neg (by omega), if_neg (by omega), if_neg (by omega), (key_d hp).1, (key_d hp).2] at hw
    intro p e R s m args below meth c cells slots Z H locs ls C T G P S L N
    obtain ⟨C1, C2, C3, C4, C5, C6, C7, C8, C9, C10, C11⟩ := id C
    have hF := C7.2.2.2.2.2.2.2.2
    have hstk : st.map (tv u) = ((((st.take (mA z)).reverse).map (tv u)).reverse) ++ (st.drop (mA z)).map (tv u) := by
      rw [List.map_reverse, List.reverse_reverse, ← List.map_append, List.take_append_drop]
    have hln : (((st.take (mA z)).reverse).map (tv u)).length = mA z := by
      rw [List.length_map, List.length_reverse, List.length_take]; omega
    have hpre : PreS s H (pcM u ((st.take (mA z)).reverse) hi hl) (((st.take (mA z)).reverse).map (tv u)) := ⟨blindM u _ hi hl, fun U hU hW => ⟨rfl, C7.go S hU hW, by rw [hU]; exact P⟩⟩
    have hR : (rmM z).frames + 1 ≤ R.frames ∧ 8 + (mL z + 11) + (rmM z).locals ≤ R.locals := by
      show mK z + 1 ≤ R.frames ∧ 8 + (mL z + 11) + 37 * mK z ≤ R.locals
      omega
    have hroom : 2 * (F0 m pc ls (st.map (tv u))).monitorRoom + (((st.drop (mA z)).map (tv u)).map fun v => v.category).sum ≤ 8 := by
      rw [map_cats hF]
      show 2 * 0 + _ ≤ 8
      omega
    have fin : va_Run p u.1 e R s m args below meth c H locs cells slots 0 0 (F0 m pc ls (st.map (tv u))) ((st.drop (mA z)).map (tv u)) (qcM u (fun r hi' hl' => go (pc + 3) lv (r.toList ++ st.drop (mA z)) hi' hl') (((st.take (mA z)).reverse).map (tv u)).toArray) (aS u) := by
      by_cases hb : b = true
      · subst hb
        have hn := C7.2.2.2.2.2.2.2.1 _ hnest rfl
        dsimp only at hn
        rw [(key_d hp).1, (key_d hp).2] at hn
        exact va_runSN (n := mA z) ⟨C1, C2, C4, C5, C6⟩ h ⟨va_cnB (mA z) C6 (goodMem (wsMem c1)) rfl rfl rfl hn (C6 _ (inTBL m3 rfl)) ⟨m6.1, m6.2, m7⟩ hR, C6 _ (inTBL m2 rfl), trivial⟩ hpre rfl hln L.1 hstk hroom (rw_dec hz hr ei rfl rfl (by decide)) ⟨C10, C11⟩
      · rw [if_neg hb] at hw
        have hG : GoodIn TBL (va_wsS (cN (mO y)) i (mY z) (wsM z)) := goodMem (fun w h => by
          rcases List.mem_append.mp h with h | h
          · simp only [List.mem_cons, List.not_mem_nil, or_false] at h
            rcases h with rfl | rfl | rfl
            · exact ⟨hw, rfl⟩
            · exact ⟨m2, rfl⟩
            · exact ⟨m3, rfl⟩
          · exact wsMem c1 w h)
        exact va_runS (n := mA z) ⟨C1, C2, C4, C5, C6⟩ h (va_cwS (mA z) C6 hG rfl rfl rfl ⟨m6.1, m6.2, m7⟩ hR) hpre rfl hln L.1 hstk hroom (rw_dec hz hr ei rfl rfl (by decide)) ⟨C10, C11⟩
    refine vx_call fin S (fun r2 hi' hl' H1 locs1 hk P1 S1 => ?_)
    have hh := hg _ _ _ _ _ hk p e R s m args below meth c cells slots Z H1 locs1 ls C T G P1 S1 L N
    rw [List.map_append] at hh
    cases r2 <;> exact hh
  · exact h.elim
set_option maxHeartbeats 4000000 in
theorem v_virtual {i z h0 : Nat} {b : Bool} (hz : y < 229) (hr : row y pc = some r) (hg : Gk u y K go) (ei : r.1 = .invokevirtual i) (hlk : lk MLT (mO y) i = some (z, b)) (hrc : st[mA z]? = some (.ref h0)) (h : cl2 u (go (pc + 3) lv) y z h0 st hi hl) : Wp u y pc lv st hi hl K := by
  have hp : i < 10000 := pl_of hz hr ei rfl
  have hm := ml_at hp hlk
  unfold cl2 at h
  split at h
  · rename_i hc
    simp only [Bool.and_eq_true, decide_eq_true_eq] at hc
    obtain ⟨c1, c2, c3, c4, c5, c6, c7⟩ := hc
    have c3' : mS z = false := by simpa using c3
    obtain ⟨hcls, h⟩ := h
    obtain ⟨m1, m2, m3, m4, m5, m6, m7, m8⟩ := mtOk c1
    rw [if_neg (by rw [c3']; decide)] at m2
    have hw := hm.2
    unfold mlW at hw
    dsimp only at hw
    rw [if_neg (by omega), if_neg (by omega), if_neg (by omega), (key_d hp).1, (key_d hp).2] at hw
    have hb : ¬ b = true := by
      intro hb
      subst hb
      have := vnest _ (lk_mem hlk) rfl
      dsimp only at this
      rw [this] at c3'
      cases c3'
    rw [if_neg hb] at hw
    intro p e R s m args below meth c cells slots Z H locs ls C T G P S L N
    obtain ⟨C1, C2, C3, C4, C5, C6, C7, C8, C9, C10, C11⟩ := id C
    have hF := C7.2.2.2.2.2.2.2.2
    have hn : mA z < st.length := by omega
    have htk : (st.take (mA z + 1)).reverse = .ref h0 :: (st.take (mA z)).reverse := by
      rw [List.take_add_one, hrc]
      simp
    have hstk : st.map (tv u) = ((((st.take (mA z)).reverse).map (tv u)).reverse) ++ Value.ref (xA u h0) :: (st.drop (mA z + 1)).map (tv u) := by
      have e1 : st = st.take (mA z) ++ Value.ref h0 :: st.drop (mA z + 1) := by
        conv => lhs; rw [← List.take_append_drop (mA z) st]
        congr 1
        rw [List.drop_eq_getElem_cons hn]
        congr 1
        have := List.getElem?_eq_getElem hn
        rw [hrc] at this
        exact (Option.some.inj this).symm
      conv => lhs; rw [e1]
      rw [List.map_append, List.map_reverse, List.reverse_reverse]
      rfl
    have hln : (((st.take (mA z)).reverse).map (tv u)).length = mA z := by
      rw [List.length_map, List.length_reverse, List.length_take]; omega
    have hPc : ∀ U : State, U.heap = H → s.WarmedH U.vm → pcM u ((st.take (mA z + 1)).reverse) hi hl (Value.ref (xA u h0) :: ((st.take (mA z)).reverse).map (tv u)).toArray U := fun U hU hW => ⟨by rw [htk]; rfl, C7.go S hU hW, by rw [hU]; exact P⟩
    have hR : (rmM z).frames + 1 ≤ R.frames ∧ 8 + (mL z + 11) + (rmM z).locals ≤ R.locals := by
      show mK z + 1 ≤ R.frames ∧ 8 + (mL z + 11) + 37 * mK z ≤ R.locals
      omega
    have hroom : 2 * (F0 m pc ls (st.map (tv u))).monitorRoom + (((st.drop (mA z + 1)).map (tv u)).map fun v => v.category).sum ≤ 8 := by
      rw [map_cats hF]
      show 2 * 0 + _ ≤ 8
      omega
    have hG : GoodIn TBL (wsV (cN (mO y)) i (mY z).cls (mY z) (wsM z)) := goodMem (fun w h => by
      rcases List.mem_append.mp h with h | h
      · simp only [List.mem_cons, List.not_mem_nil, or_false] at h
        rcases h with rfl | rfl | rfl | rfl
        · exact ⟨hw, rfl⟩
        · exact ⟨m2.1, rfl⟩
        · exact ⟨m2.2, rfl⟩
        · exact ⟨m3, rfl⟩
      · exact wsMem c1 w h)
    have hrv : ∃ cell : Cell, H[xA u h0]? = some cell ∧ cell.vm.isStatics = false ∧ s.vm.findClass (mY z).cls = some cell.cls := by
      rw [m4]
      by_cases h10 : mO z = 10
      · rw [if_pos h10] at hcls
        obtain ⟨j, rfl⟩ := hsplit h0 100 hcls.1
        have hj : j < 16 := by omega
        rw [h10]
        exact vk_recv (i := j) C7.2.2.2.1 hj S
      · rw [if_neg h10] at hcls
        obtain ⟨z1, z2, z3, z4, z5, z6⟩ := zC_ok hcls.2
        rw [← z6]
        exact va_recv C7.1 P z1 (q0 := h0) (fs := fds u hi h0 (mO z)) (by rw [wd_at (by omega), en_o hcls.1 hcls.2])
    have fin : va_Run p u.1 e R s m args below meth c H locs cells slots 0 0 (F0 m pc ls (st.map (tv u))) ((st.drop (mA z + 1)).map (tv u)) (qcM u (fun r hi' hl' => go (pc + 3) lv (r.toList ++ st.drop (mA z + 1)) hi' hl') (Value.ref (xA u h0) :: ((st.take (mA z)).reverse).map (tv u)).toArray) (aS u) :=
      va_runV (n := mA z) (C := (mY z).cls) ⟨C1, C2, C4, C5, C6⟩ h (cwV (mA z) C6 hG rfl rfl rfl ⟨rfl, m6.1, m6.2, m7⟩ hR) ⟨blindM u _ hi hl, hrv, hPc⟩ rfl hln L.1 hstk hroom (rw_dec hz hr ei rfl rfl (by decide)) ⟨C10, C11⟩
    refine vx_call fin S (fun r2 hi' hl' H1 locs1 hk P1 S1 => ?_)
    have hh := hg _ _ _ _ _ hk p e R s m args below meth c cells slots Z H1 locs1 ls C T G P1 S1 L N
    rw [List.map_append] at hh
    cases r2 <;> exact hh
  · exact h.elim
end VZ
section VQ
variable {u : UV} {y pc : Nat} {r : Row} {lv st : List Value} {hi : HI} {hl : HL} {K : Option Value → HI → HL → Prop} {go : Nat → List Value → List Value → HI → HL → Prop}
theorem mathWord {i z : Nat} {b : Bool} (hp : i < 10000) (hlk : lk MLT (mO y) i = some (z, b)) : (z = 1000 → Cond.methodLink (cN (mO y)) i Lib.Math.max.name ∈ lw_tbl) ∧ (z = 1001 → Cond.methodLink (cN (mO y)) i Lib.Math.min.name ∈ lw_tbl) ∧ (z = 1002 → Cond.methodLink (cN (mO y)) i arraycopyName ∈ lw_tbl) := by
  have hw := (ml_at hp hlk).2
  unfold mlW at hw
  dsimp only at hw
  rw [(key_d hp).1, (key_d hp).2] at hw
  refine ⟨fun q => ?_, fun q => ?_, fun q => ?_⟩
  · subst q; exact hw
  · subst q; exact hw
  · subst q; exact hw
set_option maxHeartbeats 4000000 in
theorem v_invokestatic {i : Nat} (hz : y < 229) (hr : row y pc = some r) (hg : Gk u y K go) (ei : r.1 = .invokestatic i) (h : vi u go K y pc r lv st hi hl) : Wp u y pc lv st hi hl K := by
  simp only [vi, ei] at h
  have hp : i < 10000 := pl_of hz hr ei rfl
  split at h
  · rename_i z b hlk
    have hmw := mathWord hp hlk
    split at h
    · rename_i hz0
      unfold b2 at h
      split at h
      · rename_i b0 a0 s0
        split at h
        · rename_i hc
          rw [Bool.and_eq_true, decide_eq_true_eq, decide_eq_true_eq] at hc
          intro p e R s m args below meth c cells slots Z H locs ls C T G P S L N
          obtain ⟨C1, C2, C3, C4, C5, C6, C7, C8, C9, C10, C11⟩ := id C
          exact va_mmax C1 C2 (by rw [C4]; exact L.1.symm) C5 (C6 _ (inTBL (hmw.1 hz0) rfl)) (C6 _ (inTBL (mathS _ (by decide +kernel)) rfl)) (C6 _ (inTBL (mathN _ List.mem_cons_self) rfl)) (C6 _ (inTBL (mathW _ List.mem_cons_self) rfl)) (by omega) (by rw [map_cats C7.2.2.2.2.2.2.2.2]; omega) C10 C11 (rw_dec hz hr ei rfl rfl (by decide)) (hg _ _ _ _ _ h p e R s m args below meth c cells slots Z H locs ls C T G P S L N)
        · exact h.elim
      · exact h.elim
    · split at h
      · rename_i hz0
        unfold b2 at h
        split at h
        · rename_i b0 a0 s0
          split at h
          · rename_i hc
            rw [Bool.and_eq_true, decide_eq_true_eq, decide_eq_true_eq] at hc
            intro p e R s m args below meth c cells slots Z H locs ls C T G P S L N
            obtain ⟨C1, C2, C3, C4, C5, C6, C7, C8, C9, C10, C11⟩ := id C
            exact va_mmin C1 C2 (by rw [C4]; exact L.1.symm) C5 (C6 _ (inTBL (hmw.2.1 hz0) rfl)) (C6 _ (inTBL (mathS _ (by decide +kernel)) rfl)) (C6 _ (inTBL (mathN _ List.mem_cons_self) rfl)) (C6 _ (inTBL (mathW2 _ List.mem_cons_self) rfl)) (by omega) (by rw [map_cats C7.2.2.2.2.2.2.2.2]; omega) C10 C11 (rw_dec hz hr ei rfl rfl (by decide)) (hg _ _ _ _ _ h p e R s m args below meth c cells slots Z H locs ls C T G P S L N)
          · exact h.elim
        · exact h.elim
      · split at h
        · rename_i hz0
          unfold b2 at h
          split at h
          · rename_i n0 dp0 s0
            unfold r1 at h
            split at h
            · rename_i d0 s1
              unfold ra at h
              split at h
              · rename_i sp0 a0 s2
                split at h
                · rename_i hc
                  rw [Bool.and_eq_true, decide_eq_true_eq, decide_eq_true_eq] at hc
                  intro p e R s m args below meth c cells slots Z H locs ls C T G P S L N
                  obtain ⟨C1, C2, C3, C4, C5, C6, C7, C8, C9, C10, C11⟩ := id C
                  have hnw : nativeFrameWords "java/lang/System" "arraycopy" 5 + 11 ≤ 29 := by decide +kernel
                  split at h
                  · obtain ⟨⟨⟨k1, k2⟩, h1, h2, h3, h4, h5⟩, h⟩ := h
                    have hne : kd d0 ≠ 14 := by omega
                    refine va_copyi C1 C2 (by rw [C4]; exact L.1.symm) C5 (C6 _ (inTBL (hmw.2.2 hz0) rfl)) (C6 _ (inTBL (mathA _ List.mem_cons_self) rfl)) (C6 _ (inTBL (mathS _ (by decide +kernel)) rfl)) (C6 _ (inTBL (mathN _ (List.mem_cons_of_mem _ List.mem_cons_self)) rfl)) C7.1 P (wd_D C7 hi hl) S a0 d0 0 0 (ty := .int) (by rw [wd_at (by omega), en_i k1]) (by rw [wd_at hne, en_i k2]) rfl rfl rfl h1 h2 h3 h4 h5 (fun _ _ => rfl) (by omega) (by rw [map_cats C7.2.2.2.2.2.2.2.2]; omega) (rw_dec hz hr ei rfl rfl (by decide)) (fun H1 locs1 P1 _ S1 => ?_)
                    rw [wd_set (hi' := cpi hi a0 d0 sp0.toNatClampNeg dp0.toNatClampNeg n0.toNatClampNeg) (hl' := hl) hne (by rw [en_i k2]; simp [cpi]) (fun j hj => by simp [cpi, hj]) (fun _ _ => rfl)] at P1
                    exact hg _ _ _ _ _ h p e R s m args below meth c cells slots Z H1 locs1 ls C T G P1 S1 L N
                  · obtain ⟨⟨⟨k1, k2⟩, h1, h2, h3, h4, h5⟩, h⟩ := h
                    have hne : kd d0 ≠ 14 := by omega
                    refine va_copyl C1 C2 (by rw [C4]; exact L.1.symm) C5 (C6 _ (inTBL (hmw.2.2 hz0) rfl)) (C6 _ (inTBL (mathA _ List.mem_cons_self) rfl)) (C6 _ (inTBL (mathS _ (by decide +kernel)) rfl)) (C6 _ (inTBL (mathN _ (List.mem_cons_of_mem _ List.mem_cons_self)) rfl)) C7.1 P (wd_D C7 hi hl) S a0 d0 2 2 (ty := .long) (by rw [wd_at (by omega), en_l k1]) (by rw [wd_at hne, en_l k2]) rfl rfl rfl h1 h2 h3 h4 h5 (fun _ _ => rfl) (by omega) (by rw [map_cats C7.2.2.2.2.2.2.2.2]; omega) (rw_dec hz hr ei rfl rfl (by decide)) (fun H1 locs1 P1 _ S1 => ?_)
                    rw [wd_set (hi' := hi) (hl' := cpl hl a0 d0 sp0.toNatClampNeg dp0.toNatClampNeg n0.toNatClampNeg) hne (by rw [en_l k2]; simp [cpl]) (fun _ _ => rfl) (fun j hj => by simp [cpl, hj])] at P1
                    exact hg _ _ _ _ _ h p e R s m args below meth c cells slots Z H1 locs1 ls C T G P1 S1 L N
                · exact h.elim
              · exact h.elim
            · exact h.elim
          · exact h.elim
        · exact v_static hz hr hg ei hlk h
  · exact h.elim
theorem v_invokevirtual {i : Nat} (hz : y < 229) (hr : row y pc = some r) (hg : Gk u y K go) (ei : r.1 = .invokevirtual i) (h : vi u go K y pc r lv st hi hl) : Wp u y pc lv st hi hl K := by
  simp only [vi, ei] at h
  split at h
  · rename_i z b hlk
    unfold rcv at h
    split at h
    · rename_i h0 hrc
      exact v_virtual hz hr hg ei hlk hrc h
    · exact h.elim
  · exact h.elim
set_option maxHeartbeats 4000000 in
theorem vi_ok (hz : y < 229) (hr : row y pc = some r) (hg : Gk u y K go) (h : vi u go K y pc r lv st hi hl) : Wp u y pc lv st hi hl K := by
  cases ei : r.1 with
  | iconst n => exact v_iconst hz hr hg ei h
  | bipush n => exact v_bipush hz hr hg ei h
  | sipush n => exact v_sipush hz hr hg ei h
  | lconst n => exact v_lconst hz hr hg ei h
  | ldc n => exact v_ldc hz hr hg ei h
  | ldc_w n => exact v_ldc_w hz hr hg ei h
  | ldc2_w n => exact v_ldc2_w hz hr hg ei h
  | iload_n n => exact v_iload_n hz hr hg ei h
  | iload n => exact v_iload hz hr hg ei h
  | lload_n n => exact v_lload_n hz hr hg ei h
  | lload n => exact v_lload hz hr hg ei h
  | aload_n n => exact v_aload_n hz hr hg ei h
  | aload n => exact v_aload hz hr hg ei h
  | istore_n n => exact v_istore_n hz hr hg ei h
  | istore n => exact v_istore hz hr hg ei h
  | lstore_n n => exact v_lstore_n hz hr hg ei h
  | lstore n => exact v_lstore hz hr hg ei h
  | astore_n n => exact v_astore_n hz hr hg ei h
  | astore n => exact v_astore hz hr hg ei h
  | iinc i n => exact v_iinc hz hr hg ei h
  | iadd => exact v_iadd hz hr hg ei h
  | isub => exact v_isub hz hr hg ei h
  | imul => exact v_imul hz hr hg ei h
  | idiv => exact v_idiv hz hr hg ei h
  | irem => exact v_irem hz hr hg ei h
  | iand => exact v_iand hz hr hg ei h
  | ior => exact v_ior hz hr hg ei h
  | ixor => exact v_ixor hz hr hg ei h
  | ishl => exact v_ishl hz hr hg ei h
  | ishr => exact v_ishr hz hr hg ei h
  | ladd => exact v_ladd hz hr hg ei h
  | lmul => exact v_lmul hz hr hg ei h
  | ldiv => exact v_ldiv hz hr hg ei h
  | land => exact v_land hz hr hg ei h
  | lor => exact v_lor hz hr hg ei h
  | lcmp => exact v_lcmp hz hr hg ei h
  | lshl => exact v_lshl hz hr hg ei h
  | i2l => exact v_i2l hz hr hg ei h
  | l2i => exact v_l2i hz hr hg ei h
  | i2b => exact v_i2b hz hr hg ei h
  | i2s => exact v_i2s hz hr hg ei h
  | i2c => exact v_i2c hz hr hg ei h
  | dup => exact v_dup hz hr hg ei h
  | dup2 => exact v_dup2 hz hr hg ei h
  | pop => exact v_pop hz hr hg ei h
  | pop2 => exact v_pop2 hz hr hg ei h
  | if_icmp c off => cases c with
    | eq => exact v_icmp_eq hz hr hg ei h
    | ne => exact v_icmp_ne hz hr hg ei h
    | lt => exact v_icmp_lt hz hr hg ei h
    | ge => exact v_icmp_ge hz hr hg ei h
    | gt => exact v_icmp_gt hz hr hg ei h
    | le => exact v_icmp_le hz hr hg ei h
  | ifCond c off => cases c with
    | eq => exact v_if_eq hz hr hg ei h
    | ne => exact v_if_ne hz hr hg ei h
    | lt => exact v_if_lt hz hr hg ei h
    | ge => exact v_if_ge hz hr hg ei h
    | gt => exact v_if_gt hz hr hg ei h
    | le => exact v_if_le hz hr hg ei h
  | goto off => exact v_goto hz hr hg ei h
  | tableswitch d lo hi2 offs => exact v_tableswitch hz hr hg ei h
  | getfield i => exact v_getfield hz hr hg ei h
  | putfield i => exact v_putfield hz hr hg ei h
  | getstatic i => exact v_getstatic hz hr hg ei h
  | arraylength => exact v_arraylength hz hr hg ei h
  | iaload => exact v_iaload hz hr hg ei h
  | baload => exact v_baload hz hr hg ei h
  | laload => exact v_laload hz hr hg ei h
  | aaload => exact v_aaload hz hr hg ei h
  | iastore => exact v_iastore hz hr hg ei h
  | bastore => exact v_bastore hz hr hg ei h
  | lastore => exact v_lastore hz hr hg ei h
  | invokestatic i => exact v_invokestatic hz hr hg ei h
  | invokevirtual i => exact v_invokevirtual hz hr hg ei h
  | ireturn => exact v_ireturn hz hr hg ei h
  | lreturn => exact v_lreturn hz hr hg ei h
  | areturn => exact v_areturn hz hr hg ei h
  | return_ => exact v_return hz hr hg ei h
  | _ => simp only [vi, ei] at h
theorem vc_ok (hz : y < 229) : ∀ (k pc : Nat) (lv st : List Value) (hi : HI) (hl : HL), vc u k y pc lv st hi hl K → Wp u y pc lv st hi hl K
  | 0, _, _, _, _, _, h => h
  | k + 1, pc, lv, st, hi, hl, h => by
    unfold vc at h
    cases hr : row y pc with
    | none => rw [hr] at h; exact h.elim
    | some r =>
      rw [hr] at h
      refine vi_ok hz hr (fun pc' lv' st' hi' hl' h' => ?_) h
      split at h'
      · exact h'
      · exact vc_ok hz k pc' lv' st' hi' hl' h'
end VQ
/-! a method's contract out of its walk -/
def slots1 (as : List Value) : List Value := as.flatMap (fun v => if v.category = 2 then [v, .null] else [v])
def ent (n : Nat) (as : List Value) : List Value := slots1 as ++ List.replicate (n - (slots1 as).length) .null
theorem slots_at {u : UV} (hF : (xF u).category = 1) : ∀ (as : List Value) (k i : Nat) (v : Value), (slots1 as)[i]? = some v → v ≠ .null → (k + i, tv u v) ∈ lv_args k (as.map (tv u))
  | [], k, i, v, h, _ => by simp [slots1] at h
  | a :: as, k, i, v, h, hv => by
    have e : slots1 (a :: as) = (if a.category = 2 then [a, .null] else [a]) ++ slots1 as := rfl
    rw [e] at h
    show _ ∈ (k, tv u a) :: lv_args (if (tv u a).category = 2 then k + 2 else k + 1) (as.map (tv u))
    rw [tv_cat hF]
    by_cases hc : a.category = 2
    · rw [if_pos hc] at h ⊢
      match i, h with
      | 0, h => cases h; exact List.mem_cons_self
      | 1, h => cases h; exact absurd rfl hv
      | i + 2, h =>
        have := slots_at hF as (k + 2) i v (by simpa using h) hv
        rw [show k + (i + 2) = k + 2 + i by omega]
        exact List.mem_cons_of_mem _ this
    · rw [if_neg hc] at h ⊢
      match i, h with
      | 0, h => cases h; exact List.mem_cons_self
      | i + 1, h =>
        have := slots_at hF as (k + 1) i v (by simpa using h) hv
        rw [show k + (i + 1) = k + 1 + i by omega]
        exact List.mem_cons_of_mem _ this
theorem sl_len {u : UV} (hF : (xF u).category = 1) (as : List Value) : (lg_sl (as.map (tv u))).length = (slots1 as).length := by
  induction as with
  | nil => rfl
  | cons a as ih =>
    unfold lg_sl slots1 at ih ⊢
    rw [List.map_cons, List.flatMap_cons, List.flatMap_cons, List.length_append, List.length_append, ih, tv_cat hF]
    split <;> rfl
theorem call_wp {u : UV} {z : Nat} {as : List Value} {hi : HI} {hl : HL} {K : Option Value → HI → HL → Prop} (hz : z < 228) (hn : (slots1 as).length ≤ mL z) (hg : (mG z || as.all (fun v => decide (v.category = 1))) = true) (h : Wp u z 0 (ent (mL z) as) [] hi hl K) : Call u z as hi hl K := by
  obtain ⟨m1, m2, m3, m4, m5, m6, m7, m8⟩ := mtOk hz
  refine Met.ofW (cc := mB z) (maxL := mL z) (ret := mR z) m5 rfl ?_
  intro p e s m args below meth c s₁ B hml hv
  obtain ⟨rfl, hI, hP⟩ := hv
  have hts := atoms_spec (ws := wsM z) B.pre
  have hF := hI.2.2.2.2.2.2.2.2
  rw [lg_entry_eq]
  have hown : s.vm.findClass (cN (mO z)) = some m.cls := by rw [← m4]; exact findClass_of_methodNamed B.named
  have hlen : (lg_sl (as.map (tv u))).length ≤ mL z := by rw [sl_len hF]; exact hn
  have hent : (ent (mL z) as).length = mL z := by
    unfold ent
    rw [List.length_append, List.length_replicate]
    omega
  refine h p e (headSpec (wsM z) (rmM z)).room s m _ below meth c 0 0 _ s.heap [] _ ⟨B.exec, B.bytes, B.returns, hml, hown, fun w hw => hts w (List.mem_cons_of_mem _ hw), hI, Nat.le_refl _, Nat.le_refl _, Nat.zero_le _, Nat.zero_le _⟩ ?_ ?_ hP va_S.rf ?_ hent
  · intro r hi' hl' H locs ls pc ins hK P S hr hd
    have hq : ∀ t : State, t.heap = H → s.WarmedH t.vm → qcM u K ((as.map (tv u)).toArray) s (.returned (r.map (tv u))) t := fun t ht _ => ⟨⟨r, hi', hl', rfl, hK, by rw [ht]; exact P⟩, S.F ht⟩
    match r, hr, hq with
    | some (.int v), ⟨e1, t, e2, e3⟩, hq => subst e1; exact W.zret B.exec B.bytes (by rw [B.returns]; exact e2) e3 hq S.2.2 hd B.notSynchronized
    | some (.long v), ⟨e1, e2⟩, hq => subst e1; exact W.lret B.exec B.bytes (by rw [B.returns]; exact e2) hq S.2.2 hd B.notSynchronized
    | some (.ref v), ⟨e1, n, e2⟩, hq => subst e1; exact W.aret B.exec B.bytes (by rw [B.returns]; exact e2) (Or.inl ⟨_, rfl⟩) (Or.inr ⟨_, rfl⟩) hq S.2.2 hd B.notSynchronized
    | none, ⟨e1, e2⟩, hq => subst e1; exact W.vret B.exec B.bytes (by rw [B.returns]; exact e2) hq S.2.2 hd B.notSynchronized
  · intro hq v hv
    rw [hq, Bool.false_or, List.all_eq_true] at hg
    unfold ent at hv
    rcases List.mem_append.mp hv with hv | hv
    · obtain ⟨a, ha, hva⟩ := List.mem_flatMap.mp hv
      have := of_decide_eq_true (hg a ha)
      rw [if_neg (by rw [this]; decide)] at hva
      rw [List.mem_singleton.mp hva]
      exact this
    · rw [(List.mem_replicate.mp hv).2]; rfl
  · have hlv := lv_entry (as.map (tv u)) hlen
    refine ⟨hlv.1, hlv.2.1, fun q hq => hlv.2.2 q ?_⟩
    obtain ⟨i, v, h1, h2, rfl⟩ := mem_asl.mp hq
    have h3 : (slots1 as)[i]? = some v := by
      unfold ent at h1
      rcases Nat.lt_or_ge i (slots1 as).length with q | q
      · rwa [List.getElem?_append_left q] at h1
      · rw [List.getElem?_append_right q] at h1
        have := List.mem_replicate.mp (List.mem_of_getElem? h1)
        exact absurd this.2 h2
    have := slots_at hF as 0 i v h3 h2
    rwa [Nat.zero_add] at this
theorem call_of {u : UV} {z : Nat} {as : List Value} {hi : HI} {hl : HL} {K : Option Value → HI → HL → Prop} (k : Nat) (hz : z < 228) (hn : (slots1 as).length ≤ mL z) (hg : (mG z || as.all (fun v => decide (v.category = 1))) = true) (h : vc u k z 0 (ent (mL z) as) [] hi hl K) : Call u z as hi hl K := call_wp hz hn hg (vc_ok (by omega) k 0 _ _ hi hl h)
