/-! THE ABSTRACT MACHINE: memory as functions of (cell, place); an abstract reference k is the cell at base + k. Each instruction's rule is proved once from the kit's row. -/
abbrev cm_M : Type := MethodName × ByteArray × Nat × Option FieldType
def cm_W0 : List Cond := lw_tbl.filter goodWord
def cm_ws (y : cm_M) : List Cond := .code y.1 y.2.1 y.2.2.1 y.2.2.2 :: cm_W0
def cm_isN : Cond → Bool
  | .fieldLinkNest .. => true
  | .methodLinkNest .. => true
  | _ => false
def cm_nest : List Cond := lw_tbl.filter cm_isN
/-- base, the statics' values, the classes' ids and slots, the array classes' ids by type number, the script's length and its ints -/
abbrev cm_G : Type := Nat × (Nat → Value) × va_G × (Nat → ClassId) × Nat × (Nat → Int32)
abbrev cm_I : Type := Nat → Nat → Int32
abbrev cm_L : Type := Nat → Nat → Int64
abbrev cm_R : Type := Nat → Nat → Option Nat
/-- what a cell is: an array (number of its type, length), or an object (number of its class) -/
abbrev cm_E : Type := (Nat × Nat) ⊕ Nat
abbrev cm_Ds : Type := List cm_E
/-- an abstract value: .ref k a cell of ours, .retAddr j a static thing, .float 0 a local that is unset -/
def cm_em (g : cm_G) : Value → Value
  | .ref k => .ref (g.1 + k)
  | .retAddr j => g.2.1 j
  | v => v
def cm_rv : Option Nat → Value
  | none => .null
  | some a => .ref a
def cm_isr : Value → Prop
  | .ref _ => True
  | .null => True
  | .retAddr _ => True
  | _ => False
theorem cm_isr_rv (o : Option Nat) : cm_isr (cm_rv o) := by cases o <;> trivial
/-- kinds of the fields: 0 int, 1 long, 2 reference, 3 boolean -/
def cm_kl : List (List Nat) := [[2, 2, 2, 0, 0, 0], [2, 2, 0, 3], [2, 2, 2, 2, 2, 1, 0, 0], [2, 0], [2, 0, 0], [2, 2, 2, 2, 2, 2, 2, 2, 2, 2, 2, 2, 2, 0, 0], [2, 0], [0, 0, 0], [2, 0], [2, 2, 2, 2, 2, 2, 2, 2, 2, 2, 2, 2, 0, 0, 0, 3], [0, 0, 2, 2, 0, 0, 0, 0, 0, 2, 2, 2, 2, 2, 2, 2, 2, 2, 0, 0, 0, 2, 2, 2, 2, 2, 2, 2, 2, 2, 2, 2, 2, 2, 2, 3, 0, 2, 2, 0, 2, 2, 2, 2, 2]]
def cm_ks (ci : Nat) : List Nat := cm_kl.getD ci []
def cm_aty : Nat → FieldType
  | 0 => .int
  | 1 => .long
  | 2 => .boolean
  | 3 => .object "CellarMeter$Thing"
  | 4 => .object "CellarMeter$House"
  | _ => .object "CellarMeter$Tape"
def cm_tys (g : cm_G) : List (ClassId × FieldType) := (List.range 6).map fun t => (g.2.2.2.1 t, cm_aty t)
def cm_sv (I : cm_I) (L : cm_L) (R : cm_R) (a k kd : Nat) : Value := if kd = 2 then cm_rv (R a k) else if kd = 1 then .long (L a k) else .int (I a k)
def cm_fs (g : cm_G) (I : cm_I) (L : cm_L) (R : cm_R) (a ci : Nat) : List Value := (cm_ks ci).mapIdx fun k kd => cm_em g (cm_sv I L R a k kd)
def cm_ent (g : cm_G) (I : cm_I) (L : cm_L) (R : cm_R) (a : Nat) : cm_E → va_E
  | .inl (t, n) => .inl (g.2.2.2.1 t, n, if t = 0 ∨ t = 2 then .inl (I a) else if t = 1 then .inr (.inl (L a)) else .inr (.inr (.inr (.inr (fun j => (R a j).map (g.1 + ·))))))
  | .inr ci => .inr (ci, cm_fs g I L R a ci)
def cm_cells (g : cm_G) (I : cm_I) (L : cm_L) (R : cm_R) (ds : cm_Ds) : va_W := ds.mapIdx fun a d => (g.1 + a, cm_ent g I L R a d)
def cm_u {α : Type} (f : Nat → Nat → α) (a k : Nat) (v : α) : Nat → Nat → α := fun b j => if b = a then (if j = k then v else f b j) else f b j
def cm_A (g : cm_G) : Nat → Prop := fun q => g.1 ≤ q
/-- the String constants: entry in HouseReader's pool, text, bytes -/
def cm_str : List (Nat × String × List Int32) := [(48, "bar ", [98, 97, 114, 32]), (57, "glad ", [103, 108, 97, 100, 32]), (63, "give ", [103, 105, 118, 101, 32]), (71, "take ", [116, 97, 107, 101, 32]), (73, "0123", [48, 49, 50, 51]), (102, "abcdr", [97, 98, 99, 100, 114]), (104, "<=>", [60, 61, 62]), (109, "0123456789", [48, 49, 50, 51, 52, 53, 54, 55, 56, 57])]
/-- the statics: 0 ABOVE, 1 BODIES, 2 the formatter (a reference or null), 3 the script, 10 + i a text, 30 + i its bytes -/
def cm_St (g : cm_G) (U : State) (H : Heap) : Prop :=
  ((∀ w ∈ cm_nest, va_Nw w U) ∧ va_AO "CellarMeter$Thing" U ∧ va_AO "CellarMeter$House" U ∧ va_AO "CellarMeter$Tape" U) ∧ (∀ j, (∃ t, g.2.1 j = .ref t) ∨ g.2.1 j = .null) ∧
  (∃ t, g.2.1 0 = .ref t ∧ va_Z "CellarMeter$Kinds" "ABOVE" "[I" (.ref t) (cm_A g) U H ∧ va_T .int t 7 (fun j => .int (([-1, 0, 0, 0, 1, 0, 5] : List Int32).getD j 0)) (cm_A g) U H) ∧
  (∃ t, g.2.1 1 = .ref t ∧ va_Z "CellarMeter$Acts" "BODIES" "[I" (.ref t) (cm_A g) U H ∧ va_T .int t 21 (fun j => .int (([10, 11, 12, 0, 20, 0, 30, 0, 0, 0, 0, 40, 50, 51, 0, 0, 0, 60, 71, 70, 0] : List Int32).getD j 0)) (cm_A g) U H) ∧
  va_Z "jdk/internal/util/Preconditions" "SIOOBE_FORMATTER" "Ljava/util/function/BiFunction;" (g.2.1 2) (cm_A g) U H ∧
  va_Z "java/lang/String" "COMPACT_STRINGS" "Z" (.int 1) (cm_A g) U H ∧
  (∃ t, g.2.1 3 = .ref t ∧ va_T .int t g.2.2.2.2.1 (fun j => .int (g.2.2.2.2.2 j)) (cm_A g) U H ∧ g.2.2.2.2.1 ≤ 3072) ∧
  (∃ adK adV : Nat → Nat, vk_S 8 (cm_str.map fun q => q.2.2.length) (cm_str.map fun q => q.2.2) adK adV (cm_A g) U H ∧ ∀ i (q : Nat × String × List Int32), cm_str[i]? = some q → g.2.1 (10 + i) = .ref (adK i) ∧ g.2.1 (30 + i) = .ref (adV i) ∧ vk_R "CellarMeter$HouseReader" q.1 q.2.1 (adK i) U)
def cm_Cx (g : cm_G) (y : cm_M) (p : Program) (s : State) (m : MethodId) (args : Array Value) (meth : Method) (c : Code) : Prop :=
  p.tables.exec = Jvm.exec ∧ c.code = y.2.1 ∧ c.maxLocals = y.2.2.1 ∧ meth.sig.returnType = y.2.2.2 ∧ s.vm.findClass y.1.cls = some m.cls ∧ (∀ w ∈ cm_ws y, w.before args s = true) ∧ meth.name = y.1.name ∧ meth.locks = false ∧ cm_St g s s.heap ∧ va_K g.2.2.1 cm_cl (cm_tys g) s ∧ g.1 ≤ s.heap.size
def cm_Wd (g : cm_G) (I : cm_I) (L : cm_L) (R : cm_R) (ds : cm_Ds) (H : Heap) : Prop := va_P g.2.2.1 cm_cl (cm_cells g I L R ds) H ∧ H.size = g.1 + ds.length
def cm_Rm (d mc ms cells slots kc ks : Nat) (Rm : Room) : Prop := d ≤ Rm.frames ∧ 64 * d ≤ Rm.locals ∧ cells + mc ≤ kc ∧ slots + ms ≤ ks ∧ kc ≤ Rm.cells ∧ ks ≤ Rm.slots
def cm_lv (g : cm_G) : Nat → List Value → List (Nat × Value)
  | _, [] => []
  | i, v :: r => match v with
    | .float _ => cm_lv g (i + 1) r
    | w => (i, cm_em g w) :: cm_lv g (i + 1) r
abbrev cm_Post : Type := Option Value → cm_I → cm_L → cm_R → cm_Ds → Prop
def cm_Qc (g : cm_G) (Q : cm_Post) : Array Value → State → Outcome → State → Prop := fun _ st oc t =>
  (∃ (r : Option Value) (I : cm_I) (L : cm_L) (R : cm_R) (ds : cm_Ds), oc = .returned (r.map (cm_em g)) ∧ Q r I L R ds ∧ cm_Wd g I L R ds t.heap) ∧ va_F (cm_A g) st t
/-- from the frame (method y at pc, locals ls, stack st) over the memory (I, L, R, ds) the method returns, and Q holds of its answer and the memory behind it; at most mc cells of ms places are made; calls go at most d deep -/
def cm_Ex (l : Launch) (g : cm_G) (d mc ms : Nat) (y : cm_M) (pc : Nat) (ls st : List Value) (I : cm_I) (L : cm_L) (R : cm_R) (ds : cm_Ds) (Q : cm_Post) : Prop :=
  ∀ (p : Program) (e : Env) (Rm : Room) (s : State) (m : MethodId) (args : Array Value) (below : List Frame) (meth : Method) (c : Code) (H : Heap) (locs : List Loc) (cells slots kc ks : Nat) (als : Array Slot),
    cm_Cx g y p s m args meth c → cm_Wd g I L R ds H → va_S (cm_A g) s.heap H locs → lv_has als y.2.2.1 (cm_lv g 0 ls) → cm_Rm d mc ms cells slots kc ks Rm →
    W p l e Rm s m args below meth c H locs cells slots (MQ below (cm_Qc g Q) args s kc ks (cm_A g)) (F0 m pc als (st.map (cm_em g)))
def cm_N (y : cm_M) (pc : Nat) (i : Instr) (n pc' : Nat) : Prop := decode y.2.1 pc = .ok (i, n) ∧ pc + n = pc'
