/-! the law's entry: what the tables and the statics give -/
theorem tbl_mem {w : Cond} (i : Nat) (h : tables_1[i]? = some w) : w ∈ lw_tbl := List.mem_append_right _ (List.mem_of_getElem? h)
theorem gl_prim {args : Array Value} {s : State} {ty : FieldType} (h : ty = .int ∨ ty = .long ∨ ty = .boolean) (hw : (Cond.arrayClass ty).before args s = true) : ∃ cA, ArrOfT s cA ty ∧ va_RA s cA ty := by
  obtain ⟨c, k, comp, h1, h2, h3⟩ := Cond.arrayClass_spec hw
  refine ⟨c, fun n z => ⟨(fun k h => by cases h), k, h2, comp, h3⟩, ?_⟩
  rcases h with rfl | rfl | rfl <;> exact h1
theorem gl_obj {args : Array Value} {s : State} {C : String} (hw : (Cond.arrayOver (.object C)).before args s = true) : ∃ cA, ArrOfT s cA (.object C) ∧ va_RA s cA (.object C) := by
  obtain ⟨comp, c, k, h1, h2, h3, h4, h5⟩ := Cond.arrayOver_spec hw
  exact ⟨c, fun n z => ⟨(fun k h => by cases h), k, h3, comp, h4⟩, k, comp, h3, h4, h1, h5⟩
theorem gl_cls {args : Array Value} {s : State} (hts : ∀ w ∈ lw_tbl, w.before args s = true) (c : Nat) : ∃ (cC : ClassId) (iS : Nat → Nat), ∀ q : vw_C, cm_cl[c]? = some q → u_Kn s q.1 q.2.1 q.2.2 cC iS := by
  have h0 : ∀ w ∈ cm_W0, w.before args s = true := fun w hw => hts w (List.mem_filter.mp hw).1
  have key : ∀ {C : String} {T : u_T} {N n : Nat}, (∀ w ∈ u_ws C T N, w ∈ cm_W0) → Cond.instantiable C n ∈ lw_tbl → cm_cl[c]? = some (C, T, N) → ∃ (cC : ClassId) (iS : Nat → Nat), ∀ q : vw_C, cm_cl[c]? = some q → u_Kn s q.1 q.2.1 q.2.2 cC iS := fun {C T N n} h1 h2 h3 => by
    obtain ⟨cC, iS, hk⟩ := u_known (n := n) h0 h1 (hts _ h2)
    refine ⟨cC, iS, fun q hq => ?_⟩
    rw [h3] at hq
    cases hq
    exact hk
  by_cases hc : c < 11
  · rcases (by omega : c = 0 ∨ c = 1 ∨ c = 2 ∨ c = 3 ∨ c = 4 ∨ c = 5 ∨ c = 6 ∨ c = 7 ∨ c = 8 ∨ c = 9 ∨ c = 10) with rfl | rfl | rfl | rfl | rfl | rfl | rfl | rfl | rfl | rfl | rfl
    · exact key wiX1 (tbl_mem 105 rfl) rfl
    · exact key wiX2 (tbl_mem 85 rfl) rfl
    · exact key wiX3 (tbl_mem 31 rfl) rfl
    · exact key wiX5 (tbl_mem 134 rfl) rfl
    · exact key wiX6 (tbl_mem 216 rfl) rfl
    · exact key wiX7 (tbl_mem 149 rfl) rfl
    · exact key wiX8 (tbl_mem 70 rfl) rfl
    · exact key wiX9 (tbl_mem 321 rfl) rfl
    · exact key wiX10 (tbl_mem 201 rfl) rfl
    · exact key wiX11 (tbl_mem 23 rfl) rfl
    · exact key (n := 45) wiX12 (tbl_mem 881 (by decide +kernel)) rfl
  · obtain ⟨cC, iS, hk⟩ := u_known (n := 6) h0 wiX1 (hts _ (tbl_mem 105 rfl))
    refine ⟨cC, iS, fun q hq => ?_⟩
    have := (List.getElem?_eq_some_iff.mp hq).1
    exact absurd this hc
theorem gl_arr {args : Array Value} {s : State} (hts : ∀ w ∈ lw_tbl, w.before args s = true) (t : Nat) : ∃ cA : ClassId, t < 6 → ArrOfT s cA (cm_aty t) ∧ va_RA s cA (cm_aty t) := by
  by_cases ht : t < 6
  · rcases (by omega : t = 0 ∨ t = 1 ∨ t = 2 ∨ t = 3 ∨ t = 4 ∨ t = 5) with rfl | rfl | rfl | rfl | rfl | rfl
    · obtain ⟨cA, h⟩ := gl_prim (ty := .int) (Or.inl rfl) (hts _ (tbl_mem 68 rfl)); exact ⟨cA, fun _ => h⟩
    · obtain ⟨cA, h⟩ := gl_prim (ty := .long) (Or.inr (Or.inl rfl)) (hts _ (tbl_mem 67 rfl)); exact ⟨cA, fun _ => h⟩
    · obtain ⟨cA, h⟩ := gl_prim (ty := .boolean) (Or.inr (Or.inr rfl)) (hts _ (tbl_mem 1022 (by decide +kernel))); exact ⟨cA, fun _ => h⟩
    · obtain ⟨cA, h⟩ := gl_obj (C := "CellarMeter$Thing") (hts _ (tbl_mem 37 rfl)); exact ⟨cA, fun _ => h⟩
    · obtain ⟨cA, h⟩ := gl_obj (C := "CellarMeter$House") (hts _ (tbl_mem 104 rfl)); exact ⟨cA, fun _ => h⟩
    · obtain ⟨cA, h⟩ := gl_obj (C := "CellarMeter$Tape") (hts _ (tbl_mem 215 rfl)); exact ⟨cA, fun _ => h⟩
  · obtain ⟨cA, h⟩ := gl_prim (ty := .int) (Or.inl rfl) (hts _ (tbl_mem 68 rfl)); exact ⟨cA, fun h => absurd h ht⟩
theorem gl_K {args : Array Value} {s : State} (hts : ∀ w ∈ lw_tbl, w.before args s = true) : ∃ (dC : Nat → ClassId) (dI : Nat → Nat → Nat) (dA : Nat → ClassId), va_K (dC, dI) cm_cl ((List.range 6).map fun t => (dA t, cm_aty t)) s := by
  obtain ⟨dC, h1⟩ := Classical.axiomOfChoice (gl_cls hts)
  obtain ⟨dI, h2⟩ := Classical.axiomOfChoice h1
  obtain ⟨dA, h3⟩ := Classical.axiomOfChoice (gl_arr hts)
  refine ⟨dC, dI, dA, fun c q hq => h2 c q hq, fun k q hk => ?_⟩
  have hk6 : k < 6 := by
    have := (List.getElem?_eq_some_iff.mp hk).1
    simpa using this
  have e : ((List.range 6).map fun t => (dA t, cm_aty t))[k]? = some (dA k, cm_aty k) := by
    simp [hk6]
  rw [e] at hk
  cases hk
  exact h3 k hk6
/-- the flat words of the start -/
def gl_F : List Cond := flatC (Jvm.Cond.and given_1 narrow_1)
abbrev gl_A : Term := .static "CellarMeter$Kinds" "ABOVE" "[I"
abbrev gl_B : Term := .static "CellarMeter$Acts" "BODIES" "[I"
def gl_k (i : Nat) : Nat := (cm_str.getD i (0, "", [])).1
abbrev gl_s (i : Nat) : Term := .string "CellarMeter$HouseReader" (gl_k i)
abbrev gl_len : List Nat := cm_str.map fun q => q.2.2.length
abbrev gl_byt : List (List Int32) := cm_str.map fun q => q.2.2
abbrev gl_ta : List Int32 := [-1, 0, 0, 0, 1, 0, 5]
abbrev gl_tb : List Int32 := [10, 11, 12, 0, 20, 0, 30, 0, 0, 0, 0, 40, 50, 51, 0, 0, 0, 60, 71, 70, 0]
theorem f_a1 : Cond.arrayOf gl_A .int ∈ gl_F := by decide +kernel
theorem f_a2 : Cond.eq (.length gl_A) (.int (Int32.ofNat 7)) ∈ gl_F := by decide +kernel
theorem f_a3 : ∀ j, j < 7 → Cond.eq (.elem gl_A (.int (Int32.ofNat j))) (.int (gl_ta.getD j 0)) ∈ gl_F := by decide +kernel
theorem f_b1 : Cond.arrayOf gl_B .int ∈ gl_F := by decide +kernel
theorem f_b2 : Cond.eq (.length gl_B) (.int (Int32.ofNat 21)) ∈ gl_F := by decide +kernel
theorem f_b3 : ∀ j, j < 21 → Cond.eq (.elem gl_B (.int (Int32.ofNat j))) (.int (gl_tb.getD j 0)) ∈ gl_F := by decide +kernel
theorem f_c : Cond.eq (.static "java/lang/String" "COMPACT_STRINGS" "Z") (.int 1) ∈ gl_F := by decide +kernel
theorem f_f : Cond.isRef (.static "jdk/internal/util/Preconditions" "SIOOBE_FORMATTER" "Ljava/util/function/BiFunction;") ∈ gl_F := by decide +kernel
theorem f_s1 : ∀ i, i < 8 → Cond.exactly (gl_s i) "java/lang/String" ∈ gl_F := by decide +kernel
theorem f_s2 : ∀ i, i < 8 → Cond.eq (.field (gl_s i) "java/lang/String" "coder" "B") (.int 0) ∈ gl_F := by decide +kernel
theorem f_s3 : ∀ i, i < 8 → Cond.arrayOf (.field (gl_s i) "java/lang/String" "value" "[B") .byte ∈ gl_F := by decide +kernel
theorem f_s4 : ∀ i, i < 8 → Cond.eq (.length (.field (gl_s i) "java/lang/String" "value" "[B")) (.int (Int32.ofNat (gl_len.getD i 0))) ∈ gl_F := by decide +kernel
theorem f_s5 : ∀ i, i < 8 → ∀ j, j < gl_len.getD i 0 → Cond.eq (.elem (.field (gl_s i) "java/lang/String" "value" "[B") (.int (Int32.ofNat j))) (.int ((gl_byt.getD i []).getD j 0)) ∈ gl_F := by decide +kernel
theorem f_s6 : ∀ i, i < 8 → ∀ j, j < 8 → i ≠ j → Cond.not (Cond.eq (gl_s i) (gl_s j)) ∈ gl_F ∨ Cond.not (Cond.eq (gl_s j) (gl_s i)) ∈ gl_F := by decide +kernel
