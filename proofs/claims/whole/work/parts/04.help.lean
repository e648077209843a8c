/-! helpers: locals, cells -/
theorem cm_cat {g : cm_G} (hz : ∀ j, (∃ t, g.2.1 j = .ref t) ∨ g.2.1 j = .null) (v : Value) : (cm_em g v).category = v.category := by
  cases v with
  | retAddr j =>
    show (g.2.1 j).category = 1
    rcases hz j with ⟨t, h⟩ | h <;> rw [h] <;> rfl
  | _ => rfl
theorem cm_lv_mem {g : cm_G} : ∀ {ls : List Value} {i : Nat} {q : Nat × Value}, q ∈ cm_lv g i ls → ∃ j v, ls[j]? = some v ∧ q = (i + j, cm_em g v) ∧ ∀ b, v ≠ .float b := by
  intro ls
  induction ls with
  | nil => intro i q h; simp [cm_lv] at h
  | cons v r ih =>
    intro i q h
    have tail : q ∈ cm_lv g (i + 1) r → ∃ j v', (v :: r)[j]? = some v' ∧ q = (i + j, cm_em g v') ∧ ∀ b, v' ≠ .float b := by
      intro h
      obtain ⟨j, v', h1, h2, h3⟩ := ih h
      exact ⟨j + 1, v', by simpa using h1, by rw [h2]; congr 1; omega, h3⟩
    have head : (∀ b, v ≠ .float b) → q ∈ (i, cm_em g v) :: cm_lv g (i + 1) r → ∃ j v', (v :: r)[j]? = some v' ∧ q = (i + j, cm_em g v') ∧ ∀ b, v' ≠ .float b := by
      intro hb h
      rcases List.mem_cons.mp h with h | h
      · exact ⟨0, v, rfl, by rw [h]; rfl, hb⟩
      · exact tail h
    cases v with
    | float b => exact tail h
    | int x => exact head (fun b h => by cases h) h
    | long x => exact head (fun b h => by cases h) h
    | double x => exact head (fun b h => by cases h) h
    | null => exact head (fun b h => by cases h) h
    | ref a => exact head (fun b h => by cases h) h
    | retAddr j => exact head (fun b h => by cases h) h
theorem cm_lv_in {g : cm_G} : ∀ {ls : List Value} {i j : Nat} {v : Value}, ls[j]? = some v → (∀ b, v ≠ .float b) → (i + j, cm_em g v) ∈ cm_lv g i ls := by
  intro ls
  induction ls with
  | nil => intro i j v h; simp at h
  | cons w r ih =>
    intro i j v h hb
    cases j with
    | zero =>
      have hw : w = v := by simpa using h
      subst hw
      cases w with
      | float b => exact absurd rfl (hb b)
      | int x => exact List.mem_cons_self
      | long x => exact List.mem_cons_self
      | double x => exact List.mem_cons_self
      | null => exact List.mem_cons_self
      | ref a => exact List.mem_cons_self
      | retAddr j => exact List.mem_cons_self
    | succ j =>
      have h' : r[j]? = some v := by simpa using h
      have hm := ih (i := i + 1) h' hb
      rw [show i + 1 + j = i + (j + 1) by omega] at hm
      cases w with
      | float b => exact hm
      | int x => exact List.mem_cons_of_mem _ hm
      | long x => exact List.mem_cons_of_mem _ hm
      | double x => exact List.mem_cons_of_mem _ hm
      | null => exact List.mem_cons_of_mem _ hm
      | ref a => exact List.mem_cons_of_mem _ hm
      | retAddr j => exact List.mem_cons_of_mem _ hm
theorem cm_lv_at {g : cm_G} {als : Array Slot} {n : Nat} {ls : List Value} (h : lv_has als n (cm_lv g 0 ls)) {i : Nat} {v : Value} (hv : ls[i]? = some v) (hb : ∀ b, v ≠ .float b) : als[i]? = some (.val (cm_em g v)) := by
  have h1 := h.2.2 _ (cm_lv_in (g := g) (i := 0) hv hb)
  simpa using h1
theorem cm_lv_has {g : cm_G} {als : Array Slot} {n : Nat} {l : List (Nat × Value)} {ls : List Value} (h : lv_has als n l) (hs : ∀ j v, ls[j]? = some v → (∀ b, v ≠ .float b) → (j, cm_em g v) ∈ l) : lv_has als n (cm_lv g 0 ls) := by
  refine ⟨h.1, h.2.1, fun q hq => ?_⟩
  obtain ⟨j, v, h1, h2, h3⟩ := cm_lv_mem hq
  rw [h2, Nat.zero_add]
  exact h.2.2 _ (hs j v h1 h3)
/-- behind a store of one slot -/
theorem cm_lv_st1 {g : cm_G} (hz : ∀ j, (∃ t, g.2.1 j = .ref t) ∨ g.2.1 j = .null) {als : Array Slot} {n : Nat} {ls : List Value} {i : Nat} {v : Value}
    (h : lv_has als n ((i, cm_em g v) :: (cm_lv g 0 ls).filter (fun q => !(q.1 == i) && !(q.1 + 1 == i && q.2.category == 2)))) (hc : ∀ w, 0 < i → ls[i - 1]? = some w → w.category = 1) : lv_has als n (cm_lv g 0 (ls.set i v)) := by
  refine cm_lv_has h fun j w hj hb => ?_
  by_cases e : j = i
  · subst e
    have hl : j < ls.length := by
      have := (List.getElem?_eq_some_iff.mp hj).1
      simpa using this
    rw [List.getElem?_set_self hl] at hj
    cases hj
    exact List.mem_cons_self
  · rw [List.getElem?_set_ne (Ne.symm e)] at hj
    refine List.mem_cons_of_mem _ (List.mem_filter.mpr ⟨?_, ?_⟩)
    · have := cm_lv_in (g := g) (i := 0) hj hb
      simpa using this
    · simp only [Bool.and_eq_true, Bool.not_eq_true', beq_eq_false_iff_ne, ne_eq, Bool.and_eq_false_iff]
      refine ⟨e, ?_⟩
      by_cases e2 : j + 1 = i
      · right
        rw [cm_cat hz, hc w (by omega) (by rw [← e2]; simpa using hj)]
        decide
      · exact Or.inl e2
/-- behind a store of two slots -/
theorem cm_lv_st2 {g : cm_G} (hz : ∀ j, (∃ t, g.2.1 j = .ref t) ∨ g.2.1 j = .null) {als : Array Slot} {n : Nat} {ls : List Value} {i : Nat} {v : Value}
    (h : lv_has als n ((i, cm_em g v) :: (cm_lv g 0 ls).filter (fun q => !(q.1 == i) && (!(q.1 == i + 1) && !(q.1 + 1 == i && q.2.category == 2))))) (hc : ∀ w, 0 < i → ls[i - 1]? = some w → w.category = 1) : lv_has als n (cm_lv g 0 ((ls.set i v).set (i + 1) (.float 0))) := by
  refine cm_lv_has h fun j w hj hb => ?_
  by_cases e1 : j = i + 1
  · subst e1
    have hl : i + 1 < ls.length := by
      have := (List.getElem?_eq_some_iff.mp hj).1
      simpa using this
    rw [List.getElem?_set_self (by simpa using hl)] at hj
    cases hj
    exact absurd rfl (hb 0)
  rw [List.getElem?_set_ne (Ne.symm e1)] at hj
  by_cases e : j = i
  · subst e
    have hl : j < ls.length := by
      have := (List.getElem?_eq_some_iff.mp hj).1
      simpa using this
    rw [List.getElem?_set_self hl] at hj
    cases hj
    exact List.mem_cons_self
  · rw [List.getElem?_set_ne (Ne.symm e)] at hj
    refine List.mem_cons_of_mem _ (List.mem_filter.mpr ⟨?_, ?_⟩)
    · have := cm_lv_in (g := g) (i := 0) hj hb
      simpa using this
    · simp only [Bool.and_eq_true, Bool.not_eq_true', beq_eq_false_iff_ne, ne_eq, Bool.and_eq_false_iff]
      refine ⟨e, e1, ?_⟩
      by_cases e2 : j + 1 = i
      · right
        rw [cm_cat hz, hc w (by omega) (by rw [← e2]; simpa using hj)]
        decide
      · exact Or.inl e2
/-! cells -/
theorem cm_cells_at (g : cm_G) (I : cm_I) (L : cm_L) (R : cm_R) {ds : cm_Ds} {a : Nat} {d : cm_E} (h : ds[a]? = some d) : (cm_cells g I L R ds)[a]? = some (g.1 + a, cm_ent g I L R a d) := by
  simp [cm_cells, List.getElem?_mapIdx, h]
theorem cm_ent_of {g : cm_G} {I I' : cm_I} {L L' : cm_L} {R R' : cm_R} {a : Nat} (hI : I' a = I a) (hL : L' a = L a) (hR : R' a = R a) (d : cm_E) : cm_ent g I' L' R' a d = cm_ent g I L R a d := by
  rcases d with ⟨t, n⟩ | ci
  · simp only [cm_ent, hI, hL, hR]
  · simp only [cm_ent, cm_fs, cm_sv, hI, hL, hR]
theorem cm_cells_set {g : cm_G} {I I' : cm_I} {L L' : cm_L} {R R' : cm_R} {ds : cm_Ds} {a : Nat} {d : cm_E} (h : ds[a]? = some d) {e : va_E} (he : cm_ent g I' L' R' a d = e) (hI : ∀ b, b ≠ a → I' b = I b) (hL : ∀ b, b ≠ a → L' b = L b) (hR : ∀ b, b ≠ a → R' b = R b) :
    (cm_cells g I L R ds).set a (g.1 + a, e) = cm_cells g I' L' R' ds := by
  apply List.ext_getElem?
  intro i
  by_cases hi : i = a
  · subst hi
    have hl : i < (cm_cells g I L R ds).length := (List.getElem?_eq_some_iff.mp (cm_cells_at g I L R h)).1
    rw [List.getElem?_set_self hl, cm_cells_at g I' L' R' h, he]
  · rw [List.getElem?_set_ne (Ne.symm hi)]
    simp only [cm_cells, List.getElem?_mapIdx]
    cases hd : ds[i]? with
    | none => rfl
    | some d' => simp [cm_ent_of (hI i hi) (hL i hi) (hR i hi)]
theorem cm_u_ne {α : Type} {f : Nat → Nat → α} {a k : Nat} {v : α} {b : Nat} (h : b ≠ a) : cm_u f a k v b = f b := by
  funext j; simp [cm_u, h]
theorem cm_dst {g : cm_G} {I : cm_I} {L : cm_L} {R : cm_R} {ds : cm_Ds} : va_D (cm_A g) (cm_cells g I L R ds) := by
  have key : ∀ (k : Nat) (q : Nat × va_E), (cm_cells g I L R ds)[k]? = some q → q.1 = g.1 + k := by
    intro k q h
    simp only [cm_cells, List.getElem?_mapIdx] at h
    cases hd : ds[k]? with
    | none => rw [hd] at h; cases h
    | some d => rw [hd] at h; cases h; rfl
  refine ⟨fun i j p q hi hj hpq => ?_, fun k q hk => ?_⟩
  · rw [key i p hi, key j q hj] at hpq
    omega
  · rw [key k q hk]
    exact Nat.le_add_right _ _
theorem cm_cells_push {g : cm_G} {I I' : cm_I} {L L' : cm_L} {R R' : cm_R} {ds : cm_Ds} {d : cm_E} {e : va_E} (he : cm_ent g I' L' R' ds.length d = e) (hI : ∀ b, b < ds.length → I' b = I b) (hL : ∀ b, b < ds.length → L' b = L b) (hR : ∀ b, b < ds.length → R' b = R b) :
    cm_cells g I L R ds ++ [(g.1 + ds.length, e)] = cm_cells g I' L' R' (ds ++ [d]) := by
  apply List.ext_getElem?
  intro i
  have hlen : (cm_cells g I L R ds).length = ds.length := by simp [cm_cells]
  by_cases hi : i < ds.length
  · rw [List.getElem?_append_left (by rw [hlen]; exact hi)]
    simp only [cm_cells, List.getElem?_mapIdx]
    rw [List.getElem?_append_left hi]
    cases hd : ds[i]? with
    | none => rfl
    | some d' => simp [cm_ent_of (hI i hi) (hL i hi) (hR i hi)]
  · rw [List.getElem?_append_right (by rw [hlen]; omega), hlen]
    simp only [cm_cells, List.getElem?_mapIdx]
    rw [List.getElem?_append_right (by omega)]
    by_cases h2 : i = ds.length
    · subst h2
      simp [he]
    · rw [List.getElem?_eq_none (by simp; omega), List.getElem?_eq_none (by simp; omega)]
      rfl
/-! what the tables say of fields and methods, by numbers -/
def cm_fl (own : String) (idx ci k kd : Nat) (fin : Bool) : Prop := ∃ (C : String) (T : u_T) (N : Nat) (ty : Nat → FieldType), cm_cl[ci]? = some (C, T, N) ∧ (∀ w ∈ u_ws C T N, w ∈ cm_W0) ∧ (∀ k, k < N → parseFieldDescriptor (T k).2.2.1 = some (ty k)) ∧ (∀ a, a < N → ∀ b, b < N → a ≠ b → (T a).2.1 ≠ (T b).2.1) ∧ k < N ∧ (cm_ks ci)[k]? = some kd ∧
  (Cond.fieldLink own idx (T k).1 (T k).2.1 (T k).2.2.1 ∈ cm_W0 ∨ ∃ host, Cond.fieldLinkNest own idx (T k).1 (T k).2.1 (T k).2.2.1 host ∈ cm_nest) ∧
  (T k).2.2.2 = fin ∧ (kd = 0 → ty k = .int) ∧ (kd = 1 → ty k = .long) ∧ (kd = 3 → ty k = .boolean) ∧ (kd = 2 → (∃ n, ty k = .object n) ∨ ∃ t, ty k = .array t)
/-- a final field of the class's own -/
def cm_fo (own : String) (idx ci k : Nat) : Prop := ∀ (C : String) (T : u_T) (N : Nat), cm_cl[ci]? = some (C, T, N) → (T k).1 = own ∧ Cond.fieldLink own idx (T k).1 (T k).2.1 (T k).2.2.1 ∈ cm_W0
theorem cm_ksv {g : cm_G} {I : cm_I} {L : cm_L} {R : cm_R} {a ci k kd : Nat} (h : (cm_ks ci)[k]? = some kd) : (cm_fs g I L R a ci)[k]? = some (cm_em g (cm_sv I L R a k kd)) := by
  simp [cm_fs, List.getElem?_mapIdx, h]
section CM
variable {l : Launch} {g : cm_G} {d mc ms : Nat} {y : cm_M} {pc pc' : Nat} {ls st : List Value} {I : cm_I} {L : cm_L} {R : cm_R} {ds : cm_Ds} {Q : cm_Post}
theorem x_getf {idx : Nat} (hq : cm_N y pc (.getfield idx) 3 pc') {ci k kd a : Nat} {fin : Bool} (hf : cm_fl y.1.cls idx ci k kd fin) (hd : ds[a]? = some (.inr ci)) (kk : cm_Ex l g d mc ms y pc' ls (cm_sv I L R a k kd :: st) I L R ds Q) : cm_Ex l g d mc ms y pc ls (.ref a :: st) I L R ds Q := by
  obtain ⟨hdg, rfl⟩ := hq
  obtain ⟨Cn, T, N, ty, h1, h2, h3, h4, h5, h6, h8, -⟩ := hf
  intro p e Rm s m args below meth c H locs cells slots kc ks als C w hS hl hr
  have hts : ∀ w ∈ cm_ws y, w.before args s = true := C.2.2.2.2.2.1
  have hin : ∀ w ∈ u_ws Cn T N, w ∈ cm_ws y := fun w hw => List.mem_cons_of_mem _ (h2 w hw)
  have k1 := kk p e Rm s m args below meth c H locs cells slots kc ks als C w hS hl hr
  rcases h8 with h8 | ⟨host, h8⟩
  · exact va_get C.1 C.2.1 hts hin C.2.2.2.2.1 C.2.2.2.2.2.2.2.2.2.1 w.1 a (cm_cells_at g I L R hd) h1 k h5 (hts _ (List.mem_cons_of_mem _ h8)) (fun _ h => h) (cm_ksv h6) hdg k1
  · exact va_getN C.1 C.2.1 hts hin C.2.2.2.2.1 C.2.2.2.2.2.2.2.2.2.1 w.1 a (cm_cells_at g I L R hd) h1 k h5 (va_Nw.use rfl (C.2.2.2.2.2.2.2.2.1.1.1 _ h8)) (fun _ h => h) (cm_ksv h6) hdg k1
end CM
