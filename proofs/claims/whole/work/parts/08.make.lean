/-! cells that are made; returns; calls -/
def cm_z {α : Type} (f : Nat → Nat → α) (n : Nat) (v : α) : Nat → Nat → α := fun b j => if b = n then v else f b j
theorem cm_z_ne {α : Type} {f : Nat → Nat → α} {n : Nat} {v : α} {b : Nat} (h : b ≠ n) : cm_z f n v b = f b := by funext j; simp [cm_z, h]
theorem cm_z_eq {α : Type} {f : Nat → Nat → α} {n : Nat} {v : α} : cm_z f n v n = fun _ => v := by funext j; simp [cm_z]
theorem cm_Wd_push {g : cm_G} {I I' : cm_I} {L L' : cm_L} {R R' : cm_R} {ds : cm_Ds} {H H1 : Heap} (w : cm_Wd g I L R ds H) {d : cm_E} (he : va_at g.2.2.1 cm_cl (g.1 + ds.length, cm_ent g I' L' R' ds.length d) H1) (z : H1.size = H.size + 1) (oq : ∀ q : Nat, q < H.size → H1[q]? = H[q]?) (hI : ∀ b, b ≠ ds.length → I' b = I b) (hL : ∀ b, b ≠ ds.length → L' b = L b) (hR : ∀ b, b ≠ ds.length → R' b = R b) : cm_Wd g I' L' R' (ds ++ [d]) H1 := by
  refine ⟨?_, by rw [z, w.2, List.length_append]; rfl⟩
  rw [← cm_cells_push (d := d) rfl (fun b hb => hI b (by omega)) (fun b hb => hL b (by omega)) (fun b hb => hR b (by omega))]
  refine va_P.app (w.1.kept fun k q hk => oq q.1 (w.1 k q hk).lt) (fun k q hk => ?_)
  have hz : k < 1 := (List.getElem?_eq_some_iff.mp hk).1
  rw [show k = 0 by omega] at hk
  cases hk
  exact he
theorem cm_S_push {g : cm_G} {H0 H H1 : Heap} {locs : List Loc} (hS : va_S (cm_A g) H0 H locs) (z : H1.size = H.size + 1) (oq : ∀ q : Nat, q < H.size → H1[q]? = H[q]?) : va_S (cm_A g) H0 H1 locs :=
  ⟨Nat.le_trans hS.1 (by omega), fun x h1 h2 => (oq x (Nat.lt_of_lt_of_le h1 hS.1)).trans (hS.2.1 x h1 h2), hS.2.2⟩
def cm_nw (own : String) (idx ci N : Nat) : Prop := ∃ (C : String) (T : u_T) (ty : Nat → FieldType), cm_cl[ci]? = some (C, T, N) ∧ (∀ w ∈ u_ws C T N, w ∈ cm_W0) ∧ (∀ k, k < N → parseFieldDescriptor (T k).2.2.1 = some (ty k)) ∧ Cond.classLink own idx C ∈ cm_W0 ∧ Cond.instantiable C N ∈ cm_W0 ∧ Cond.initialized C ∈ cm_W0 ∧
  (∀ k, k < N → ∃ kd, (cm_ks ci)[k]? = some kd ∧ defaultValue (ty k) = if kd = 2 then .null else if kd = 1 then .long 0 else .int 0)
section CM
variable {l : Launch} {g : cm_G} {d mc ms : Nat} {y : cm_M} {pc pc' : Nat} {ls st : List Value} {I : cm_I} {L : cm_L} {R : cm_R} {ds : cm_Ds} {Q : cm_Post}
theorem x_new {idx ci N n : Nat} (hq : cm_N y pc (.new idx) 3 pc') (hf : cm_nw y.1.cls idx ci N) (hn : ds.length = n) (kk : cm_Ex l g d mc ms y pc' ls (.ref n :: st) (cm_z I n 0) (cm_z L n 0) (cm_z R n none) (ds ++ [.inr ci]) Q) : cm_Ex l g d (mc + 1) (ms + N) y pc ls st I L R ds Q := by
  obtain ⟨hdg, rfl⟩ := hq
  obtain ⟨Cn, T, ty, h1, h2, h3, h4, h5, h6, h7⟩ := hf
  subst hn
  intro p e Rm s m args below meth c H locs cells slots kc ks als C w hS hl hr
  have hts : ∀ w ∈ cm_ws y, w.before args s = true := C.2.2.2.2.2.1
  have hin : ∀ w ∈ u_ws Cn T N, w ∈ cm_ws y := fun w hw => List.mem_cons_of_mem _ (h2 w hw)
  have hK := C.2.2.2.2.2.2.2.2.2.1
  have hKn := hK.1 ci _ h1
  obtain ⟨r1, r2, r3, r4, r5, r6⟩ := hr
  refine W.newcK C.1 C.2.1 C.2.2.2.2.1 (hts _ (List.mem_cons_of_mem _ h4)) (hts _ (List.mem_cons_of_mem _ h5)) (hts _ (List.mem_cons_of_mem _ h6)) rfl hdg (by omega) (by omega) hKn.2.1 w.2 fun H1 kC hkC e1 z1 o1 => ?_
  have z1' : H1.size = H.size + 1 := by rw [z1, w.2]
  have o1' : ∀ q : Nat, q < H.size → H1[q]? = H[q]? := fun q hq => o1 q (by rw [← w.2]; exact hq)
  refine kk p e Rm s m args below meth c H1 locs _ _ kc ks als C (cm_Wd_push w ⟨_, h1, (u_born ty hts hin hKn hkC e1 h3).to fun k hk => ?_⟩ z1' o1' (fun b hb => cm_z_ne hb) (fun b hb => cm_z_ne hb) (fun b hb => cm_z_ne hb)) (cm_S_push hS z1' o1') hl ⟨r1, r2, by omega, by omega, r5, r6⟩
  obtain ⟨kd, q1, q2⟩ := h7 k hk
  simp only [vp_V, List.getD_eq_getElem?_getD, cm_ksv q1, Option.getD_some, q2, cm_sv, cm_z_eq]
  split
  · rfl
  · split <;> rfl
theorem x_newa {at0 : ArrayType} {t N n : Nat} {i : Int32} (hq : cm_N y pc (.newarray at0) 2 pc') (ht : newarray.typeOf at0 = cm_aty t) (ht2 : t < 3) (hw : Cond.arrayClass (cm_aty t) ∈ cm_W0) (hi : i = nI N) (hN : N < 1000000) (hn : ds.length = n) (kk : cm_Ex l g d mc ms y pc' ls (.ref n :: st) (cm_z I n 0) (cm_z L n 0) (cm_z R n none) (ds ++ [.inl (t, N)]) Q) : cm_Ex l g d (mc + 1) (ms + N) y pc ls (.int i :: st) I L R ds Q := by
  obtain ⟨hdg, rfl⟩ := hq
  subst hn
  subst hi
  intro p e Rm s m args below meth c H locs cells slots kc ks als C w hS hl hr
  have hts : ∀ w ∈ cm_ws y, w.before args s = true := C.2.2.2.2.2.1
  have hK := C.2.2.2.2.2.2.2.2.2.1
  obtain ⟨r1, r2, r3, r4, r5, r6⟩ := hr
  have hcl : (nI N).toNatClampNeg = N := nI_clamp (by omega)
  have hb : componentBytes (newarray.typeOf at0) ≤ 8 := by cases at0 <;> decide
  refine va_newaK C.1 C.2.1 (by rw [ht]; exact hts _ (List.mem_cons_of_mem _ hw)) rfl hdg rfl (nI_pos (by omega)) hcl (Nat.le_trans (Nat.mul_le_mul_left N hb) (by omega)) (by omega) (by omega) w.2 fun H1 cA e1 z1 o1 hAr hNm => ?_
  have z1' : H1.size = H.size + 1 := by rw [z1, w.2]
  have o1' : ∀ q : Nat, q < H.size → H1[q]? = H[q]? := fun q hq => o1 q (by rw [← w.2]; exact hq)
  have hra := (hK.2 t _ (cm_tys_at g (by omega : t < 6))).2
  have hcA : cA = g.2.2.2.1 t := by
    rw [ht] at hNm
    rcases (by omega : t = 0 ∨ t = 1 ∨ t = 2) with rfl | rfl | rfl <;> exact Option.some.inj (hNm.symm.trans hra)
  subst hcA
  refine kk p e Rm s m args below meth c H1 locs _ _ kc ks als C (cm_Wd_push w ?_ z1' o1' (fun b hb => cm_z_ne hb) (fun b hb => cm_z_ne hb) (fun b hb => cm_z_ne hb)) (cm_S_push hS z1' o1') hl ⟨r1, r2, by omega, by omega, r5, r6⟩
  rw [ht] at e1
  rcases (by omega : t = 0 ∨ t = 1 ∨ t = 2) with rfl | rfl | rfl
  · refine cm_at_i.mpr (e1.trans ?_)
    rw [cm_z_eq]; rfl
  · refine cm_at_l.mpr (e1.trans ?_)
    rw [cm_z_eq]; rfl
  · refine cm_at_z.mpr (e1.trans ?_)
    rw [cm_z_eq]; rfl
theorem x_anew {idx t N n : Nat} {Cn : String} {i : Int32} (hq : cm_N y pc (.anewarray idx) 3 pc') (ht : cm_aty t = .object Cn) (ht2 : t = 3 ∨ t = 4 ∨ t = 5) (hw : Cond.classLink y.1.cls idx Cn ∈ cm_W0) (hi : i = nI N) (hN : N < 1000000) (hn : ds.length = n) (kk : cm_Ex l g d mc ms y pc' ls (.ref n :: st) (cm_z I n 0) (cm_z L n 0) (cm_z R n none) (ds ++ [.inl (t, N)]) Q) : cm_Ex l g d (mc + 1) (ms + N) y pc ls (.int i :: st) I L R ds Q := by
  obtain ⟨hdg, rfl⟩ := hq
  subst hn
  subst hi
  intro p e Rm s m args below meth c H locs cells slots kc ks als C w hS hl hr
  have hts : ∀ w ∈ cm_ws y, w.before args s = true := C.2.2.2.2.2.1
  have hK := C.2.2.2.2.2.2.2.2.2.1
  obtain ⟨r1, r2, r3, r4, r5, r6⟩ := hr
  have hcl : (nI N).toNatClampNeg = N := nI_clamp (by omega)
  have hover : va_AO Cn s := by
    obtain ⟨⟨-, a1, a2, a3⟩, -⟩ := C.2.2.2.2.2.2.2.2.1
    rcases ht2 with rfl | rfl | rfl <;> cases ht
    · exact a1
    · exact a2
    · exact a3
  refine W.anew C.1 C.2.1 C.2.2.2.2.1 (hts _ (List.mem_cons_of_mem _ hw)) (va_AO.use hover) rfl hdg rfl (nI_pos (by omega)) (by rw [hcl]; omega) (by omega) (by rw [hcl]; omega) fun cA kA comp f1 f2 f3 f4 => ?_
  rw [hcl]
  generalize hH1 : H.push ({ cls := cA, slots := Array.replicate N .null, vm := .none } : Cell) = H1
  have z1' : H1.size = H.size + 1 := by rw [← hH1, Array.size_push]
  have e1 : H1[H.size]? = some (arrV cA N (fun _ => .null)) := by rw [← hH1, Array.getElem?_push_size, ← arrV_new]
  have o1' : ∀ q : Nat, q < H.size → H1[q]? = H[q]? := fun q hq => by rw [← hH1, Array.getElem?_push, if_neg (Nat.ne_of_lt hq)]
  have hra := (hK.2 t _ (cm_tys_at g (by omega : t < 6))).2
  dsimp only at hra
  rw [ht] at hra
  obtain ⟨-, -, -, -, -, hra⟩ := hra
  have hcA : cA = g.2.2.2.1 t := Option.some.inj (f1.symm.trans hra)
  subst hcA
  rw [w.2] at e1 ⊢
  refine kk p e Rm s m args below meth c H1 locs _ _ kc ks als C (cm_Wd_push w ((cm_at_q (by omega)).mpr (e1.trans ?_)) z1' o1' (fun b hb => cm_z_ne hb) (fun b hb => cm_z_ne hb) (fun b hb => cm_z_ne hb)) (cm_S_push hS z1' o1') hl ⟨r1, r2, by omega, by omega, r5, r6⟩
  rw [cm_z_eq]; rfl
/-- Object's own constructor -/
theorem x_objInit {idx a : Nat} (hq : cm_N y pc (.invokespecial idx) 3 pc') (h1 : Cond.methodLink y.1.cls idx Lib.objectInit ∈ cm_W0) (h2 : Cond.instanceMethod Lib.objectInit ∈ cm_W0) (h3 : Cond.code Lib.objectInit ⟨#[0xb1]⟩ 1 none ∈ cm_W0) (hs : (st.map fun v => v.category).sum ≤ 8) (hd1 : 1 ≤ d) (kk : cm_Ex l g d mc ms y pc' ls st I L R ds Q) : cm_Ex l g d mc ms y pc ls (.ref a :: st) I L R ds Q := by
  obtain ⟨hdg, rfl⟩ := hq
  intro p e Rm s m args below meth c H locs cells slots kc ks als C w hS hl hr
  have hts : ∀ w ∈ cm_ws y, w.before args s = true := C.2.2.2.2.2.1
  have hcs : ((st.map (cm_em g)).map fun v => v.category).sum ≤ 8 := by
    rw [List.map_map]
    exact (show st.map ((fun v : Value => v.category) ∘ cm_em g) = st.map fun v => v.category from List.map_congr_left fun v _ => cm_cat C.2.2.2.2.2.2.2.2.1.2.1 v) ▸ hs
  refine W.objInit C.1 C.2.1 C.2.2.2.2.1 (hts _ (List.mem_cons_of_mem _ h1)) (hts _ (List.mem_cons_of_mem _ h2)) (hts _ (List.mem_cons_of_mem _ h3)) rfl (by rw [C.2.2.1]; exact hl.1) rfl hdg (Nat.le_trans hd1 hr.1) ?_ ?_
  · have := hr.2.1
    show 2 * 0 + _ + 12 ≤ _
    omega
  · exact kk p e Rm s m args below meth c H locs cells slots kc ks als C w hS hl hr
/-! returns -/
theorem cm_fin {g : cm_G} {p : Program} {s : State} {m : MethodId} {args : Array Value} {meth : Method} {c : Code} {H : Heap} {locs : List Loc} {y : cm_M} {Q : cm_Post} {r : Option Value} (C : cm_Cx g y p s m args meth c) (w : cm_Wd g I L R ds H) (hS : va_S (cm_A g) s.heap H locs) (hQ : Q r I L R ds) : ∀ t : State, t.heap = H → s.WarmedH t.vm → cm_Qc g Q args s (.returned (r.map (cm_em g))) t :=
  fun t ht _ => ⟨⟨r, I, L, R, ds, rfl, hQ, by rw [ht]; exact w⟩, hS.F ht⟩
theorem x_iret {v : Int32} {ty : FieldType} (hq : cm_N y pc .ireturn 1 pc') (hr0 : y.2.2.2 = some ty) (hn : narrow ty (.int v) = .int v) (hQ : Q (some (.int v)) I L R ds) : cm_Ex l g d mc ms y pc ls [.int v] I L R ds Q := by
  intro p e Rm s m args below meth c H locs cells slots kc ks als C w hS hl hr
  obtain ⟨r1, r2, r3, r4, r5, r6⟩ := hr
  exact W.widen (k := kc) (n := ks) (by omega) (by omega) (W.zret C.1 C.2.1 (C.2.2.2.1.trans hr0) hn (cm_fin C w hS hQ) hS.2.2 hq.1 C.2.2.2.2.2.2.2.1)
theorem x_lret {v : Int64} (hq : cm_N y pc .lreturn 1 pc') (hr0 : y.2.2.2 = some .long) (hQ : Q (some (.long v)) I L R ds) : cm_Ex l g d mc ms y pc ls [.long v] I L R ds Q := by
  intro p e Rm s m args below meth c H locs cells slots kc ks als C w hS hl hr
  obtain ⟨r1, r2, r3, r4, r5, r6⟩ := hr
  exact W.widen (k := kc) (n := ks) (by omega) (by omega) (W.lret C.1 C.2.1 (C.2.2.2.1.trans hr0) (cm_fin C w hS hQ) hS.2.2 hq.1 C.2.2.2.2.2.2.2.1)
theorem x_vret (hq : cm_N y pc .return_ 1 pc') (hr0 : y.2.2.2 = none) (hQ : Q none I L R ds) : cm_Ex l g d mc ms y pc ls [] I L R ds Q := by
  intro p e Rm s m args below meth c H locs cells slots kc ks als C w hS hl hr
  obtain ⟨r1, r2, r3, r4, r5, r6⟩ := hr
  exact W.widen (k := kc) (n := ks) (by omega) (by omega) (W.vret C.1 C.2.1 (C.2.2.2.1.trans hr0) (cm_fin C w hS hQ) hS.2.2 hq.1 C.2.2.2.2.2.2.2.1)
theorem x_aret {v : Value} {cn : String} (hq : cm_N y pc .areturn 1 pc') (hr0 : y.2.2.2 = some (.object cn)) (hi : cm_isr v) (hQ : Q (some v) I L R ds) : cm_Ex l g d mc ms y pc ls [v] I L R ds Q := by
  intro p e Rm s m args below meth c H locs cells slots kc ks als C w hS hl hr
  obtain ⟨r1, r2, r3, r4, r5, r6⟩ := hr
  have hv : cm_em g v = .null ∨ ∃ a, cm_em g v = .ref a := by
    cases v with
    | ref a => exact Or.inr ⟨_, rfl⟩
    | null => exact Or.inl rfl
    | retAddr j =>
      rcases C.2.2.2.2.2.2.2.2.1.2.1 j with ⟨t, h⟩ | h
      · exact Or.inr ⟨t, h⟩
      · exact Or.inl h
    | _ => exact absurd hi (fun h => h)
  exact W.widen (k := kc) (n := ks) (by omega) (by omega) (W.aret C.1 C.2.1 (C.2.2.2.1.trans hr0) (Or.inl ⟨_, rfl⟩) hv (cm_fin C w hS hQ) hS.2.2 hq.1 C.2.2.2.2.2.2.2.1)
end CM
