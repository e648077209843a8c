/-! calls -/
theorem cm_good {w : Cond} (h : w ∈ cm_W0) : goodWord w = true := (List.mem_filter.mp h).2
theorem cm_St_to {g : cm_G} {s U : State} {H0 H : Heap} (h : cm_St g s H0) (hW : s.WarmedH U.vm) (hq : ∀ a : Nat, a < H0.size → ¬ cm_A g a → H[a]? = H0[a]?) : cm_St g U H := by
  have hvm := hW.alike
  obtain ⟨⟨h1, a1, a2, a3⟩, h2, ⟨t0, h30, h31, h32⟩, ⟨t1, h40, h41, h42⟩, h5, h6, ⟨t2, h90, h91, h92⟩, adK, adV, h7, h8⟩ := h
  refine ⟨⟨fun w hw => ?_, a1.moved hvm, a2.moved hvm, a3.moved hvm⟩, h2, ⟨t0, h30, (va_Z.moved hvm h31).kept hq, (va_T.moved hvm h32).kept hq⟩, ⟨t1, h40, (va_Z.moved hvm h41).kept hq, (va_T.moved hvm h42).kept hq⟩, (va_Z.moved hvm h5).kept hq, (va_Z.moved hvm h6).kept hq, ⟨t2, h90, (va_T.moved hvm h91).kept hq, h92⟩, adK, adV, (vk_S.moved hvm h7).kept hq, fun i q hi => ?_⟩
  · have hn : cm_isN w = true := (List.mem_filter.mp hw).2
    have h0 := h1 w hw
    cases w <;> first | exact va_Nw.warmF hW h0 | exact va_Nw.warmM hW h0 | exact absurd hn (by simp [cm_isN])
  · obtain ⟨q1, q2, q3⟩ := h8 i q hi
    exact ⟨q1, q2, vk_R.warm hW q3⟩
def cm_xp : List Value → List Value
  | [] => []
  | v :: r => match v with
    | .long x => .long x :: .float 0 :: cm_xp r
    | w => w :: cm_xp r
def cm_loc (as : List Value) (n : Nat) : List Value := cm_xp as ++ List.replicate (n - (cm_xp as).length) (.float 0)
def cm_nd : List Value → Bool
  | [] => true
  | v :: r => match v with
    | .double _ => false
    | .float _ => false
    | _ => cm_nd r
theorem cm_xp_in {g : cm_G} (hz : ∀ j, (∃ t, g.2.1 j = .ref t) ∨ g.2.1 j = .null) : ∀ {as : List Value} {i j : Nat} {v : Value}, cm_nd as = true → (cm_xp as)[j]? = some v → (∀ b, v ≠ .float b) → (i + j, cm_em g v) ∈ lv_args i (as.map (cm_em g)) := by
  intro as
  induction as with
  | nil => intro i j v _ h; simp [cm_xp] at h
  | cons a r ih =>
    intro i j v hnd h hb
    have one : ∀ (hc : (cm_em g a).category = 1) (hnd' : cm_nd r = true) (h' : (a :: cm_xp r)[j]? = some v), (i + j, cm_em g v) ∈ lv_args i ((a :: r).map (cm_em g)) := by
      intro hc hnd' h'
      rw [List.map_cons, lv_args, if_neg (by rw [hc]; decide)]
      cases j with
      | zero =>
        have : a = v := by simpa using h'
        subst this
        exact List.mem_cons_self
      | succ j =>
        refine List.mem_cons_of_mem _ ?_
        have := ih (i := i + 1) hnd' (by simpa using h') hb
        rwa [show i + 1 + j = i + (j + 1) by omega] at this
    cases a with
    | float b => exact absurd hnd (by simp [cm_nd])
    | double b => exact absurd hnd (by simp [cm_nd])
    | long x =>
      rw [List.map_cons, lv_args, if_pos (show (cm_em g (.long x)).category = 2 from rfl)]
      have h' : (Value.long x :: Value.float 0 :: cm_xp r)[j]? = some v := h
      cases j with
      | zero =>
        have : Value.long x = v := by simpa using h'
        subst this
        exact List.mem_cons_self
      | succ j =>
        cases j with
        | zero =>
          have : Value.float 0 = v := by simpa using h'
          exact absurd this.symm (hb 0)
        | succ j =>
          refine List.mem_cons_of_mem _ ?_
          have := ih (i := i + 2) hnd (by simpa using h') hb
          rwa [show i + 2 + j = i + (j + 1 + 1) by omega] at this
    | int x => exact one rfl hnd h
    | null => exact one rfl hnd h
    | ref x => exact one rfl hnd h
    | retAddr x => exact one (cm_cat hz _) hnd h
theorem cm_xp_len {g : cm_G} (hz : ∀ j, (∃ t, g.2.1 j = .ref t) ∨ g.2.1 j = .null) : ∀ {as : List Value}, cm_nd as = true → (lg_sl (as.map (cm_em g))).length = (cm_xp as).length := by
  intro as
  induction as with
  | nil => intro _; rfl
  | cons a r ih =>
    intro hnd
    have e : lg_sl ((a :: r).map (cm_em g)) = (if (cm_em g a).category = 2 then [Slot.val (cm_em g a), .second] else [Slot.val (cm_em g a)]) ++ lg_sl (r.map (cm_em g)) := rfl
    rw [e, List.length_append, cm_cat hz]
    cases a with
    | float b => exact absurd hnd (by simp [cm_nd])
    | double b => exact absurd hnd (by simp [cm_nd])
    | long x => rw [if_pos (show (Value.long x).category = 2 from rfl), ih hnd]; simp [cm_xp]; omega
    | int x => rw [if_neg (show ¬ (Value.int x).category = 2 by simp [Value.category]), ih hnd]; simp [cm_xp]; omega
    | null => rw [if_neg (by decide), ih hnd]; simp [cm_xp]; omega
    | ref x => rw [if_neg (show ¬ (Value.ref x).category = 2 by simp [Value.category]), ih hnd]; simp [cm_xp]; omega
    | retAddr x => rw [if_neg (show ¬ (Value.retAddr x).category = 2 by simp [Value.category]), ih hnd]; simp [cm_xp]; omega
def cm_mk (z : cm_M) (n : Nat) : Prop := Cond.code z.1 z.2.1 z.2.2.1 z.2.2.2 ∈ cm_W0 ∧ Cond.initialized z.1.cls ∈ cm_W0 ∧ plainName z.1.cls = true ∧ (z.1.cls ≠ "java/lang/invoke/MethodHandle" ∧ z.1.cls ≠ "java/lang/invoke/VarHandle" ∧ (parseMethodDescriptor z.1.desc).map (fun d => d.parameters.length) = some n) ∧ z.2.2.1 ≤ 40
def cm_ln (own : String) (idx : Nat) (z : cm_M) : Prop := Cond.methodLink own idx z.1 ∈ cm_W0 ∨ ∃ host, Cond.methodLinkNest own idx z.1 host ∈ cm_nest
def cm_cv (own : String) (idx : Nat) (z : cm_M) (n : Nat) : Prop := cm_ln own idx z ∧ cm_mk z n ∧ Cond.instanceMethod z.1 ∈ cm_W0 ∧ Cond.selects z.1.cls z.1 z.1 ∈ cm_W0
def cm_cs (own : String) (idx : Nat) (z : cm_M) (n : Nat) : Prop := cm_ln own idx z ∧ cm_mk z n ∧ Cond.static z.1 ∈ cm_W0
def cm_ci (own : String) (idx : Nat) (z : cm_M) (n : Nat) : Prop := cm_ln own idx z ∧ cm_mk z n ∧ Cond.instanceMethod z.1 ∈ cm_W0 ∧ z.1.name = "<init>" ∧ z.2.2.2 = none
def cm_psh : Option Value → List Value → List Value
  | none, r => r
  | some v, r => v :: r
def cm_pre (g : cm_G) (I : cm_I) (L : cm_L) (R : cm_R) (ds : cm_Ds) (U : State) : Prop := cm_Wd g I L R ds U.heap ∧ va_K g.2.2.1 cm_cl (cm_tys g) U ∧ cm_St g U U.heap
theorem cm_wsIn {y z : cm_M} {n : Nat} (h : cm_mk z n) : GoodIn (cm_ws y) (cm_ws z) := by
  intro w hw
  rcases List.mem_cons.mp hw with rfl | hw
  · exact ⟨List.mem_cons_of_mem _ h.1, good_of_word (cm_good h.1)⟩
  · exact ⟨List.mem_cons_of_mem _ hw, good_of_word (cm_good hw)⟩
section CM
variable {l : Launch} {g : cm_G} {d mc ms : Nat} {y : cm_M} {pc pc' : Nat} {ls st : List Value} {I : cm_I} {L : cm_L} {R : cm_R} {ds : cm_Ds} {Q : cm_Post}
theorem cm_met {z : cm_M} {n : Nat} {as : List Value} (hz : cm_mk z n) (hnd : cm_nd as = true) (hlen : (cm_xp as).length ≤ z.2.2.1) (h : cm_Ex l g d mc ms z 0 (cm_loc as z.2.2.1) [] I L R ds Q) :
    Met l z.1 (cm_ws z) { frames := d, cells := mc, slots := ms, locals := 64 * d } (va_Pc (as.map (cm_em g)) (cm_pre g I L R ds)) (cm_Qc g Q) mc ms (cm_A g) := by
  refine Met.ofW (cc := z.2.1) (maxL := z.2.2.1) (ret := z.2.2.2) hz.2.2.1 rfl ?_
  intro p e s m args below meth c s₁ B hml hv
  obtain ⟨rfl, hwd, hK, hSt⟩ := hv
  have hl := lv_entry (as.map (cm_em g)) (n := z.2.2.1) (by rw [cm_xp_len hSt.2.1 hnd]; exact hlen)
  rw [lg_entry_eq]
  refine h p e _ s m _ below meth c s.heap [] 0 0 mc ms _ ⟨B.exec, B.bytes, hml, B.returns, findClass_of_methodNamed B.named, atoms_spec (ws := cm_ws z) B.pre, (name_of_methodNamed B.named B.method).1, B.notSynchronized, hSt, hK, by rw [hwd.2]; omega⟩ hwd va_S.rf (cm_lv_has hl fun j v hj hb => ?_) ⟨Nat.le_refl _, Nat.le_refl _, by omega, by omega, Nat.le_refl _, Nat.le_refl _⟩
  have hj' : (cm_xp as)[j]? = some v := by
    unfold cm_loc at hj
    by_cases hlt : j < (cm_xp as).length
    · rwa [List.getElem?_append_left hlt] at hj
    · rw [List.getElem?_append_right (by omega), List.getElem?_replicate] at hj
      split at hj
      · cases hj; exact absurd rfl (hb 0)
      · cases hj
  have := cm_xp_in hSt.2.1 (i := 0) hnd hj' hb
  rwa [Nat.zero_add] at this
theorem cm_blind {as : List Value} : FrameBlind (va_Pc (as.map (cm_em g)) (cm_pre g I L R ds)) := by
  intro a U f mk q
  obtain ⟨h1, h2, h3, h4⟩ := q
  exact ⟨h1, h2, va_K.moved (u := U) (U := U.calling f mk a) (Vm.Alike.refl U.vm) h3, cm_St_to (U := U.calling f mk a) h4 (State.WarmedH.refl U) fun _ _ _ => rfl⟩
theorem cm_preU {as : List Value} {s : State} {H : Heap} {locs : List Loc} (hSt : cm_St g s s.heap) (hK : va_K g.2.2.1 cm_cl (cm_tys g) s) (w : cm_Wd g I L R ds H) (hS : va_S (cm_A g) s.heap H locs) {av : List Value} (hav : av = as.map (cm_em g)) : ∀ U : State, U.heap = H → s.WarmedH U.vm → va_Pc (as.map (cm_em g)) (cm_pre g I L R ds) av.toArray U := by
  intro U hU hW
  subst hav
  exact ⟨rfl, by rw [hU]; exact w, va_K.moved hW.alike hK, by rw [hU]; exact cm_St_to hSt hW hS.2.1⟩
theorem cm_go {p : Program} {e : Env} {Rm : Room} {s : State} {m : MethodId} {args : Array Value} {below : List Frame} {meth : Method} {c : Code} {H : Heap} {locs : List Loc} {cells slots kc ks mc' ms' : Nat} {als : Array Slot} {rest : List Value} {st0 : List Value} {a : Array Value} {Qz : cm_Post}
    (C : cm_Cx g y p s m args meth c) (hS : va_S (cm_A g) s.heap H locs) (hl : lv_has als y.2.2.1 (cm_lv g 0 ls)) (hr : cm_Rm d mc ms (cells + mc') (slots + ms') kc ks Rm)
    (hrun : va_Run p l e Rm s m args below meth c H locs cells slots mc' ms' (F0 m pc als st0) (rest.map (cm_em g)) (cm_Qc g Qz a) (cm_A g))
    (kk : ∀ r I' L' R' ds', Qz r I' L' R' ds' → cm_Ex l g d mc ms y (pc + 3) ls (cm_psh r rest) I' L' R' ds' Q) :
    W p l e Rm s m args below meth c H locs cells slots (MQ below (cm_Qc g Q) args s kc ks (cm_A g)) (F0 m pc als st0) := by
  intro T hT X
  obtain ⟨v, st₀, t, T', Lc, h0, X', hL, e1, e2, ⟨⟨r, I', L', R', ds', hv, hq, hw⟩, hz, hk⟩, stp⟩ := hrun T hT X
  cases hv
  rw [h0] at hz hk
  have hS1 : va_S (cm_A g) s.heap T'.heap (locs ++ Lc) := ⟨Nat.le_trans hS.1 (by rw [e1]; exact hz), fun q h1 h2 => by rw [e1, hk q (Nat.lt_of_lt_of_le h1 hS.1) h2]; exact hS.2.1 q h1 h2, fun q hq => by
    rcases List.mem_append.mp hq with h | h
    · exact hS.2.2 q h
    · exact hL q h⟩
  have k1 := kk r I' L' R' ds' hq p e Rm s m args below meth c T'.heap (locs ++ Lc) (cells + mc') (slots + ms') kc ks als C (by rw [e1]; exact hw) hS1 hl hr
  have hst : (r.map (cm_em g)).toList ++ rest.map (cm_em g) = (cm_psh r rest).map (cm_em g) := by cases r <;> rfl
  rw [← hst] at k1
  obtain ⟨t2, a1, b1⟩ := k1 T' rfl X'
  exact ⟨t2, stp t2 a1, b1⟩
theorem cm_sum {st : List Value} (hz : ∀ j, (∃ t, g.2.1 j = .ref t) ∨ g.2.1 j = .null) : ((st.map (cm_em g)).map fun v => v.category).sum = (st.map fun v => v.category).sum := by
  rw [List.map_map]
  congr 1
  exact List.map_congr_left fun v _ => cm_cat hz v
theorem x_callV {idx n k ci d' mc' ms' mc2 ms2 : Nat} {z : cm_M} {as rest lz : List Value} (hq : cm_N y pc (.invokevirtual idx) 3 pc') (hf : cm_cv y.1.cls idx z n) (hd : ds[k]? = some (.inr ci)) (hc : ∃ r : vw_C, cm_cl[ci]? = some r ∧ r.1 = z.1.cls) (hst : st = as.reverse ++ .ref k :: rest) (hn : as.length = n) (hnd : cm_nd as = true) (hlz : cm_loc (.ref k :: as) z.2.2.1 = lz) (hlen : (cm_xp (.ref k :: as)).length ≤ z.2.2.1) (hsm : (rest.map fun v => v.category).sum ≤ 8) (hdd : d' + 1 ≤ d) (hm : mc' + mc2 = mc) (hm2 : ms' + ms2 = ms)
    (hcal : cm_Ex l g d' mc' ms' z 0 lz [] I L R ds (fun r I' L' R' ds' => cm_Ex l g d mc2 ms2 y pc' ls (cm_psh r rest) I' L' R' ds' Q)) : cm_Ex l g d mc ms y pc ls st I L R ds Q := by
  obtain ⟨hdg, rfl⟩ := hq
  subst hst; subst hm; subst hm2; subst hlz
  obtain ⟨hln, hz, hi, hse⟩ := hf
  intro p e Rm s m args below meth c H locs cells slots kc ks als C w hS hl hr
  have hts : ∀ w ∈ cm_ws y, w.before args s = true := C.2.2.2.2.2.1
  have hK := C.2.2.2.2.2.2.2.2.2.1
  have hSt := C.2.2.2.2.2.2.2.2.1
  obtain ⟨r1, r2, r3, r4, r5, r6⟩ := hr
  obtain ⟨rc, hc1, hc2⟩ := hc
  have hrec := va_recv hK w.1 hc1 (cm_cells_at g I L R hd)
  rw [hc2] at hrec
  have hM := cm_met (as := .ref k :: as) hz (show cm_nd (.ref k :: as) = true from hnd) hlen hcal
  have hR : d' + 1 ≤ Rm.frames ∧ 8 + (z.2.2.1 + 11) + 64 * d' ≤ Rm.locals := by
    have := hz.2.2.2.2
    exact ⟨by omega, by omega⟩
  have hstk : ((as.reverse ++ .ref k :: rest).map (cm_em g)) = (as.map (cm_em g)).reverse ++ .ref (g.1 + k) :: rest.map (cm_em g) := by simp [cm_em]
  have hp : PreV s H z.1.cls (g.1 + k) (va_Pc ((Value.ref k :: as).map (cm_em g)) (cm_pre g I L R ds)) (as.map (cm_em g)) := ⟨cm_blind, hrec, cm_preU hSt hK w hS rfl⟩
  have hcat := cm_sum (st := rest) hSt.2.1
  rcases hln with hln | ⟨host, hln⟩
  · exact cm_go (mc := mc2) (ms := ms2) (mc' := mc') (ms' := ms') (rest := rest) C hS hl ⟨r1, r2, by omega, by omega, r5, r6⟩ (va_runV (As := as.map (cm_em g)) ⟨C.1, C.2.1, C.2.2.1, C.2.2.2.2.1, hts⟩ hM ⟨callB_of n hts (cm_wsIn hz) rfl rfl rfl (hts _ (List.mem_cons_of_mem _ hz.2.1)) (hts _ (List.mem_cons_of_mem _ hln)) hz.2.2.2.1 hR, hts _ (List.mem_cons_of_mem _ hi), hts _ (List.mem_cons_of_mem _ hse)⟩ hp rfl (by rw [List.length_map]; exact hn) hl.1 hstk (lv_room (by rw [hcat]; exact hsm)) hdg ⟨by omega, by omega⟩) (fun r I' L' R' ds' h => h)
  · exact cm_go (mc := mc2) (ms := ms2) (mc' := mc') (ms' := ms') (rest := rest) C hS hl ⟨r1, r2, by omega, by omega, r5, r6⟩ (va_runVN (As := as.map (cm_em g)) ⟨C.1, C.2.1, C.2.2.1, C.2.2.2.2.1, hts⟩ hM ⟨va_cnB n hts (cm_wsIn hz) rfl rfl rfl (hSt.1.1 _ hln) (hts _ (List.mem_cons_of_mem _ hz.2.1)) hz.2.2.2.1 hR, hts _ (List.mem_cons_of_mem _ hi), hts _ (List.mem_cons_of_mem _ hse)⟩ hp rfl (by rw [List.length_map]; exact hn) hl.1 hstk (lv_room (by rw [hcat]; exact hsm)) hdg ⟨by omega, by omega⟩) (fun r I' L' R' ds' h => h)
theorem x_callI {idx n k d' mc' ms' mc2 ms2 : Nat} {z : cm_M} {as rest lz : List Value} (hq : cm_N y pc (.invokespecial idx) 3 pc') (hf : cm_ci y.1.cls idx z n) (hst : st = as.reverse ++ .ref k :: rest) (hn : as.length = n) (hnd : cm_nd as = true) (hlz : cm_loc (.ref k :: as) z.2.2.1 = lz) (hlen : (cm_xp (.ref k :: as)).length ≤ z.2.2.1) (hsm : (rest.map fun v => v.category).sum ≤ 8) (hdd : d' + 1 ≤ d) (hm : mc' + mc2 = mc) (hm2 : ms' + ms2 = ms)
    (hcal : cm_Ex l g d' mc' ms' z 0 lz [] I L R ds (fun r I' L' R' ds' => cm_Ex l g d mc2 ms2 y pc' ls (cm_psh r rest) I' L' R' ds' Q)) : cm_Ex l g d mc ms y pc ls st I L R ds Q := by
  obtain ⟨hdg, rfl⟩ := hq
  subst hst; subst hm; subst hm2; subst hlz
  obtain ⟨hln, hz, hi, hnm, hrt⟩ := hf
  intro p e Rm s m args below meth c H locs cells slots kc ks als C w hS hl hr
  have hts : ∀ w ∈ cm_ws y, w.before args s = true := C.2.2.2.2.2.1
  have hK := C.2.2.2.2.2.2.2.2.2.1
  have hSt := C.2.2.2.2.2.2.2.2.1
  obtain ⟨r1, r2, r3, r4, r5, r6⟩ := hr
  have hM := cm_met (as := .ref k :: as) hz (show cm_nd (.ref k :: as) = true from hnd) hlen hcal
  have hR : d' + 1 ≤ Rm.frames ∧ 8 + (z.2.2.1 + 11) + 64 * d' ≤ Rm.locals := by
    have := hz.2.2.2.2
    exact ⟨by omega, by omega⟩
  have hstk : ((as.reverse ++ .ref k :: rest).map (cm_em g)) = (as.map (cm_em g)).reverse ++ .ref (g.1 + k) :: rest.map (cm_em g) := by simp [cm_em]
  have hp : PreS s H (va_Pc ((Value.ref k :: as).map (cm_em g)) (cm_pre g I L R ds)) (.ref (g.1 + k) :: as.map (cm_em g)) := ⟨cm_blind, cm_preU hSt hK w hS rfl⟩
  have hcat := cm_sum (st := rest) hSt.2.1
  have hws : cm_ws z = Cond.code z.1 z.2.1 z.2.2.1 none :: cm_W0 := by unfold cm_ws; rw [hrt]
  rcases hln with hln | ⟨host, hln⟩
  · exact cm_go (mc := mc2) (ms := ms2) (mc' := mc') (ms' := ms') (rest := rest) C hS hl ⟨r1, r2, by omega, by omega, r5, r6⟩ (va_runI (As := as.map (cm_em g)) ⟨C.1, C.2.1, C.2.2.1, C.2.2.2.2.1, hts⟩ hM ⟨callB_of n hts (cm_wsIn hz) hws rfl rfl (hts _ (List.mem_cons_of_mem _ hz.2.1)) (hts _ (List.mem_cons_of_mem _ hln)) hz.2.2.2.1 hR, hnm, hts _ (List.mem_cons_of_mem _ hi)⟩ hp rfl (by rw [List.length_map]; exact hn) hl.1 hstk (lv_room (by rw [hcat]; exact hsm)) hdg ⟨by omega, by omega⟩) (fun r I' L' R' ds' h => h)
  · exact cm_go (mc := mc2) (ms := ms2) (mc' := mc') (ms' := ms') (rest := rest) C hS hl ⟨r1, r2, by omega, by omega, r5, r6⟩ (va_runIN (As := as.map (cm_em g)) ⟨C.1, C.2.1, C.2.2.1, C.2.2.2.2.1, hts⟩ hM ⟨va_cnB n hts (cm_wsIn hz) hws rfl rfl (hSt.1.1 _ hln) (hts _ (List.mem_cons_of_mem _ hz.2.1)) hz.2.2.2.1 hR, hnm, hts _ (List.mem_cons_of_mem _ hi)⟩ hp rfl (by rw [List.length_map]; exact hn) hl.1 hstk (lv_room (by rw [hcat]; exact hsm)) hdg ⟨by omega, by omega⟩) (fun r I' L' R' ds' h => h)
theorem x_callS {idx n d' mc' ms' mc2 ms2 : Nat} {z : cm_M} {as rest lz : List Value} (hq : cm_N y pc (.invokestatic idx) 3 pc') (hf : cm_cs y.1.cls idx z n) (hst : st = as.reverse ++ rest) (hn : as.length = n) (hnd : cm_nd as = true) (hlz : cm_loc as z.2.2.1 = lz) (hlen : (cm_xp as).length ≤ z.2.2.1) (hsm : (rest.map fun v => v.category).sum ≤ 8) (hdd : d' + 1 ≤ d) (hm : mc' + mc2 = mc) (hm2 : ms' + ms2 = ms)
    (hcal : cm_Ex l g d' mc' ms' z 0 lz [] I L R ds (fun r I' L' R' ds' => cm_Ex l g d mc2 ms2 y pc' ls (cm_psh r rest) I' L' R' ds' Q)) : cm_Ex l g d mc ms y pc ls st I L R ds Q := by
  obtain ⟨hdg, rfl⟩ := hq
  subst hst; subst hm; subst hm2; subst hlz
  obtain ⟨hln, hz, hi⟩ := hf
  intro p e Rm s m args below meth c H locs cells slots kc ks als C w hS hl hr
  have hts : ∀ w ∈ cm_ws y, w.before args s = true := C.2.2.2.2.2.1
  have hK := C.2.2.2.2.2.2.2.2.2.1
  have hSt := C.2.2.2.2.2.2.2.2.1
  obtain ⟨r1, r2, r3, r4, r5, r6⟩ := hr
  have hM := cm_met (as := as) hz hnd hlen hcal
  have hR : d' + 1 ≤ Rm.frames ∧ 8 + (z.2.2.1 + 11) + 64 * d' ≤ Rm.locals := by
    have := hz.2.2.2.2
    exact ⟨by omega, by omega⟩
  have hstk : ((as.reverse ++ rest).map (cm_em g)) = (as.map (cm_em g)).reverse ++ rest.map (cm_em g) := by simp
  have hp : PreS s H (va_Pc (as.map (cm_em g)) (cm_pre g I L R ds)) (as.map (cm_em g)) := ⟨cm_blind, cm_preU hSt hK w hS rfl⟩
  have hcat := cm_sum (st := rest) hSt.2.1
  rcases hln with hln | ⟨host, hln⟩
  · exact cm_go (mc := mc2) (ms := ms2) (mc' := mc') (ms' := ms') (rest := rest) C hS hl ⟨r1, r2, by omega, by omega, r5, r6⟩ (va_runS (As := as.map (cm_em g)) ⟨C.1, C.2.1, C.2.2.1, C.2.2.2.2.1, hts⟩ hM ⟨callB_of n hts (cm_wsIn hz) rfl rfl rfl (hts _ (List.mem_cons_of_mem _ hz.2.1)) (hts _ (List.mem_cons_of_mem _ hln)) hz.2.2.2.1 hR, hts _ (List.mem_cons_of_mem _ hi)⟩ hp rfl (by rw [List.length_map]; exact hn) hl.1 hstk (lv_room (by rw [hcat]; exact hsm)) hdg ⟨by omega, by omega⟩) (fun r I' L' R' ds' h => h)
  · exact cm_go (mc := mc2) (ms := ms2) (mc' := mc') (ms' := ms') (rest := rest) C hS hl ⟨r1, r2, by omega, by omega, r5, r6⟩ (va_runSN (As := as.map (cm_em g)) ⟨C.1, C.2.1, C.2.2.1, C.2.2.2.2.1, hts⟩ hM ⟨va_cnB n hts (cm_wsIn hz) rfl rfl rfl (hSt.1.1 _ hln) (hts _ (List.mem_cons_of_mem _ hz.2.1)) hz.2.2.2.1 hR, hts _ (List.mem_cons_of_mem _ hi), trivial⟩ hp rfl (by rw [List.length_map]; exact hn) hl.1 hstk (lv_room (by rw [hcat]; exact hsm)) hdg ⟨by omega, by omega⟩) (fun r I' L' R' ds' h => h)
end CM
