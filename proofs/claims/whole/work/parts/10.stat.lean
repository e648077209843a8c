/-! static tables, texts, System.arraycopy; depth and room may grow -/
def cm_tab (j : Nat) : List Int32 := if j = 0 then [-1, 0, 0, 0, 1, 0, 5] else [10, 11, 12, 0, 20, 0, 30, 0, 0, 0, 0, 40, 50, 51, 0, 0, 0, 60, 71, 70, 0]
def cm_tx (i : Nat) : List Int32 := (cm_str.map fun q => q.2.2).getD i []
section CM
variable {l : Launch} {g : cm_G} {d mc ms : Nat} {y : cm_M} {pc pc' : Nat} {ls st : List Value} {I : cm_I} {L : cm_L} {R : cm_R} {ds : cm_Ds} {Q : cm_Post}
theorem cm_up {d' mc' ms' : Nat} (h : cm_Ex l g d mc ms y pc ls st I L R ds Q) (hd : d ≤ d') (hm : mc ≤ mc') (hs : ms ≤ ms') : cm_Ex l g d' mc' ms' y pc ls st I L R ds Q :=
  fun p e Rm s m args below meth c H locs cells slots kc ks als C w hS hl hr => h p e Rm s m args below meth c H locs cells slots kc ks als C w hS hl ⟨by have := hr.1; omega, by have := hr.2.1; omega, by have := hr.2.2.1; omega, by have := hr.2.2.2.1; omega, hr.2.2.2.2⟩
theorem cm_conseq {Q' : cm_Post} (h : cm_Ex l g d mc ms y pc ls st I L R ds Q') (hQ : ∀ r I' L' R' ds', Q' r I' L' R' ds' → Q r I' L' R' ds') : cm_Ex l g d mc ms y pc ls st I L R ds Q := by
  intro p e Rm s m args below meth c H locs cells slots kc ks als C w hS hl hr T hT X
  obtain ⟨t, a, o, b1, b2, ⟨⟨r, I', L', R', ds', c1, c2, c3⟩, c4⟩, b4⟩ := h p e Rm s m args below meth c H locs cells slots kc ks als C w hS hl hr T hT X
  exact ⟨t, a, o, b1, b2, ⟨⟨r, I', L', R', ds', c1, hQ _ _ _ _ _ c2, c3⟩, c4⟩, b4⟩
theorem x_gsA {idx : Nat} (hq : cm_N y pc (.getstatic idx) 3 pc') (hw : Cond.fieldLink y.1.cls idx "CellarMeter$Kinds" "ABOVE" "[I" ∈ cm_W0) (kk : cm_Ex l g d mc ms y pc' ls (.retAddr 0 :: st) I L R ds Q) : cm_Ex l g d mc ms y pc ls st I L R ds Q := by
  obtain ⟨hdg, rfl⟩ := hq
  intro p e Rm s m args below meth c H locs cells slots kc ks als C w hS hl hr
  obtain ⟨t, h1, h2, -⟩ := C.2.2.2.2.2.2.2.2.1.2.2.1
  have k1 := kk p e Rm s m args below meth c H locs cells slots kc ks als C w hS hl hr
  rw [List.map_cons, show cm_em g (.retAddr 0) = .ref t from h1] at k1
  exact va_gets C.1 C.2.1 h2 hS C.2.2.2.2.1 (C.2.2.2.2.2.1 _ (List.mem_cons_of_mem _ hw)) (fun _ h => h) hdg k1
theorem x_gsB {idx : Nat} (hq : cm_N y pc (.getstatic idx) 3 pc') (hw : Cond.fieldLink y.1.cls idx "CellarMeter$Acts" "BODIES" "[I" ∈ cm_W0) (kk : cm_Ex l g d mc ms y pc' ls (.retAddr 1 :: st) I L R ds Q) : cm_Ex l g d mc ms y pc ls st I L R ds Q := by
  obtain ⟨hdg, rfl⟩ := hq
  intro p e Rm s m args below meth c H locs cells slots kc ks als C w hS hl hr
  obtain ⟨t, h1, h2, -⟩ := C.2.2.2.2.2.2.2.2.1.2.2.2.1
  have k1 := kk p e Rm s m args below meth c H locs cells slots kc ks als C w hS hl hr
  rw [List.map_cons, show cm_em g (.retAddr 1) = .ref t from h1] at k1
  exact va_gets C.1 C.2.1 h2 hS C.2.2.2.2.1 (C.2.2.2.2.2.1 _ (List.mem_cons_of_mem _ hw)) (fun _ h => h) hdg k1
theorem x_gsF {idx : Nat} (hq : cm_N y pc (.getstatic idx) 3 pc') (hw : Cond.fieldLink y.1.cls idx "jdk/internal/util/Preconditions" "SIOOBE_FORMATTER" "Ljava/util/function/BiFunction;" ∈ cm_W0) (kk : cm_Ex l g d mc ms y pc' ls (.retAddr 2 :: st) I L R ds Q) : cm_Ex l g d mc ms y pc ls st I L R ds Q := by
  obtain ⟨hdg, rfl⟩ := hq
  intro p e Rm s m args below meth c H locs cells slots kc ks als C w hS hl hr
  exact va_gets C.1 C.2.1 C.2.2.2.2.2.2.2.2.1.2.2.2.2.1 hS C.2.2.2.2.1 (C.2.2.2.2.2.1 _ (List.mem_cons_of_mem _ hw)) (fun _ h => h) hdg (kk p e Rm s m args below meth c H locs cells slots kc ks als C w hS hl hr)
theorem x_gsC {idx : Nat} (hq : cm_N y pc (.getstatic idx) 3 pc') (hw : Cond.fieldLink y.1.cls idx "java/lang/String" "COMPACT_STRINGS" "Z" ∈ cm_W0) (kk : cm_Ex l g d mc ms y pc' ls (.int 1 :: st) I L R ds Q) : cm_Ex l g d mc ms y pc ls st I L R ds Q := by
  obtain ⟨hdg, rfl⟩ := hq
  intro p e Rm s m args below meth c H locs cells slots kc ks als C w hS hl hr
  exact va_gets C.1 C.2.1 C.2.2.2.2.2.2.2.2.1.2.2.2.2.2.1 hS C.2.2.2.2.1 (C.2.2.2.2.2.1 _ (List.mem_cons_of_mem _ hw)) (fun _ h => h) hdg (kk p e Rm s m args below meth c H locs cells slots kc ks als C w hS hl hr)
theorem x_tald {j k : Nat} {i : Int32} (hq : cm_N y pc .iaload 1 pc') (hj : j = 0 ∨ j = 1) (hi : i = nI k) (hk : k < (cm_tab j).length) (kk : cm_Ex l g d mc ms y pc' ls (.int ((cm_tab j).getD k 0) :: st) I L R ds Q) : cm_Ex l g d mc ms y pc ls (.int i :: .retAddr j :: st) I L R ds Q := by
  obtain ⟨hdg, rfl⟩ := hq
  intro p e Rm s m args below meth c H locs cells slots kc ks als C w hS hl hr
  have k1 := kk p e Rm s m args below meth c H locs cells slots kc ks als C w hS hl hr
  rw [List.map_cons, List.map_cons]
  rcases hj with rfl | rfl
  · obtain ⟨t, h1, -, h3⟩ := C.2.2.2.2.2.2.2.2.1.2.2.1
    obtain ⟨e1, e2⟩ := cm_inI (n := 7) hi hk (by decide)
    rw [show cm_em g (.retAddr 0) = .ref t from h1]
    exact va_ti C.1 C.2.1 h3 hS e1 (v := .int ((cm_tab 0).getD k 0)) (by rw [e2]; rfl) hdg k1
  · obtain ⟨t, h1, -, h3⟩ := C.2.2.2.2.2.2.2.2.1.2.2.2.1
    obtain ⟨e1, e2⟩ := cm_inI (n := 21) hi hk (by decide)
    rw [show cm_em g (.retAddr 1) = .ref t from h1]
    exact va_ti C.1 C.2.1 h3 hS e1 (v := .int ((cm_tab 1).getD k 0)) (by rw [e2]; rfl) hdg k1
theorem x_tlen {j : Nat} (hq : cm_N y pc .arraylength 1 pc') (hj : j = 0 ∨ j = 1) (kk : cm_Ex l g d mc ms y pc' ls (.int (nI (cm_tab j).length) :: st) I L R ds Q) : cm_Ex l g d mc ms y pc ls (.retAddr j :: st) I L R ds Q := by
  obtain ⟨hdg, rfl⟩ := hq
  intro p e Rm s m args below meth c H locs cells slots kc ks als C w hS hl hr
  have k1 := kk p e Rm s m args below meth c H locs cells slots kc ks als C w hS hl hr
  rw [List.map_cons]
  rcases hj with rfl | rfl
  · obtain ⟨t, h1, -, h3⟩ := C.2.2.2.2.2.2.2.2.1.2.2.1
    rw [show cm_em g (.retAddr 0) = .ref t from h1]
    exact va_tlen C.1 C.2.1 h3 hS rfl hdg k1
  · obtain ⟨t, h1, -, h3⟩ := C.2.2.2.2.2.2.2.2.1.2.2.2.1
    rw [show cm_em g (.retAddr 1) = .ref t from h1]
    exact va_tlen C.1 C.2.1 h3 hS rfl hdg k1
theorem x_ldcS {idx i : Nat} {tx : String} {bs : List Int32} (hq : cm_N y pc (.ldc idx) 2 pc') (hy : y.1.cls = "CellarMeter$HouseReader") (hs : cm_str[i]? = some (idx, tx, bs)) (kk : cm_Ex l g d mc ms y pc' ls (.retAddr (10 + i) :: st) I L R ds Q) : cm_Ex l g d mc ms y pc ls st I L R ds Q := by
  obtain ⟨hdg, rfl⟩ := hq
  intro p e Rm s m args below meth c H locs cells slots kc ks als C w hS hl hr
  obtain ⟨adK, adV, h7, h8⟩ := C.2.2.2.2.2.2.2.2.1.2.2.2.2.2.2.2
  obtain ⟨q1, q2, q3⟩ := h8 i _ hs
  have k1 := kk p e Rm s m args below meth c H locs cells slots kc ks als C w hS hl hr
  rw [List.map_cons, show cm_em g (.retAddr (10 + i)) = .ref (adK i) from q1] at k1
  exact va_ldcS C.1 C.2.1 (by rw [← hy]; exact C.2.2.2.2.1) q3 hdg k1
theorem x_getV {idx i : Nat} (hq : cm_N y pc (.getfield idx) 3 pc') (hi : i < 8) (hw : Cond.fieldLink y.1.cls idx "java/lang/String" "value" "[B" ∈ cm_W0) (kk : cm_Ex l g d mc ms y pc' ls (.retAddr (30 + i) :: st) I L R ds Q) : cm_Ex l g d mc ms y pc ls (.retAddr (10 + i) :: st) I L R ds Q := by
  obtain ⟨hdg, rfl⟩ := hq
  intro p e Rm s m args below meth c H locs cells slots kc ks als C w hS hl hr
  obtain ⟨adK, adV, h7, h8⟩ := C.2.2.2.2.2.2.2.2.1.2.2.2.2.2.2.2
  obtain ⟨q, hq⟩ : ∃ q, cm_str[i]? = some q := ⟨_, List.getElem?_eq_getElem (by simpa [cm_str] using hi)⟩
  obtain ⟨q1, q2, q3⟩ := h8 i _ hq
  have k1 := kk p e Rm s m args below meth c H locs cells slots kc ks als C w hS hl hr
  rw [List.map_cons, show cm_em g (.retAddr (30 + i)) = .ref (adV i) from q2] at k1
  rw [List.map_cons, show cm_em g (.retAddr (10 + i)) = .ref (adK i) from q1]
  exact vk_getf C.1 C.2.1 (h7.1 i hi).2.2.1 hS C.2.2.2.2.1 (C.2.2.2.2.2.1 _ (List.mem_cons_of_mem _ hw)) (fun _ h => h) hdg k1
theorem x_getC {idx i : Nat} (hq : cm_N y pc (.getfield idx) 3 pc') (hi : i < 8) (hw : Cond.fieldLink y.1.cls idx "java/lang/String" "coder" "B" ∈ cm_W0) (kk : cm_Ex l g d mc ms y pc' ls (.int 0 :: st) I L R ds Q) : cm_Ex l g d mc ms y pc ls (.retAddr (10 + i) :: st) I L R ds Q := by
  obtain ⟨hdg, rfl⟩ := hq
  intro p e Rm s m args below meth c H locs cells slots kc ks als C w hS hl hr
  obtain ⟨adK, adV, h7, h8⟩ := C.2.2.2.2.2.2.2.2.1.2.2.2.2.2.2.2
  obtain ⟨q, hq⟩ : ∃ q, cm_str[i]? = some q := ⟨_, List.getElem?_eq_getElem (by simpa [cm_str] using hi)⟩
  obtain ⟨q1, q2, q3⟩ := h8 i _ hq
  have k1 := kk p e Rm s m args below meth c H locs cells slots kc ks als C w hS hl hr
  rw [List.map_cons, show cm_em g (.retAddr (10 + i)) = .ref (adK i) from q1]
  exact vk_getf C.1 C.2.1 (h7.1 i hi).2.1 hS C.2.2.2.2.1 (C.2.2.2.2.2.1 _ (List.mem_cons_of_mem _ hw)) (fun _ h => h) hdg k1
theorem cm_lenS {i : Nat} (hi : i < 8) : (cm_str.map fun q => q.2.2.length).getD i 0 = (cm_tx i).length := by
  revert hi; revert i; decide
theorem x_slen {i : Nat} (hq : cm_N y pc .arraylength 1 pc') (hi : i < 8) (kk : cm_Ex l g d mc ms y pc' ls (.int (nI (cm_tx i).length) :: st) I L R ds Q) : cm_Ex l g d mc ms y pc ls (.retAddr (30 + i) :: st) I L R ds Q := by
  obtain ⟨hdg, rfl⟩ := hq
  intro p e Rm s m args below meth c H locs cells slots kc ks als C w hS hl hr
  obtain ⟨adK, adV, h7, h8⟩ := C.2.2.2.2.2.2.2.2.1.2.2.2.2.2.2.2
  obtain ⟨q, hq⟩ : ∃ q, cm_str[i]? = some q := ⟨_, List.getElem?_eq_getElem (by simpa [cm_str] using hi)⟩
  obtain ⟨q1, q2, q3⟩ := h8 i _ hq
  have k1 := kk p e Rm s m args below meth c H locs cells slots kc ks als C w hS hl hr
  rw [List.map_cons, show cm_em g (.retAddr (30 + i)) = .ref (adV i) from q2]
  exact va_tlen C.1 C.2.1 (h7.1 i hi).2.2.2 hS (by rw [cm_lenS hi]; rfl) hdg k1
theorem x_sbald {i k : Nat} {x : Int32} (hq : cm_N y pc .baload 1 pc') (hi : i < 8) (hx : x = nI k) (hk : k < (cm_tx i).length) (kk : cm_Ex l g d mc ms y pc' ls (.int ((cm_tx i).getD k 0) :: st) I L R ds Q) : cm_Ex l g d mc ms y pc ls (.int x :: .retAddr (30 + i) :: st) I L R ds Q := by
  obtain ⟨hdg, rfl⟩ := hq
  intro p e Rm s m args below meth c H locs cells slots kc ks als C w hS hl hr
  obtain ⟨adK, adV, h7, h8⟩ := C.2.2.2.2.2.2.2.2.1.2.2.2.2.2.2.2
  obtain ⟨q, hq⟩ : ∃ q, cm_str[i]? = some q := ⟨_, List.getElem?_eq_getElem (by simpa [cm_str] using hi)⟩
  obtain ⟨q1, q2, q3⟩ := h8 i _ hq
  have k1 := kk p e Rm s m args below meth c H locs cells slots kc ks als C w hS hl hr
  rw [List.map_cons, List.map_cons, show cm_em g (.retAddr (30 + i)) = .ref (adV i) from q2]
  have hsm : (cm_tx i).length < 2147483648 := by
    have : ∀ i, i < 8 → (cm_tx i).length < 2147483648 := by decide
    exact this i hi
  obtain ⟨e1, e2⟩ := cm_inI hx hk hsm
  exact va_tb C.1 C.2.1 (h7.1 i hi).2.2.2 hS (by rw [cm_lenS hi]; exact e1) (v := .int ((cm_tx i).getD k 0)) (by rw [e2]; rfl) hdg k1
/-- a call on a text -/
theorem x_callT {idx n i d' : Nat} {z : cm_M} {as rest lz : List Value} (hq : cm_N y pc (.invokevirtual idx) 3 pc') (hf : cm_cv y.1.cls idx z n) (hc : z.1.cls = "java/lang/String") (hi0 : i < 8) (hst : st = as.reverse ++ .retAddr (10 + i) :: rest) (hn : as.length = n) (hnd : cm_nd as = true) (hlz : cm_loc (.retAddr (10 + i) :: as) z.2.2.1 = lz) (hlen : (cm_xp (.retAddr (10 + i) :: as)).length ≤ z.2.2.1) (hsm : (rest.map fun v => v.category).sum ≤ 8) (hdd : d' + 1 ≤ d)
    (hcal : cm_Ex l g d' 0 0 z 0 lz [] I L R ds (fun r I' L' R' ds' => cm_Ex l g d mc ms y pc' ls (cm_psh r rest) I' L' R' ds' Q)) : cm_Ex l g d mc ms y pc ls st I L R ds Q := by
  obtain ⟨hdg, rfl⟩ := hq
  subst hst; subst hlz
  obtain ⟨hln, hz, hi, hse⟩ := hf
  intro p e Rm s m args below meth c H locs cells slots kc ks als C w hS hl hr
  have hts : ∀ w ∈ cm_ws y, w.before args s = true := C.2.2.2.2.2.1
  have hK := C.2.2.2.2.2.2.2.2.2.1
  have hSt := C.2.2.2.2.2.2.2.2.1
  obtain ⟨r1, r2, r3, r4, r5, r6⟩ := hr
  obtain ⟨adK, adV, h7, h8⟩ := C.2.2.2.2.2.2.2.2.1.2.2.2.2.2.2.2
  obtain ⟨q, hq⟩ : ∃ q, cm_str[i]? = some q := ⟨_, List.getElem?_eq_getElem (by simpa [cm_str] using hi0)⟩
  obtain ⟨q1, q2, q3⟩ := h8 i _ hq
  have hem : cm_em g (.retAddr (10 + i)) = .ref (adK i) := q1
  have hrec := vk_recv h7 hi0 hS
  rw [← hc] at hrec
  have hM := cm_met (as := .retAddr (10 + i) :: as) hz (show cm_nd (.retAddr (10 + i) :: as) = true from hnd) hlen hcal
  have hR : d' + 1 ≤ Rm.frames ∧ 8 + (z.2.2.1 + 11) + 64 * d' ≤ Rm.locals := by
    have := hz.2.2.2.2
    exact ⟨by omega, by omega⟩
  have hstk : ((as.reverse ++ .retAddr (10 + i) :: rest).map (cm_em g)) = (as.map (cm_em g)).reverse ++ .ref (adK i) :: rest.map (cm_em g) := by simp [hem]
  have hp : PreV s H z.1.cls (adK i) (va_Pc ((Value.retAddr (10 + i) :: as).map (cm_em g)) (cm_pre g I L R ds)) (as.map (cm_em g)) := ⟨cm_blind, hrec, cm_preU hSt hK w hS (by rw [List.map_cons, hem])⟩
  have hcat := cm_sum (st := rest) hSt.2.1
  rcases hln with hln | ⟨host, hln⟩
  · exact cm_go (mc := mc) (ms := ms) (mc' := 0) (ms' := 0) (rest := rest) C hS hl ⟨r1, r2, by omega, by omega, r5, r6⟩ (va_runV (As := as.map (cm_em g)) ⟨C.1, C.2.1, C.2.2.1, C.2.2.2.2.1, hts⟩ hM ⟨callB_of n hts (cm_wsIn hz) rfl rfl rfl (hts _ (List.mem_cons_of_mem _ hz.2.1)) (hts _ (List.mem_cons_of_mem _ hln)) hz.2.2.2.1 hR, hts _ (List.mem_cons_of_mem _ hi), hts _ (List.mem_cons_of_mem _ hse)⟩ hp rfl (by rw [List.length_map]; exact hn) hl.1 hstk (lv_room (by rw [hcat]; exact hsm)) hdg ⟨by omega, by omega⟩) (fun r I' L' R' ds' h => h)
  · exact cm_go (mc := mc) (ms := ms) (mc' := 0) (ms' := 0) (rest := rest) C hS hl ⟨r1, r2, by omega, by omega, r5, r6⟩ (va_runVN (As := as.map (cm_em g)) ⟨C.1, C.2.1, C.2.2.1, C.2.2.2.2.1, hts⟩ hM ⟨va_cnB n hts (cm_wsIn hz) rfl rfl rfl (hSt.1.1 _ hln) (hts _ (List.mem_cons_of_mem _ hz.2.1)) hz.2.2.2.1 hR, hts _ (List.mem_cons_of_mem _ hi), hts _ (List.mem_cons_of_mem _ hse)⟩ hp rfl (by rw [List.length_map]; exact hn) hl.1 hstk (lv_room (by rw [hcat]; exact hsm)) hdg ⟨by omega, by omega⟩) (fun r I' L' R' ds' h => h)
theorem x_sald {k : Nat} {i : Int32} (hq : cm_N y pc .iaload 1 pc') (hi : i = nI k) (hk : k < g.2.2.2.2.1) (kk : cm_Ex l g d mc ms y pc' ls (.int (g.2.2.2.2.2 k) :: st) I L R ds Q) : cm_Ex l g d mc ms y pc ls (.int i :: .retAddr 3 :: st) I L R ds Q := by
  obtain ⟨hdg, rfl⟩ := hq
  intro p e Rm s m args below meth c H locs cells slots kc ks als C w hS hl hr
  have k1 := kk p e Rm s m args below meth c H locs cells slots kc ks als C w hS hl hr
  rw [List.map_cons, List.map_cons]
  obtain ⟨t, h1, h3, h4⟩ := C.2.2.2.2.2.2.2.2.1.2.2.2.2.2.2.1
  obtain ⟨e1, e2⟩ := cm_inI hi hk (by omega)
  rw [show cm_em g (.retAddr 3) = .ref t from h1]
  exact va_ti C.1 C.2.1 h3 hS e1 (v := .int (g.2.2.2.2.2 k)) (by rw [e2]) hdg k1
theorem x_slenX (hq : cm_N y pc .arraylength 1 pc') (kk : cm_Ex l g d mc ms y pc' ls (.int (nI g.2.2.2.2.1) :: st) I L R ds Q) : cm_Ex l g d mc ms y pc ls (.retAddr 3 :: st) I L R ds Q := by
  obtain ⟨hdg, rfl⟩ := hq
  intro p e Rm s m args below meth c H locs cells slots kc ks als C w hS hl hr
  have k1 := kk p e Rm s m args below meth c H locs cells slots kc ks als C w hS hl hr
  rw [List.map_cons]
  obtain ⟨t, h1, h3, h4⟩ := C.2.2.2.2.2.2.2.2.1.2.2.2.2.2.2.1
  rw [show cm_em g (.retAddr 3) = .ref t from h1]
  exact va_tlen C.1 C.2.1 h3 hS rfl hdg k1
end CM
