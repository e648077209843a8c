/-! the law's entry: the statics, and the walk -/
theorem gl_Z {b : Nat} {s : State} (hts : ∀ w ∈ lw_tbl, w.before #[Value.ref b] s = true) (hs : ∀ w ∈ gl_F, w.before #[Value.ref b] s = true) (A : Nat → Prop) (hA : ∀ a : Nat, a < s.heap.size → ¬ A a) :
    (∃ t, va_Z "CellarMeter$Kinds" "ABOVE" "[I" (.ref t) A s s.heap ∧ va_T .int t 7 (fun j => .int (gl_ta.getD j 0)) A s s.heap) ∧
    (∃ t, va_Z "CellarMeter$Acts" "BODIES" "[I" (.ref t) A s s.heap ∧ va_T .int t 21 (fun j => .int (gl_tb.getD j 0)) A s s.heap) ∧
    (∃ v, ((∃ t, v = Value.ref t) ∨ v = .null) ∧ va_Z "jdk/internal/util/Preconditions" "SIOOBE_FORMATTER" "Ljava/util/function/BiFunction;" v A s s.heap) ∧
    va_Z "java/lang/String" "COMPACT_STRINGS" "Z" (.int 1) A s s.heap ∧
    (∃ adK adV : Nat → Nat, vk_S 8 gl_len gl_byt adK adV A s s.heap ∧ ∀ i (q : Nat × String × List Int32), cm_str[i]? = some q → vk_R "CellarMeter$HouseReader" q.1 q.2.1 (adK i) s) := by
  refine ⟨?_, ?_, ?_, ?_, ?_⟩
  · obtain ⟨t, h1, h2⟩ := va_Tof (A := A) (f := fun j => .int (gl_ta.getD j 0)) (by decide) (hs _ f_a1) (va_eqt (hs _ f_a2)) (fun j hj => va_eqt (hs _ (f_a3 j hj))) hA
    exact ⟨t, va_Zof (hts _ (tbl_mem 306 rfl)) (hts _ (tbl_mem 11 rfl)) h1 hA, h2⟩
  · obtain ⟨t, h1, h2⟩ := va_Tof (A := A) (f := fun j => .int (gl_tb.getD j 0)) (by decide) (hs _ f_b1) (va_eqt (hs _ f_b2)) (fun j hj => va_eqt (hs _ (f_b3 j hj))) hA
    exact ⟨t, va_Zof (hts _ (tbl_mem 814 (by decide +kernel))) (hts _ (tbl_mem 20 rfl)) h1 hA, h2⟩
  · rcases va_Zqof (hts _ (tbl_mem 432 (by decide +kernel))) (hts _ (tbl_mem 15 rfl)) (hs _ f_f) hA with h | ⟨t, h⟩
    · exact ⟨.null, Or.inr rfl, h⟩
    · exact ⟨.ref t, Or.inl ⟨t, rfl⟩, h⟩
  · exact va_Zof (hts _ (tbl_mem 416 (by decide +kernel))) (hts _ (tbl_mem 13 rfl)) (va_eqi (hs _ f_c)) hA
  · obtain ⟨adK, adV, h1, h2⟩ := vk_Sof (N := 8) (tm := gl_s) (len := gl_len) (byt := gl_byt) (A := A) (by decide) (fun i hi => hs _ (f_s1 i hi)) (fun i hi => hs _ (f_s2 i hi)) (fun i hi => hs _ (f_s3 i hi)) (fun i hi => hs _ (f_s4 i hi)) (fun i hi j hj => hs _ (f_s5 i hi j hj)) (fun i j hi hj hne => by
      rcases f_s6 i hi j hj hne with h | h
      · exact Or.inl (hs _ h)
      · exact Or.inr (hs _ h)) hA
    refine ⟨adK, adV, h1, fun i q hq => ?_⟩
    have hi : i < 8 := (List.getElem?_eq_some_iff.mp hq).1
    have h3 := h2 i hi
    rcases (by omega : i = 0 ∨ i = 1 ∨ i = 2 ∨ i = 3 ∨ i = 4 ∨ i = 5 ∨ i = 6 ∨ i = 7) with rfl | rfl | rfl | rfl | rfl | rfl | rfl | rfl
    · cases hq; exact vk_R.of (hts _ (tbl_mem 402 (by decide +kernel))) h3
    · cases hq; exact vk_R.of (hts _ (tbl_mem 502 (by decide +kernel))) h3
    · cases hq; exact vk_R.of (hts _ (tbl_mem 516 (by decide +kernel))) h3
    · cases hq; exact vk_R.of (hts _ (tbl_mem 517 (by decide +kernel))) h3
    · cases hq; exact vk_R.of (hts _ (tbl_mem 507 (by decide +kernel))) h3
    · cases hq; exact vk_R.of (hts _ (tbl_mem 475 (by decide +kernel))) h3
    · cases hq; exact vk_R.of (hts _ (tbl_mem 480 (by decide +kernel))) h3
    · cases hq; exact vk_R.of (hts _ (tbl_mem 485 (by decide +kernel))) h3
def gl_sv (tA tB : Nat) (vF : Value) (b : Nat) (adK adV : Nat → Nat) (j : Nat) : Value := if j = 0 then .ref tA else if j = 1 then .ref tB else if j = 2 then vF else if j = 3 then .ref b else if 10 ≤ j ∧ j < 18 then .ref (adK (j - 10)) else if 30 ≤ j ∧ j < 38 then .ref (adV (j - 30)) else .null
theorem gl_svk {tA tB b i : Nat} {vF : Value} {adK adV : Nat → Nat} (h : i < 8) : gl_sv tA tB vF b adK adV (10 + i) = .ref (adK i) ∧ gl_sv tA tB vF b adK adV (30 + i) = .ref (adV i) := by
  unfold gl_sv
  constructor
  · rw [if_neg (by omega), if_neg (by omega), if_neg (by omega), if_neg (by omega), if_pos (by omega)]
    congr 2; omega
  · rw [if_neg (by omega), if_neg (by omega), if_neg (by omega), if_neg (by omega), if_neg (by omega), if_pos (by omega)]
    congr 2; omega
theorem gl_svr {tA tB b : Nat} {vF : Value} {adK adV : Nat → Nat} (hF : (∃ t, vF = Value.ref t) ∨ vF = .null) (j : Nat) : (∃ t, gl_sv tA tB vF b adK adV j = .ref t) ∨ gl_sv tA tB vF b adK adV j = .null := by
  unfold gl_sv
  split
  · exact Or.inl ⟨_, rfl⟩
  · split
    · exact Or.inl ⟨_, rfl⟩
    · split
      · exact hF
      · split
        · exact Or.inl ⟨_, rfl⟩
        · split
          · exact Or.inl ⟨_, rfl⟩
          · split
            · exact Or.inl ⟨_, rfl⟩
            · exact Or.inr rfl
theorem gl_start {p : Program} {e : Env} {s : State} {m : MethodId} {below : List Frame} {meth : Method} {c : Code} (l : Launch) {b L : Nat} {xs : Nat → Int32} (hL : L ≤ 3072) (C0 : lw_At p s m meth c b L xs) (hcode : (Jvm.Cond.code x code maxLocals ret).before #[Value.ref b] s = true) (hname : meth.name = x.name) : W p l e room_1 s m #[Value.ref b] below meth c s.heap [] 0 0 (lw_Z below #[Value.ref b] s) (entryFrame m ([Value.ref b] : List Value).toArray 4) := by
  obtain ⟨hx, hcc, hret, hml, hown, hts, hX, hbl, hlocks, hgv⟩ := C0
  have hs : ∀ w ∈ gl_F, w.before #[Value.ref b] s = true := flat_of_before _ hgv
  obtain ⟨dC, dI, dA, hK⟩ := gl_K hts
  have hA : ∀ a : Nat, a < s.heap.size → ¬ (fun q => s.heap.size ≤ q) a := fun a ha h => absurd (show s.heap.size ≤ a from h) (by omega)
  obtain ⟨⟨tA, za, ta⟩, ⟨tB, zb, tb⟩, ⟨vF, hF, zf⟩, zc, adK, adV, hS, hR⟩ := gl_Z hts hs (fun q => s.heap.size ≤ q) hA
  obtain ⟨scr, hcb, hof, hkn, hsz, hval⟩ := hX
  have hSt : cm_St (s.heap.size, gl_sv tA tB vF b adK adV, (dC, dI), dA, L, xs) s s.heap := by
    refine ⟨⟨fun w hw => ?_, va_AO.of (hts _ (tbl_mem 37 rfl)), va_AO.of (hts _ (tbl_mem 104 rfl)), va_AO.of (hts _ (tbl_mem 215 rfl))⟩, gl_svr hF, ⟨tA, rfl, za, ta⟩, ⟨tB, rfl, zb, tb⟩, zf, zc, ⟨b, rfl, ⟨scr, hcb, hof, hkn, Nat.le_of_eq hsz.symm, ?_, hval, hA b hbl⟩, hL⟩, adK, adV, hS, fun i q hq => ?_⟩
    · have hw2 := List.mem_filter.mp hw
      refine va_Nw.of ?_ (hts w hw2.1)
      have h2 := hw2.2
      cases w with
      | fieldLinkNest a i b n d h => rfl
      | methodLinkNest a i x h => rfl
      | _ => cases h2
    · rw [hsz]
    · have hi : i < 8 := (List.getElem?_eq_some_iff.mp hq).1
      exact ⟨(gl_svk hi).1, (gl_svk hi).2, hR i q hq⟩
  have hl := lv_entry ([.ref b]) (n := 4) (Nat.le_of_ble_eq_true rfl)
  rw [lg_entry_eq]
  have hws : ∀ w ∈ cm_ws mL_law, w.before #[Value.ref b] s = true := fun w hw => by
    rcases List.mem_cons.mp hw with h | h
    · rw [h]; exact hcode
    · exact hts w (List.mem_filter.mp h).1
  have hWd : cm_Wd (s.heap.size, gl_sv tA tB vF b adK adV, (dC, dI), dA, L, xs) (As 0 []) (As 0 []) (As none []) [] s.heap := ⟨fun k q h => (by cases h), rfl⟩
  have key := lw_top (l := l) (g := (s.heap.size, gl_sv tA tB vF b adK adV, (dC, dI), dA, L, xs)) (Q := fun r _ _ _ _ => r = some (.int 1)) hL (fun _ _ _ _ => rfl) p e room_1 s m #[Value.ref b] below meth c s.heap [] 0 0 600000 7302250 _ ⟨hx, hcc, hml, hret, hown, hws, hname, hlocks, hSt, hK, Nat.le_refl _⟩ hWd va_S.rf hl ⟨Nat.le_of_ble_eq_true rfl, Nat.le_of_ble_eq_true rfl, Nat.le_of_ble_eq_true rfl, Nat.le_of_ble_eq_true rfl, Nat.le_refl _, Nat.le_refl _⟩
  intro T hT X
  obtain ⟨t, a1, o, b1, b2, ⟨⟨r, I, L', R, ds, e1, e2, e3⟩, e4⟩, Lc, hF2, hfree⟩ := key T hT X
  subst e2
  have eo : o = .returned (some (.int 1)) := e1
  refine ⟨t, a1, o, b1, b2, eo, ⟨some (.int 1), eo⟩, hF2.2.1, hF2.2.2.weaken (fun y hy hlt => ?_) (Nat.le_refl _) (Nat.le_refl _)⟩
  have hge : s.heap.size ≤ y.base := hfree y hy
  exact absurd hlt (Nat.not_lt.mpr hge)
