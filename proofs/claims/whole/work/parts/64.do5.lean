/-! CellarMeter: tape, item, read, shift, judge, alike -/
section K38
variable {l : Launch} {g : cm_G} {I : cm_I} {L : cm_L} {hr tl : Option Nat} {Q : cm_Post} {n : Nat} {kd mm : Nat → Nat} {len : Nat} {tx : Nat → Nat} {hs : List (List Cls)} {hx c1 : Nat} {w1 : Nat → Nat} {c2 : Nat} {w2 : Nat → Nat} {im : IM} {s : List Nat} {tp : TP}
theorem c_X11_tapeAt {t : Int32} (ht : inB t 6 = true → Q (some (.ref (tA (ix t)))) I L (RR n hr tl) (DD n)) (hf : inB t 6 = false → Q (some .null) I L (RR n hr tl) (DD n)) : cm_Ex l g 1 0 0 mX11_tapeAt 0 [.ref 0, .int t] [] I L (RR n hr tl) (DD n) Q := by
  have e6 : (nI 6).toInt = 6 := by decide
  have no : ¬ (0 ≤ t.toInt ∧ t.toInt < 6) → inB t 6 = false := fun h => by
    cases hb : inB t 6 with
    | false => rfl
    | true => exact absurd (inB_iff.mp hb) h
  refine x_ildn qX11_tapeAt_0 rfl ?_
  refine x_if_lt (tgt := 22) qX11_tapeAt_1 (by omega) (fun h1 => ?_) (fun h1 => ?_)
  · rw [Int32.lt_iff_toInt_lt, t0i] at h1
    refine x_null qX11_tapeAt_22 ?_
    refine x_aret qX11_tapeAt_23 rfl trivial ?_
    exact hf (no (by omega))
  · rw [Int32.lt_iff_toInt_lt, t0i] at h1
    refine x_ildn qX11_tapeAt_4 rfl ?_
    refine x_aldn qX11_tapeAt_5 rfl trivial ?_
    refine x_getR qX11_tapeAt_6 fX11_79 rfl rfl ?_
    refine x_alen qX11_tapeAt_9 rfl (by decide) rfl ?_
    refine x_icmp_ge (tgt := 22) qX11_tapeAt_10 (by omega) (fun h10 => ?_) (fun h10 => ?_)
    · rw [Int32.le_iff_toInt_le, e6] at h10
      refine x_null qX11_tapeAt_22 ?_
      refine x_aret qX11_tapeAt_23 rfl trivial ?_
      exact hf (no (by omega))
    · rw [Int32.le_iff_toInt_le, e6] at h10
      have hb : inB t 6 = true := inB_iff.mpr ⟨by omega, by omega⟩
      obtain ⟨et, lt⟩ := inB_ix hb
      have hq := ht hb
      refine x_aldn qX11_tapeAt_13 rfl trivial ?_
      refine x_getR qX11_tapeAt_14 fX11_79 rfl rfl ?_
      refine x_ildn qX11_tapeAt_17 rfl ?_
      rw [et]
      refine x_aalde qX11_tapeAt_18 rfl (by decide) rfl (by omega) (by decide) (rr_ts lt) ?_
      refine x_goto (tgt := 23) qX11_tapeAt_19 (by omega) ?_
      refine x_aret qX11_tapeAt_23 rfl trivial ?_
      exact hq
theorem c_X11_tape {t sr m : Int32} (C : CI n kd mm len tx hs hx c1 w1 c2 w2 im s tp I L) (hok : tapC t sr m = true → KQ Q (.int 1) n (CI n kd mm len tx hs hx c1 w1 c2 w2 im s (fuT tp (ix t) (tapV sr m))) I L) (hno : tapC t sr m = false → KQ Q (.int (tapA t sr m)) n (CI n kd mm len tx hs hx c1 w1 c2 w2 im s tp) I L) : cm_Ex l g 3 0 0 mX11_tape 0 [.ref 0, .int t, .int sr, .int m, .float 0] [] I L (RR n hr tl) (DD n) Q := by
  have kk := C.2.2.2.2.2.2.2.2
  have e4 : (nI 4).toInt = 4 := by decide
  have e60 : (nI 60).toInt = 60 := by decide
  refine x_aldn qX11_tape_0 rfl trivial ?_
  refine x_ildn qX11_tape_1 rfl ?_
  refine x_cV1 (d' := 1) qX11_tape_2 cX11_211 rfl ⟨_, rfl, rfl⟩ rfl rfl (Nat.le_of_ble_eq_true rfl) (Nat.le_of_ble_eq_true rfl) (by decide) ?_
  refine c_X11_tapeAt (fun ht => ?_) (fun ht => ?_)
  · obtain ⟨et, lt⟩ := inB_ix ht
    obtain ⟨k1, k2, k3, k4, k5, k6⟩ := kk _ lt
    have ne1 : tA (ix t) = 61 + 2 * ix t := rfl
    have main : ∀ v : Nat × Nat × (Nat → Int64), v.1 ≤ 5 → v.2.1 ≤ 60 → (v.1 = 0 → v.2.1 = 0) → (∀ j, v.2.2 j = 0) → ∀ x y, x = tsI v.1 → y = nI v.2.1 → CI n kd mm len tx hs hx c1 w1 c2 w2 im s (fuT tp (ix t) v) (cm_u (cm_u I (tA (ix t)) 1 x) (tA (ix t)) 2 y) (fun b i => if b = tA (ix t) + 1 ∧ i < 60 then 0 else L b i) ∧ KM I (cm_u (cm_u I (tA (ix t)) 1 x) (tA (ix t)) 2 y) L (fun b i => if b = tA (ix t) + 1 ∧ i < 60 then 0 else L b i) := by
      intro v v1 v2 v3 v4 x y hx hy
      have frI : ∀ b, b ≠ tA (ix t) → cm_u (cm_u I (tA (ix t)) 1 x) (tA (ix t)) 2 y b = I b := fun b h => by rw [cm_u_ne h, cm_u_ne h]
      have frL : ∀ b, b ≠ tA (ix t) + 1 → (fun b i => if b = tA (ix t) + 1 ∧ i < 60 then 0 else L b i) b = L b := fun b h => by
        funext i
        show (if b = _ ∧ _ then _ else _) = _
        rw [if_neg (fun e => h e.1)]
      refine ⟨CI_tp C (TPS_u kk lt v1 v2 v3 ?_ ?_ (fun j hj => ?_) frI frL) (fun b hb => frI b (by omega)) (fun b hb => frL b (by omega)), fun b h1 h2 => ⟨frI b (by omega), frL b (by omega)⟩⟩
      · rw [cm_uu]
        show cm_u I (tA (ix t)) 1 x (tA (ix t)) 1 = _
        rw [cm_uu]; exact hx
      · rw [cm_uu]; exact hy
      · show (if _ = _ ∧ j < 60 then _ else _) = _
        rw [if_pos ⟨rfl, hj⟩, v4]
    have dt := dd_tA (t := n) lt
    refine x_ast4 qX11_tape_5 (by decide) trivial rfl ?_
    refine x_ald qX11_tape_7 rfl trivial ?_
    refine x_ifnonnull (tgt := 14) qX11_tape_9 (by omega) ?_
    refine x_ildn qX11_tape_14 rfl ?_
    refine x_iconst (v := -1) qX11_tape_15 rfl ?_
    refine x_icmp_ne (tgt := 28) qX11_tape_16 (by omega) (fun h16 => ?_) (fun h16 => ?_)
    · have nosr : inB sr 5 = false → tapC t sr m = false ∧ tapA t sr m = -2 := fun h => by
        unfold tapC tapA
        rw [decide_eq_false h16, h, ht, if_pos rfl, if_neg (fun e => by cases e.1)]
        exact ⟨rfl, rfl⟩
      have bad : tapC t sr m = false ∧ tapA t sr m = -2 → cm_Ex l g 3 0 0 mX11_tape 43 [.ref 0, .int t, .int sr, .int m, .ref (tA (ix t))] [] I L (RR n hr tl) (DD n) Q := fun h => by
        have hq := hno h.1 I L hr tl C KM_rfl
        rw [h.2] at hq
        refine x_bipush (v := -2) qX11_tape_43 rfl ?_
        refine x_iret qX11_tape_45 rfl rfl ?_
        exact hq
      refine x_ildn qX11_tape_28 rfl ?_
      refine x_if_lt (tgt := 43) qX11_tape_29 (by omega) (fun h29 => ?_) (fun h29 => ?_)
      · rw [Int32.lt_iff_toInt_lt, t0i] at h29
        exact bad (nosr (by cases hb : inB sr 5 with | false => rfl | true => have := (inB_iff.mp hb).1; omega))
      · rw [Int32.lt_iff_toInt_lt, t0i] at h29
        refine x_ildn qX11_tape_32 rfl ?_
        refine x_iconst (v := nI 4) qX11_tape_33 rfl ?_
        refine x_icmp_gt (tgt := 43) qX11_tape_34 (by omega) (fun h34 => ?_) (fun h34 => ?_)
        · rw [Int32.lt_iff_toInt_lt, e4] at h34
          exact bad (nosr (by cases hb : inB sr 5 with | false => rfl | true => have := (inB_iff.mp hb).2; omega))
        · rw [Int32.lt_iff_toInt_lt, e4] at h34
          have hb : inB sr 5 = true := inB_iff.mpr ⟨by omega, by omega⟩
          obtain ⟨es, ls⟩ := inB_ix hb
          refine x_ildn qX11_tape_37 rfl ?_
          refine x_bipush (v := nI 60) qX11_tape_38 rfl ?_
          refine x_icmp_le (tgt := 46) qX11_tape_40 (by omega) (fun h40 => ?_) (fun h40 => ?_)
          · rw [Int32.le_iff_toInt_le, e60] at h40
            refine x_ildn qX11_tape_46 rfl ?_
            refine x_if_ge (tgt := 53) qX11_tape_47 (by omega) (fun h47 => ?_) (fun h47 => ?_)
            · rw [Int32.le_iff_toInt_le, t0i] at h47
              have hm := nI_ix h47
              have hq := hok (by unfold tapC; rw [ht, decide_eq_false h16, hb, decide_eq_true h40, decide_eq_true h47]; rfl)
              have ev : tapV sr m = (ix sr + 1, ix m, fun _ => 0) := by unfold tapV; rw [if_neg h16]
              rw [ev] at hq
              have q := main (ix sr + 1, ix m, fun _ => 0) (by show ix sr + 1 ≤ 5; omega) (by show ix m ≤ 60; unfold ix; omega) (fun e => by cases e) (fun _ => rfl) sr m (by show sr = if _ then _ else nI (ix sr + 1 - 1); rw [if_neg (by omega), Nat.add_sub_cancel]; exact es) hm
              refine x_ald qX11_tape_53 rfl trivial ?_
              refine x_ildn qX11_tape_55 rfl ?_
              refine x_ildn qX11_tape_56 rfl ?_
              refine x_cV2 (d' := 1) qX11_tape_57 cX11_249 dt.1 ⟨_, rfl, rfl⟩ rfl rfl (Nat.le_of_ble_eq_true rfl) (Nat.le_of_ble_eq_true rfl) (by decide) ?_
              refine c_X6_become lt ?_
              refine x_iconst (v := nI 1) qX11_tape_60 rfl ?_
              refine x_iret qX11_tape_61 rfl rfl ?_
              exact hq _ _ hr tl q.1 q.2
            · rw [Int32.le_iff_toInt_le, t0i] at h47
              have hq := hno (by unfold tapC; rw [ht, decide_eq_false h16, hb, decide_eq_false h47, Bool.and_false]; rfl) I L hr tl C KM_rfl
              have ev : tapA t sr m = -14 := by unfold tapA; rw [if_pos ht, if_pos ⟨hb, h40⟩]
              rw [ev] at hq
              refine x_bipush (v := -14) qX11_tape_50 rfl ?_
              refine x_iret qX11_tape_52 rfl rfl ?_
              exact hq
          · rw [Int32.le_iff_toInt_le, e60] at h40
            exact bad ⟨by unfold tapC; rw [ht, decide_eq_false h16, hb, decide_eq_false h40]; rfl, by unfold tapA; rw [if_pos ht, if_neg (fun e => h40 e.2)]⟩
    · have hq := hok (by unfold tapC; rw [ht, decide_eq_true h16]; rfl)
      have ev : tapV sr m = (0, 0, fun _ => 0) := by unfold tapV; rw [if_pos h16]
      rw [ev] at hq
      have q := main (0, 0, fun _ => 0) (by decide) (by decide) (fun _ => rfl) (fun _ => rfl) sr (nI 0) h16 rfl
      refine x_ald qX11_tape_19 rfl trivial ?_
      refine x_ildn qX11_tape_21 rfl ?_
      refine x_iconst (v := nI 0) qX11_tape_22 rfl ?_
      refine x_cV2 (d' := 1) qX11_tape_23 cX11_249 dt.1 ⟨_, rfl, rfl⟩ rfl rfl (Nat.le_of_ble_eq_true rfl) (Nat.le_of_ble_eq_true rfl) (by decide) ?_
      refine c_X6_become lt ?_
      refine x_iconst (v := nI 1) qX11_tape_26 rfl ?_
      refine x_iret qX11_tape_27 rfl rfl ?_
      exact hq _ _ hr tl q.1 q.2
  · have hq := hno (by unfold tapC; rw [ht]; rfl) I L hr tl C KM_rfl
    have ev : tapA t sr m = -1 := by unfold tapA; rw [if_neg (by rw [ht]; decide)]
    rw [ev] at hq
    refine x_ast4 qX11_tape_5 (by decide) trivial rfl ?_
    refine x_ald qX11_tape_7 rfl trivial ?_
    refine x_ifnonnull_n (a := 0) qX11_tape_9 ?_
    refine x_iconst (v := -1) qX11_tape_12 rfl ?_
    refine x_iret qX11_tape_13 rfl rfl ?_
    exact hq
theorem tsI_iff {k : Nat} (h : k ≤ 5) : tsI k = -1 ↔ k = 0 := by
  unfold tsI
  constructor
  · intro e
    by_cases h0 : k = 0
    · exact h0
    · rw [if_neg h0] at e
      rcases (by omega : k = 1 ∨ k = 2 ∨ k = 3 ∨ k = 4 ∨ k = 5) with rfl | rfl | rfl | rfl | rfl <;> exact absurd e (by decide)
  · intro e; rw [if_pos e]
theorem c_X11_item {t i : Int32} {x : Int64} (C : CI n kd mm len tx hs hx c1 w1 c2 w2 im s tp I L) (hok : iteC tp t i = true → KQ Q (.int 1) n (CI n kd mm len tx hs hx c1 w1 c2 w2 im s (fuT tp (ix t) (iteV (tp (ix t)) (ix i) x))) I L) (hno : iteC tp t i = false → KQ Q (.int (iteA tp t)) n (CI n kd mm len tx hs hx c1 w1 c2 w2 im s tp) I L) : cm_Ex l g 3 0 0 mX11_item 0 [.ref 0, .int t, .int i, .long x, .float 0, .float 0] [] I L (RR n hr tl) (DD n) Q := by
  have kk := C.2.2.2.2.2.2.2.2
  refine x_aldn qX11_item_0 rfl trivial ?_
  refine x_ildn qX11_item_1 rfl ?_
  refine x_cV1 (d' := 1) qX11_item_2 cX11_211 rfl ⟨_, rfl, rfl⟩ rfl rfl (Nat.le_of_ble_eq_true rfl) (Nat.le_of_ble_eq_true rfl) (by decide) ?_
  refine c_X11_tapeAt (fun ht => ?_) (fun ht => ?_)
  · obtain ⟨et, lt⟩ := inB_ix ht
    obtain ⟨k1, k2, k3, k4, k5, k6⟩ := kk _ lt
    have ne1 : tA (ix t) = 61 + 2 * ix t := rfl
    have dt := dd_tA (t := n) lt
    refine x_ast5 qX11_item_5 (by decide) trivial rfl ?_
    refine x_ald qX11_item_7 rfl trivial ?_
    refine x_ifnonnull (tgt := 14) qX11_item_9 (by omega) ?_
    refine x_ald qX11_item_14 rfl trivial ?_
    refine x_cV0 (d' := 1) qX11_item_16 cX11_215 dt.1 ⟨_, rfl, rfl⟩ rfl rfl (Nat.le_of_ble_eq_true rfl) (Nat.le_of_ble_eq_true rfl) (by decide) ?_
    refine c_X6_isNothing lt (fun h => ?_) (fun h => ?_)
    · rw [k4, tsI_iff k1] at h
      have hq := hno (by unfold iteC; rw [ht, h]; rfl) I L hr tl C KM_rfl
      have ev : iteA tp t = -11 := by unfold iteA; rw [if_pos ht, if_pos h]
      rw [ev] at hq
      refine x_if_eq_f (tgt := 25) qX11_item_19 (by omega) (by decide) ?_
      refine x_bipush (v := -11) qX11_item_22 rfl ?_
      refine x_iret qX11_item_24 rfl rfl ?_
      exact hq
    · rw [k4, tsI_iff k1] at h
      refine x_if_eq_t (tgt := 25) qX11_item_19 (by omega) (by decide) ?_
      refine x_ald qX11_item_25 rfl trivial ?_
      refine x_ildn qX11_item_27 rfl ?_
      refine x_cV1 (d' := 1) qX11_item_28 cX11_252 dt.1 ⟨_, rfl, rfl⟩ rfl rfl (Nat.le_of_ble_eq_true rfl) (Nat.le_of_ble_eq_true rfl) (by decide) ?_
      refine c_X6_has lt k5 k2 (fun hi => ?_) (fun hi => ?_)
      · have hb := inB_iff.mpr hi
        obtain ⟨ei, li⟩ := inB_ix hb
        have hbeq : ((tp (ix t)).1 == 0) = false := by rw [beq_eq_false_iff_ne]; exact h
        have hq := hok (by unfold iteC; rw [ht, hbeq, hb]; rfl)
        have hts : I (tA (ix t)) 1 = nI ((tp (ix t)).1 - 1) := by rw [k4]; unfold tsI; rw [if_neg h]
        refine x_if_ne_t (tgt := 37) qX11_item_31 (by omega) (by decide) ?_
        refine x_ald qX11_item_37 rfl trivial ?_
        refine x_ildn qX11_item_39 rfl ?_
        refine x_lldn qX11_item_40 rfl ?_
        rw [ei]
        refine x_cV2 (d' := 2) qX11_item_41 cX11_253 dt.1 ⟨_, rfl, rfl⟩ rfl rfl (Nat.le_of_ble_eq_true rfl) (Nat.le_of_ble_eq_true rfl) (by decide) ?_
        refine c_X6_put lt k5 k2 li hts (by omega) ?_
        refine x_iconst (v := nI 1) qX11_item_44 rfl ?_
        refine x_iret qX11_item_45 rfl rfl ?_
        have frL : ∀ b, b ≠ tA (ix t) + 1 → cm_u L (tA (ix t) + 1) (ix i) (cutf ((tp (ix t)).1 - 1) x) b = L b := fun b h => cm_u_ne h
        refine hq I _ hr tl (CI_tp C (TPS_u kk lt k1 k2 k3 k4 k5 (fun j hj => ?_) (fun _ _ => rfl) frL) (fun _ _ => rfl) (fun b hb => frL b (by omega))) (fun b h1 h2 => ⟨rfl, frL b (by omega)⟩)
        rw [cm_uu]
        show (if j = ix i then _ else _) = (if j = ix i then _ else _)
        by_cases e : j = ix i
        · rw [if_pos e, if_pos e]
        · rw [if_neg e, if_neg e]; exact k6 j hj
      · have hbeq : ((tp (ix t)).1 == 0) = false := by rw [beq_eq_false_iff_ne]; exact h
        have hib : inB i (tp (ix t)).2.1 = false := by cases hb : inB i (tp (ix t)).2.1 with | false => rfl | true => exact absurd (inB_iff.mp hb) hi
        have hq := hno (by unfold iteC; rw [ht, hbeq, hib]; rfl) I L hr tl C KM_rfl
        have ev : iteA tp t = -13 := by unfold iteA; rw [if_pos ht, if_neg h]
        rw [ev] at hq
        refine x_if_ne_f (tgt := 37) qX11_item_31 (by omega) (by decide) ?_
        refine x_bipush (v := -13) qX11_item_34 rfl ?_
        refine x_iret qX11_item_36 rfl rfl ?_
        exact hq
  · have hq := hno (by unfold iteC; rw [ht]; rfl) I L hr tl C KM_rfl
    have ev : iteA tp t = -1 := by unfold iteA; rw [if_neg (by rw [ht]; decide)]
    rw [ev] at hq
    refine x_ast5 qX11_item_5 (by decide) trivial rfl ?_
    refine x_ald qX11_item_7 rfl trivial ?_
    refine x_ifnonnull_n (a := 0) qX11_item_9 ?_
    refine x_iconst (v := -1) qX11_item_12 rfl ?_
    refine x_iret qX11_item_13 rfl rfl ?_
    exact hq
theorem c_X11_read {t i : Int32} (C : CI n kd mm len tx hs hx c1 w1 c2 w2 im s tp I L) (hQ : KQ Q (.long (reaA tp t i)) n (CI n kd mm len tx hs hx c1 w1 c2 w2 im s tp) I L) : cm_Ex l g 3 0 0 mX11_read 0 [.ref 0, .int t, .int i, .float 0] [] I L (RR n hr tl) (DD n) Q := by
  have hq := hQ I L hr tl C KM_rfl
  have kk := C.2.2.2.2.2.2.2.2
  refine x_aldn qX11_read_0 rfl trivial ?_
  refine x_ildn qX11_read_1 rfl ?_
  refine x_cV1 (d' := 1) qX11_read_2 cX11_211 rfl ⟨_, rfl, rfl⟩ rfl rfl (Nat.le_of_ble_eq_true rfl) (Nat.le_of_ble_eq_true rfl) (by decide) ?_
  refine c_X11_tapeAt (fun ht => ?_) (fun ht => ?_)
  · obtain ⟨et, lt⟩ := inB_ix ht
    obtain ⟨k1, k2, k3, k4, k5, k6⟩ := kk _ lt
    have dt := dd_tA (t := n) lt
    refine x_ast3 qX11_read_5 (by decide) trivial rfl ?_
    refine x_aldn qX11_read_6 rfl trivial ?_
    refine x_ifnull qX11_read_7 ?_
    refine x_aldn qX11_read_10 rfl trivial ?_
    refine x_ildn qX11_read_11 rfl ?_
    refine x_cV1 (d' := 1) qX11_read_12 cX11_252 dt.1 ⟨_, rfl, rfl⟩ rfl rfl (Nat.le_of_ble_eq_true rfl) (Nat.le_of_ble_eq_true rfl) (by decide) ?_
    refine c_X6_has lt k5 k2 (fun hi => ?_) (fun hi => ?_)
    · have hb := inB_iff.mpr hi
      obtain ⟨ei, li⟩ := inB_ix hb
      have ev : reaA tp t i = (tp (ix t)).2.2 (ix i) := by unfold reaA; rw [ht, hb]; rfl
      rw [ev, ← k6 _ (by omega)] at hq
      refine x_if_ne_t (tgt := 22) qX11_read_15 (by omega) (by decide) ?_
      refine x_aldn qX11_read_22 rfl trivial ?_
      refine x_ildn qX11_read_23 rfl ?_
      rw [ei]
      refine x_cV1 (d' := 2) qX11_read_24 cX11_259 dt.1 ⟨_, rfl, rfl⟩ rfl rfl (Nat.le_of_ble_eq_true rfl) (Nat.le_of_ble_eq_true rfl) (by decide) ?_
      refine c_X6_itemAt lt k5 k2 li ?_
      refine x_lret qX11_read_27 rfl ?_
      exact hq
    · have hib : inB i (tp (ix t)).2.1 = false := by cases hb : inB i (tp (ix t)).2.1 with | false => rfl | true => exact absurd (inB_iff.mp hb) hi
      have ev : reaA tp t i = -9223372036854775808 := by unfold reaA; rw [hib, Bool.and_false]; rfl
      rw [ev] at hq
      refine x_if_ne_f (tgt := 22) qX11_read_15 (by omega) (by decide) ?_
      refine x_ldc2 qX11_read_18 vX11_257 ?_
      refine x_lret qX11_read_21 rfl ?_
      exact hq
  · have ev : reaA tp t i = -9223372036854775808 := by unfold reaA; rw [ht, Bool.false_and]; rfl
    rw [ev] at hq
    refine x_ast3 qX11_read_5 (by decide) trivial rfl ?_
    refine x_aldn qX11_read_6 rfl trivial ?_
    refine x_ifnull_n (a := 0) (tgt := 18) qX11_read_7 (by omega) ?_
    refine x_ldc2 qX11_read_18 vX11_257 ?_
    refine x_lret qX11_read_21 rfl ?_
    exact hq
theorem c_X11_shift {t i o j m : Int32} (C : CI n kd mm len tx hs hx c1 w1 c2 w2 im s tp I L) (hok : shiC tp t i o j m → KQ Q (.int m) n (CI n kd mm len tx hs hx c1 w1 c2 w2 im s (fuT tp (ix o) (shiV (tp (ix t)) (tp (ix o)) (ix i) (ix j) (ix m)))) I L) (hno : ¬ shiC tp t i o j m → KQ Q (.int (shiA tp t o)) n (CI n kd mm len tx hs hx c1 w1 c2 w2 im s tp) I L) : cm_Ex l g 3 0 0 mX11_shift 0 [.ref 0, .int t, .int i, .int o, .int j, .int m, .float 0, .float 0] [] I L (RR n hr tl) (DD n) Q := by
  have kk := C.2.2.2.2.2.2.2.2
  have hno' : ¬ shiC tp t i o j m → ∀ x, shiA tp t o = x → Q (some (.int x)) I L (RR n hr tl) (DD n) := fun h x e => by
    have := hno h I L hr tl C KM_rfl
    rw [e] at this; exact this
  have no1 : ¬ (inB t 6 = true ∧ inB o 6 = true) → shiA tp t o = -1 := fun h => by unfold shiA; rw [if_neg h]
  refine x_aldn qX11_shift_0 rfl trivial ?_
  refine x_ildn qX11_shift_1 rfl ?_
  refine x_cV1 (d' := 1) qX11_shift_2 cX11_211 rfl ⟨_, rfl, rfl⟩ rfl rfl (Nat.le_of_ble_eq_true rfl) (Nat.le_of_ble_eq_true rfl) (by decide) ?_
  refine c_X11_tapeAt (fun ht => ?_) (fun ht => ?_)
  · obtain ⟨et, lt⟩ := inB_ix ht
    obtain ⟨k1, k2, k3, k4, k5, k6⟩ := kk _ lt
    have dt := dd_tA (t := n) lt
    refine x_ast6 qX11_shift_5 (by decide) trivial rfl ?_
    refine x_aldn qX11_shift_7 rfl trivial ?_
    refine x_ildn qX11_shift_8 rfl ?_
    refine x_cV1 (d' := 1) qX11_shift_9 cX11_211 rfl ⟨_, rfl, rfl⟩ rfl rfl (Nat.le_of_ble_eq_true rfl) (Nat.le_of_ble_eq_true rfl) (by decide) ?_
    refine c_X11_tapeAt (fun ho => ?_) (fun ho => ?_)
    · obtain ⟨eo, lo⟩ := inB_ix ho
      obtain ⟨o1, o2, o3, o4, o5, o6⟩ := kk _ lo
      have dn := dd_tA (t := n) lo
      have ne2 : tA (ix o) = 61 + 2 * ix o := rfl
      refine x_ast7 qX11_shift_12 (by decide) trivial rfl ?_
      refine x_ald qX11_shift_14 rfl trivial ?_
      refine x_ifnull qX11_shift_16 ?_
      refine x_ald qX11_shift_19 rfl trivial ?_
      refine x_ifnonnull (tgt := 26) qX11_shift_21 (by omega) ?_
      refine x_ald qX11_shift_26 rfl trivial ?_
      refine x_cV0 (d' := 1) qX11_shift_28 cX11_215 dt.1 ⟨_, rfl, rfl⟩ rfl rfl (Nat.le_of_ble_eq_true rfl) (Nat.le_of_ble_eq_true rfl) (by decide) ?_
      have noth : (tp (ix t)).1 = 0 ∨ (tp (ix o)).1 = 0 → cm_Ex l g 3 0 0 mX11_shift 42 [.ref 0, .int t, .int i, .int o, .int j, .int m, .ref (tA (ix t)), .ref (tA (ix o))] [] I L (RR n hr tl) (DD n) Q := fun h => by
        have hq := hno' (fun e => by rcases h with h | h; exact e.2.1.1 h; exact e.2.1.2 h) (-11) (by unfold shiA; rw [if_pos ⟨ht, ho⟩, if_pos h])
        refine x_bipush (v := -11) qX11_shift_42 rfl ?_
        refine x_iret qX11_shift_44 rfl rfl ?_
        exact hq
      refine c_X6_isNothing lt (fun h => ?_) (fun h => ?_)
      · rw [k4, tsI_iff k1] at h
        refine x_if_ne_t (tgt := 42) qX11_shift_31 (by omega) (by decide) ?_
        exact noth (Or.inl h)
      · rw [k4, tsI_iff k1] at h
        refine x_if_ne_f (tgt := 42) qX11_shift_31 (by omega) (by decide) ?_
        refine x_ald qX11_shift_34 rfl trivial ?_
        refine x_cV0 (d' := 1) qX11_shift_36 cX11_215 dn.1 ⟨_, rfl, rfl⟩ rfl rfl (Nat.le_of_ble_eq_true rfl) (Nat.le_of_ble_eq_true rfl) (by decide) ?_
        refine c_X6_isNothing lo (fun h2 => ?_) (fun h2 => ?_)
        · rw [o4, tsI_iff o1] at h2
          refine x_if_eq_f (tgt := 45) qX11_shift_39 (by omega) (by decide) ?_
          exact noth (Or.inr h2)
        · rw [o4, tsI_iff o1] at h2
          have s1 : I (tA (ix t)) 1 = nI ((tp (ix t)).1 - 1) := by rw [k4]; unfold tsI; rw [if_neg h]
          have s2 : I (tA (ix o)) 1 = nI ((tp (ix o)).1 - 1) := by rw [o4]; unfold tsI; rw [if_neg h2]
          have hnn : ¬ ((tp (ix t)).1 = 0 ∨ (tp (ix o)).1 = 0) := fun e => by rcases e with e | e; exact h e; exact h2 e
          refine x_if_eq_t (tgt := 45) qX11_shift_39 (by omega) (by decide) ?_
          refine x_ald qX11_shift_45 rfl trivial ?_
          refine x_getIe qX11_shift_47 fX11_219 dt.1 s1 ?_
          refine x_ald qX11_shift_50 rfl trivial ?_
          refine x_getIe qX11_shift_52 fX11_219 dn.1 s2 ?_
          refine x_icmp_eq_n (tgt := 61) qX11_shift_55 (by omega) (by omega) (by omega) (fun h3 => ?_) (fun h3 => ?_)
          · have h3' : (tp (ix t)).1 = (tp (ix o)).1 := by omega
            have pl : ¬ ((0 ≤ i.toInt ∧ 0 ≤ m.toInt ∧ i.toInt + m.toInt ≤ (tp (ix t)).2.1) ∧ (0 ≤ j.toInt ∧ 0 ≤ m.toInt ∧ j.toInt + m.toInt ≤ (tp (ix o)).2.1)) → cm_Ex l g 3 0 0 mX11_shift 84 [.ref 0, .int t, .int i, .int o, .int j, .int m, .ref (tA (ix t)), .ref (tA (ix o))] [] I L (RR n hr tl) (DD n) Q := fun h => by
              have hq := hno' (fun e => h ⟨e.2.2.2.1, e.2.2.2.2⟩) (-13) (by unfold shiA; rw [if_pos ⟨ht, ho⟩, if_neg hnn, if_pos h3'])
              refine x_bipush (v := -13) qX11_shift_84 rfl ?_
              refine x_iret qX11_shift_86 rfl rfl ?_
              exact hq
            refine x_ald qX11_shift_61 rfl trivial ?_
            refine x_ildn qX11_shift_63 rfl ?_
            refine x_ild qX11_shift_64 rfl ?_
            refine x_cV2 (d' := 1) qX11_shift_66 cX11_263 dt.1 ⟨_, rfl, rfl⟩ rfl rfl (Nat.le_of_ble_eq_true rfl) (Nat.le_of_ble_eq_true rfl) (by decide) ?_
            refine c_X6_hasRun lt k5 k2 (fun r1 => ?_) (fun r1 => ?_)
            · refine x_if_eq_f (tgt := 84) qX11_shift_69 (by omega) (by decide) ?_
              refine x_ald qX11_shift_72 rfl trivial ?_
              refine x_ild qX11_shift_74 rfl ?_
              refine x_ild qX11_shift_76 rfl ?_
              refine x_cV2 (d' := 1) qX11_shift_78 cX11_263 dn.1 ⟨_, rfl, rfl⟩ rfl rfl (Nat.le_of_ble_eq_true rfl) (Nat.le_of_ble_eq_true rfl) (by decide) ?_
              refine c_X6_hasRun lo o5 o2 (fun r2 => ?_) (fun r2 => ?_)
              · have hq := hok ⟨⟨ht, ho⟩, ⟨h, h2⟩, h3', r1, r2⟩
                refine x_if_ne_t (tgt := 87) qX11_shift_81 (by omega) (by decide) ?_
                refine x_ald qX11_shift_87 rfl trivial ?_
                refine x_getR qX11_shift_89 fX11_266 dt.1 (rr_tA lt) ?_
                refine x_ildn qX11_shift_92 rfl ?_
                refine x_ald qX11_shift_93 rfl trivial ?_
                refine x_getR qX11_shift_95 fX11_266 dn.1 (rr_tA lo) ?_
                refine x_ild qX11_shift_98 rfl ?_
                refine x_ild qX11_shift_100 rfl ?_
                refine x_copyl (u := ix i) (v := ix j) (n := ix m) qX11_shift_102 aX11_270 ac_1 ac_2 ac_3 dt.2 dn.2 (nI_ix r1.1) (nI_ix r2.1) (nI_ix r1.2.1) (by decide) (by decide) (by unfold ix; omega) (by unfold ix; omega) (by decide) (by decide) ?_
                have frL : ∀ b, b ≠ tA (ix o) + 1 → (fun b j' => if b = tA (ix o) + 1 then va_cpy (L (tA (ix t) + 1)) (L (tA (ix o) + 1)) (ix i) (ix j) (ix m) j' else L b j') b = L b := fun b h => by
                  funext k
                  show (if b = _ then _ else _) = _
                  rw [if_neg h]
                refine x_ild qX11_shift_105 rfl ?_
                refine x_iret qX11_shift_107 rfl rfl ?_
                refine hq I _ hr tl (CI_tp C (TPS_u kk lo o1 o2 o3 o4 o5 (fun k hk => ?_) (fun _ _ => rfl) frL) (fun _ _ => rfl) (fun b hb => frL b (by omega))) (fun b h1 h2 => ⟨rfl, frL b (by omega)⟩)
                show (if tA (ix o) + 1 = tA (ix o) + 1 then _ else _) = _
                rw [if_pos rfl]
                show (if _ ∧ _ then _ else _) = (if _ ∧ _ then _ else _)
                by_cases e : ix j ≤ k ∧ k < ix j + ix m
                · rw [if_pos e, if_pos e]
                  exact k6 _ (by unfold ix at *; omega)
                · rw [if_neg e, if_neg e]
                  exact o6 k hk
              · refine x_if_ne_f (tgt := 87) qX11_shift_81 (by omega) (by decide) ?_
                exact pl (fun e => r2 e.2)
            · refine x_if_eq_t (tgt := 84) qX11_shift_69 (by omega) (by decide) ?_
              exact pl (fun e => r1 e.1)
          · have hq := hno' (fun e => h3 (by rw [e.2.2.1])) (-12) (by unfold shiA; rw [if_pos ⟨ht, ho⟩, if_neg hnn, if_neg (fun e => h3 (by rw [e]))])
            refine x_bipush (v := -12) qX11_shift_58 rfl ?_
            refine x_iret qX11_shift_60 rfl rfl ?_
            exact hq
    · have hq := hno' (fun e => by have := e.1.2; rw [ho] at this; cases this) (-1) (no1 (fun e => by have := e.2; rw [ho] at this; cases this))
      refine x_ast7 qX11_shift_12 (by decide) trivial rfl ?_
      refine x_ald qX11_shift_14 rfl trivial ?_
      refine x_ifnull qX11_shift_16 ?_
      refine x_ald qX11_shift_19 rfl trivial ?_
      refine x_ifnonnull_n (a := 0) qX11_shift_21 ?_
      refine x_iconst (v := -1) qX11_shift_24 rfl ?_
      refine x_iret qX11_shift_25 rfl rfl ?_
      exact hq
  · have hq := hno' (fun e => by have := e.1.1; rw [ht] at this; cases this) (-1) (no1 (fun e => by have := e.1; rw [ht] at this; cases this))
    refine x_ast6 qX11_shift_5 (by decide) trivial rfl ?_
    refine x_aldn qX11_shift_7 rfl trivial ?_
    refine x_ildn qX11_shift_8 rfl ?_
    refine x_cV1 (d' := 1) qX11_shift_9 cX11_211 rfl ⟨_, rfl, rfl⟩ rfl rfl (Nat.le_of_ble_eq_true rfl) (Nat.le_of_ble_eq_true rfl) (by decide) ?_
    refine c_X11_tapeAt (fun ho => ?_) (fun ho => ?_)
    · refine x_ast7 qX11_shift_12 (by decide) trivial rfl ?_
      refine x_ald qX11_shift_14 rfl trivial ?_
      refine x_ifnull_n (a := 0) (tgt := 24) qX11_shift_16 (by omega) ?_
      refine x_iconst (v := -1) qX11_shift_24 rfl ?_
      refine x_iret qX11_shift_25 rfl rfl ?_
      exact hq
    · refine x_ast7 qX11_shift_12 (by decide) trivial rfl ?_
      refine x_ald qX11_shift_14 rfl trivial ?_
      refine x_ifnull_n (a := 0) (tgt := 24) qX11_shift_16 (by omega) ?_
      refine x_iconst (v := -1) qX11_shift_24 rfl ?_
      refine x_iret qX11_shift_25 rfl rfl ?_
      exact hq
end K38
