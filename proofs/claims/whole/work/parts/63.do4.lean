/-! CellarMeter: act, trace, taken, count, tapes -/
def tapC (t sr m : Int32) : Bool := inB t 6 && (decide (sr = -1) || (inB sr 5 && (decide (m.toInt ≤ 60) && decide (0 ≤ m.toInt))))
def tapA (t sr m : Int32) : Int32 := if inB t 6 then (if inB sr 5 = true ∧ m.toInt ≤ 60 then -14 else -2) else -1
/-- what a tape becomes -/
def tapV (sr m : Int32) : Nat × Nat × (Nat → Int64) := if sr = -1 then (0, 0, fun _ => 0) else (ix sr + 1, ix m, fun _ => 0)
def fuT (tp : TP) (p : Nat) (v : Nat × Nat × (Nat → Int64)) : TP := fun q => if q = p then v else tp q
def iteC (tp : TP) (t i : Int32) : Bool := inB t 6 && (!((tp (ix t)).1 == 0) && inB i (tp (ix t)).2.1)
def iteA (tp : TP) (t : Int32) : Int32 := if inB t 6 then (if (tp (ix t)).1 = 0 then -11 else -13) else -1
def iteV (v : Nat × Nat × (Nat → Int64)) (i : Nat) (x : Int64) : Nat × Nat × (Nat → Int64) := (v.1, v.2.1, fun j => if j = i then cutf (v.1 - 1) x else v.2.2 j)
def reaA (tp : TP) (t i : Int32) : Int64 := if inB t 6 && inB i (tp (ix t)).2.1 then (tp (ix t)).2.2 (ix i) else -9223372036854775808
def shiC (tp : TP) (t i o j m : Int32) : Prop := (inB t 6 = true ∧ inB o 6 = true) ∧ (¬ (tp (ix t)).1 = 0 ∧ ¬ (tp (ix o)).1 = 0) ∧ (tp (ix t)).1 = (tp (ix o)).1 ∧ (0 ≤ i.toInt ∧ 0 ≤ m.toInt ∧ i.toInt + m.toInt ≤ (tp (ix t)).2.1) ∧ (0 ≤ j.toInt ∧ 0 ≤ m.toInt ∧ j.toInt + m.toInt ≤ (tp (ix o)).2.1)
def shiA (tp : TP) (t o : Int32) : Int32 := if inB t 6 = true ∧ inB o 6 = true then (if (tp (ix t)).1 = 0 ∨ (tp (ix o)).1 = 0 then -11 else if (tp (ix t)).1 = (tp (ix o)).1 then -13 else -12) else -1
def shiV (v w : Nat × Nat × (Nat → Int64)) (i j m : Nat) : Nat × Nat × (Nat → Int64) := (w.1, w.2.1, fun k => if j ≤ k ∧ k < j + m then v.2.2 (i + (k - j)) else w.2.2 k)
section K37
variable {l : Launch} {g : cm_G} {I : cm_I} {L : cm_L} {hr tl : Option Nat} {Q : cm_Post} {n : Nat} {kd mm : Nat → Nat} {len : Nat} {tx : Nat → Nat} {hs : List (List Cls)} {hx c1 : Nat} {w1 : Nat → Nat} {c2 : Nat} {w2 : Nat → Nat} {im : IM} {s : List Nat} {tp : TP}
theorem CI_tr {I' : cm_I} {s' : List Nat} (C : CI n kd mm len tx hs hx c1 w1 c2 w2 im s tp I L) (T : TRC s' I') (hl : s'.length < 1000) (hI : ∀ b, b ≠ 34 → b ≠ 35 → I' b = I b) : CI n kd mm len tx hs hx c1 w1 c2 w2 im s' tp I' L := by
  obtain ⟨a1, a2, ⟨b1, b2, b3, b4⟩, ⟨d1, d2⟩, e1, e2, f, ⟨g1, g2⟩, kk⟩ := C
  have h0 : I' 0 = I 0 := hI 0 (by omega) (by omega)
  refine ⟨HI_frame a1 (fun b hb => hI b (by omega) (by omega)) (fun _ _ => rfl), TX_fr2 a2 (hI 7 (by omega) (by omega)) (hI 8 (by omega) (by omega)), ⟨by rw [h0]; exact b1, b2, fun h cs hh => ?_, ?_⟩, ⟨d1, by rw [h0]; exact d2⟩, ?_, ?_, ?_, ⟨T, hl⟩, ?_⟩
  · have hl : h < hs.length := (List.getElem?_eq_some_iff.mp hh).1
    have hc := hA_c (h := h) (by omega)
    exact HS_fr (b3 h cs hh) (fun b h1 h2 => hI b (by omega) (by omega))
  · have hc := hA_c (h := 6) (by omega)
    exact HS_fr b4 (fun b h1 h2 => hI b (by omega) (by omega))
  · exact MT_fr e1 (hI _ (by omega) (by omega)) (hI _ (by omega) (by omega))
  · exact MT_fr e2 (hI _ (by omega) (by omega)) (hI _ (by omega) (by omega))
  · exact IMG_fr f (by rw [h0]) (by rw [h0]) (fun b h1 h2 => hI b (by omega) (by omega))
  · exact TPS_fr kk (fun b h1 h2 => hI b (by omega) (by omega)) (fun b h1 h2 => rfl)
theorem CI_tp {I' : cm_I} {L' : cm_L} {tp' : TP} (C : CI n kd mm len tx hs hx c1 w1 c2 w2 im s tp I L) (T : TPS tp' I' L') (hI : ∀ b, b < 61 ∨ 72 < b → I' b = I b) (hL : ∀ b, b < 61 ∨ 72 < b → L' b = L b) : CI n kd mm len tx hs hx c1 w1 c2 w2 im s tp' I' L' := by
  obtain ⟨a1, a2, ⟨b1, b2, b3, b4⟩, ⟨d1, d2⟩, e1, e2, f, ⟨g1, g2⟩, kk⟩ := C
  have h0 : I' 0 = I 0 := hI 0 (by omega)
  refine ⟨HI_frame a1 (fun b hb => hI b (by omega)) (fun b hb => hL b (by omega)), TX_fr2 a2 (hI 7 (by omega)) (hI 8 (by omega)), ⟨by rw [h0]; exact b1, b2, fun h cs hh => ?_, ?_⟩, ⟨d1, by rw [h0]; exact d2⟩, ?_, ?_, ?_, ⟨?_, g2⟩, T⟩
  · have hl : h < hs.length := (List.getElem?_eq_some_iff.mp hh).1
    have hc := hA_c (h := h) (by omega)
    exact HS_fr (b3 h cs hh) (fun b h1 h2 => hI b (by omega))
  · have hc := hA_c (h := 6) (by omega)
    exact HS_fr b4 (fun b h1 h2 => hI b (by omega))
  · exact MT_fr e1 (hI _ (by omega)) (hI _ (by omega))
  · exact MT_fr e2 (hI _ (by omega)) (hI _ (by omega))
  · exact IMG_fr f (by rw [h0]) (by rw [h0]) (fun b h1 h2 => hI b (by omega))
  · exact TRC_fr g1 (hI _ (by omega)) (hI _ (by omega))
theorem TPS_u {I' : cm_I} {L' : cm_L} {p : Nat} {v : Nat × Nat × (Nat → Int64)} (T : TPS tp I L) (hp : p < 6) (h1 : v.1 ≤ 5) (h2 : v.2.1 ≤ 60) (h3 : v.1 = 0 → v.2.1 = 0) (h4 : I' (tA p) 1 = tsI v.1) (h5 : I' (tA p) 2 = nI v.2.1) (h6 : ∀ j, j < 60 → L' (tA p + 1) j = v.2.2 j) (hI : ∀ b, b ≠ tA p → I' b = I b) (hL : ∀ b, b ≠ tA p + 1 → L' b = L b) : TPS (fuT tp p v) I' L' := by
  intro q hq
  unfold fuT
  by_cases e : q = p
  · subst e
    rw [if_pos rfl]
    exact ⟨h1, h2, h3, h4, h5, h6⟩
  · rw [if_neg e, hI (tA q) (by unfold tA; omega), hL (tA q + 1) (by unfold tA; omega)]
    exact T q hq
theorem c_X11_act {t a x : Int32} (C : CI n kd mm len tx hs hx c1 w1 c2 w2 im s tp I L) (hno : (inB t n && inB a 3) = false → KQ Q (.int 0) n (CI n kd mm len tx hs hx c1 w1 c2 w2 im [] tp) I L) (hok : (inB t n && inB a 3) = true → KQ Q (.int (evl (ix t) (mm (ix t)) (kd (ix t)) 8 (kd (ix t)) (ix a) x).1) n (CI n kd mm len tx hs hx c1 w1 c2 w2 im (evl (ix t) (mm (ix t)) (kd (ix t)) 8 (kd (ix t)) (ix a) x).2 tp) I L) : cm_Ex l g 14 0 0 mX11_act 0 [.ref 0, .int t, .int a, .int x, .float 0] [] I L (RR n hr tl) (DD n) Q := by
  have hn4 := C.1.1
  have e3 : (nI 3).toInt = 3 := by decide
  refine x_aldn qX11_act_0 rfl trivial ?_
  refine x_getR qX11_act_1 fX11_73 rfl rfl ?_
  refine x_iconst (v := nI 0) qX11_act_4 rfl ?_
  refine x_putI qX11_act_5 fX11_230 (Or.inl rfl) dd_34 ?_
  have fr1 : ∀ b, b ≠ 34 → cm_u I 34 1 (nI 0) b = I b := fun b h => cm_u_ne h
  have T0 : TRC [] (cm_u I 34 1 (nI 0)) := ⟨by rw [cm_uu]; rfl, fun i hi => by cases hi⟩
  have C1 : CI n kd mm len tx hs hx c1 w1 c2 w2 im [] tp (cm_u I 34 1 (nI 0)) L := CI_tr C T0 (by decide) (fun b h1 _ => fr1 b h1)
  have K1 : KM I (cm_u I 34 1 (nI 0)) L L := fun b h1 h2 => ⟨fr1 b (by omega), rfl⟩
  have h341 : cm_u I 34 1 (nI 0) 34 1 = 0 := by rw [cm_uu]; rfl
  generalize cm_u I 34 1 (nI 0) = I1 at *
  have no : ∀ a4, (inB t n && inB a 3) = false → cm_Ex l g 14 0 0 mX11_act 32 [.ref 0, .int t, .int a, .int x, a4] [] I1 L (RR n hr tl) (DD n) Q := fun a4 h => by
    refine x_iconst (v := nI 0) qX11_act_32 rfl ?_
    refine x_iret qX11_act_33 rfl rfl ?_
    exact hno h I1 L hr tl C1 K1
  refine x_aldn qX11_act_8 rfl trivial ?_
  refine x_getR qX11_act_9 fX11_12 rfl rfl ?_
  refine x_ildn qX11_act_12 rfl ?_
  refine x_cV1 (d' := 1) qX11_act_13 cX11_115 rfl ⟨_, rfl, rfl⟩ rfl rfl (Nat.le_of_ble_eq_true rfl) (Nat.le_of_ble_eq_true rfl) (by decide) ?_
  refine c_X3_thingAt C1.1 (fun j hj e => ?_) (fun h => ?_)
  · subst e
    have eb := inB_nI hj (show n < 1000000 by omega)
    have ej := ix_nI (j := j) (by omega)
    obtain ⟨t0, t1, t2⟩ := C1.1.2.2.2.2.2.2.1 j hj
    refine x_ast4 qX11_act_16 (by decide) trivial rfl ?_
    refine x_ald qX11_act_18 rfl trivial ?_
    refine x_ifnull qX11_act_20 ?_
    refine x_ildn qX11_act_23 rfl ?_
    refine x_if_lt (tgt := 32) qX11_act_24 (by omega) (fun h24 => ?_) (fun h24 => ?_)
    · rw [Int32.lt_iff_toInt_lt, t0i] at h24
      exact no _ (by rw [eb, Bool.true_and]; cases hb : inB a 3 with | false => rfl | true => have := (inB_iff.mp hb).1; omega)
    · rw [Int32.lt_iff_toInt_lt, t0i] at h24
      refine x_ildn qX11_act_27 rfl ?_
      refine x_iconst (v := nI 3) qX11_act_28 rfl ?_
      refine x_icmp_lt (tgt := 34) qX11_act_29 (by omega) (fun h29 => ?_) (fun h29 => ?_)
      · rw [Int32.lt_iff_toInt_lt, e3] at h29
        have ha : inB a 3 = true := inB_iff.mpr ⟨by omega, h29⟩
        obtain ⟨ea, la⟩ := inB_ix ha
        have hq := hok (by rw [eb, ha]; rfl)
        rw [ej] at hq
        refine x_aldn qX11_act_34 rfl trivial ?_
        refine x_getR qX11_act_35 fX11_73 rfl rfl ?_
        refine x_ald qX11_act_38 rfl trivial ?_
        refine x_ildn qX11_act_40 rfl ?_
        refine x_ildn qX11_act_41 rfl ?_
        rw [ea]
        refine x_cS4 (d' := 13) qX11_act_42 cX11_235 rfl rfl (Nat.le_of_ble_eq_true rfl) (Nat.le_of_ble_eq_true rfl) (by decide) ?_
        refine c_X0_start hj (C1.1.2.2.1 j hj) la ⟨t0, t1, t2⟩ h341 (fun I' T' hI' => ?_)
        refine x_iret qX11_act_45 rfl rfl ?_
        have hlen := evl_len (i := j) (m := mm j) (j := kd j) 8 (kd j) (ix a) x
        exact hq I' L hr tl (CI_tr C1 T' (by omega) hI') (KM_tr K1 (fun b h1 h2 => ⟨hI' b (by omega) (by omega), rfl⟩))
      · rw [Int32.lt_iff_toInt_lt, e3] at h29
        exact no _ (by rw [eb, Bool.true_and]; cases hb : inB a 3 with | false => rfl | true => have := (inB_iff.mp hb).2; omega)
  · refine x_ast4 qX11_act_16 (by decide) trivial rfl ?_
    refine x_ald qX11_act_18 rfl trivial ?_
    refine x_ifnull_n (a := 0) (tgt := 32) qX11_act_20 (by omega) ?_
    exact no _ (by cases hb : inB t n with | false => rfl | true => exact absurd (inB_iff.mp hb) h)
theorem c_X11_trace {i : Int32} (C : CI n kd mm len tx hs hx c1 w1 c2 w2 im s tp I L) (hQ : KQ Q (.int (traA s i)) n (CI n kd mm len tx hs hx c1 w1 c2 w2 im s tp) I L) : cm_Ex l g 3 0 0 mX11_trace 0 [.ref 0, .int i] [] I L (RR n hr tl) (DD n) Q := by
  have hq := hQ I L hr tl C KM_rfl
  obtain ⟨T, hl⟩ := C.2.2.2.2.2.2.2.1
  refine x_aldn qX11_trace_0 rfl trivial ?_
  refine x_getR qX11_trace_1 fX11_73 rfl rfl ?_
  refine x_ildn qX11_trace_4 rfl ?_
  refine x_cV1 (d' := 1) qX11_trace_5 cX11_239 dd_34 ⟨_, rfl, rfl⟩ rfl rfl (Nat.le_of_ble_eq_true rfl) (Nat.le_of_ble_eq_true rfl) (by decide) ?_
  refine c_X10_has T.1 hl (fun h => ?_) (fun h => ?_)
  · have hb : inB i s.length = true := inB_iff.mpr ⟨h.1, h.2.1⟩
    obtain ⟨ei, li⟩ := inB_ix hb
    have ev : traA s i = nI (s.getD (ix i) 0) := by unfold traA; rw [hb, decide_eq_true h.2.2]; rfl
    rw [ev] at hq
    have h20 : ix i < 20 := by unfold ix; omega
    refine x_if_eq_f (tgt := 22) qX11_trace_8 (by omega) (by decide) ?_
    refine x_aldn qX11_trace_11 rfl trivial ?_
    refine x_getR qX11_trace_12 fX11_73 rfl rfl ?_
    refine x_ildn qX11_trace_15 rfl ?_
    rw [ei]
    refine x_cV1 (d' := 2) qX11_trace_16 cX11_240 dd_34 ⟨_, rfl, rfl⟩ rfl rfl (Nat.le_of_ble_eq_true rfl) (Nat.le_of_ble_eq_true rfl) (by decide) ?_
    refine c_X10_bodyAt T.1 hl li h20 ?_
    rw [T.2 _ li h20]
    refine x_goto (tgt := 23) qX11_trace_19 (by omega) ?_
    refine x_iret qX11_trace_23 rfl rfl ?_
    exact hq
  · have ev : traA s i = -1 := by
      unfold traA
      rw [if_neg (fun e => by rw [Bool.and_eq_true, decide_eq_true_eq] at e; have := inB_iff.mp e.1; exact h ⟨this.1, this.2, e.2⟩)]
    rw [ev] at hq
    refine x_if_eq_t (tgt := 22) qX11_trace_8 (by omega) (by decide) ?_
    refine x_iconst (v := -1) qX11_trace_22 rfl ?_
    refine x_iret qX11_trace_23 rfl rfl ?_
    exact hq
theorem c_X11_taken {t k : Int32} (C : CI n kd mm len tx hs hx c1 w1 c2 w2 im s tp I L) (hQ : KQ Q (.int (takA n kd t k)) n (CI n kd mm len tx hs hx c1 w1 c2 w2 im s tp) I L) : cm_Ex l g 4 0 0 mX11_taken 0 [.ref 0, .int t, .int k, .float 0] [] I L (RR n hr tl) (DD n) Q := by
  have hq := hQ I L hr tl C KM_rfl
  have H := C.1
  have hn4 := H.1
  refine x_ildn qX11_taken_0 rfl ?_
  refine x_cS1 (d' := 1) qX11_taken_1 cX11_98 rfl rfl (Nat.le_of_ble_eq_true rfl) (Nat.le_of_ble_eq_true rfl) (by decide) ?_
  refine c_X4_isKind (fun hk => ?_) (fun hk => ?_)
  · have hkb := inB_iff.mpr hk
    obtain ⟨ek, lk⟩ := inB_ix hkb
    refine x_if_ne_t (tgt := 10) qX11_taken_4 (by omega) (by decide) ?_
    refine x_aldn qX11_taken_10 rfl trivial ?_
    refine x_getR qX11_taken_11 fX11_12 rfl rfl ?_
    refine x_ildn qX11_taken_14 rfl ?_
    refine x_cV1 (d' := 1) qX11_taken_15 cX11_115 rfl ⟨_, rfl, rfl⟩ rfl rfl (Nat.le_of_ble_eq_true rfl) (Nat.le_of_ble_eq_true rfl) (by decide) ?_
    refine c_X3_thingAt H (fun j hj e => ?_) (fun h => ?_)
    · subst e
      have eb := inB_nI hj (show n < 1000000 by omega)
      have ej := ix_nI (j := j) (by omega)
      obtain ⟨t0, t1, t2⟩ := H.2.2.2.2.2.2.1 j hj
      have ev : takA n kd (nI j) k = (if undr (kd j) (ix k) then nI (kd j) else -12) := by
        unfold takA; rw [if_pos hkb, if_pos eb, ej]
      rw [ev] at hq
      refine x_ast3 qX11_taken_18 (by decide) trivial rfl ?_
      refine x_aldn qX11_taken_19 rfl trivial ?_
      refine x_ifnonnull (tgt := 26) qX11_taken_20 (by omega) ?_
      refine x_aldn qX11_taken_26 rfl trivial ?_
      refine x_getIe qX11_taken_27 fX11_119 (dd_th hj) t1 ?_
      refine x_ildn qX11_taken_30 rfl ?_
      rw [ek]
      refine x_cS2 (d' := 3) qX11_taken_31 cX11_243 rfl rfl (Nat.le_of_ble_eq_true rfl) (Nat.le_of_ble_eq_true rfl) (by decide) ?_
      refine c_X4_isUnder (H.2.2.1 j hj) lk (fun hu => ?_) (fun hu => ?_)
      · rw [if_pos hu] at hq
        refine x_if_eq_f (tgt := 44) qX11_taken_34 (by omega) (by decide) ?_
        refine x_aldn qX11_taken_37 rfl trivial ?_
        refine x_getIe qX11_taken_38 fX11_119 (dd_th hj) t1 ?_
        refine x_goto (tgt := 46) qX11_taken_41 (by omega) ?_
        refine x_iret qX11_taken_46 rfl rfl ?_
        exact hq
      · rw [if_neg hu] at hq
        refine x_if_eq_t (tgt := 44) qX11_taken_34 (by omega) (by decide) ?_
        refine x_bipush (v := -12) qX11_taken_44 rfl ?_
        refine x_iret qX11_taken_46 rfl rfl ?_
        exact hq
    · have ev : takA n kd t k = -11 := by
        unfold takA; rw [if_pos hkb, if_neg (fun e => h (inB_iff.mp e))]
      rw [ev] at hq
      refine x_ast3 qX11_taken_18 (by decide) trivial rfl ?_
      refine x_aldn qX11_taken_19 rfl trivial ?_
      refine x_ifnonnull_n (a := 0) qX11_taken_20 ?_
      refine x_bipush (v := -11) qX11_taken_23 rfl ?_
      refine x_iret qX11_taken_25 rfl rfl ?_
      exact hq
  · have ev : takA n kd t k = -2 := by
      unfold takA; rw [if_neg (fun e => hk (inB_iff.mp e))]
    rw [ev] at hq
    refine x_if_ne_f (tgt := 10) qX11_taken_4 (by omega) (by decide) ?_
    refine x_bipush (v := -2) qX11_taken_7 rfl ?_
    refine x_iret qX11_taken_9 rfl rfl ?_
    exact hq
theorem c_X11_count {w : Int32} (C : CI n kd mm len tx hs hx c1 w1 c2 w2 im s tp I L) (hQ : KQ Q (.int (cntA n mm c1 c2 hs.length len s.length w)) n (CI n kd mm len tx hs hx c1 w1 c2 w2 im s tp) I L) : cm_Ex l g 2 0 0 mX11_count 0 [.ref 0, .int w] [] I L (RR n hr tl) (DD n) Q := by
  have hq := hQ I L hr tl C KM_rfl
  obtain ⟨a1, a2, ⟨b1, b2, b3, b4⟩, ⟨d1, d2⟩, e1, e2, f, ⟨g1, g2⟩, kk⟩ := id C
  by_cases h0 : w = 0
  · subst h0
    refine x_ildn qX11_count_0 rfl ?_
    refine x_tbl (tgt := 44) (off := 43) qX11_count_1 0 rfl (by decide) rfl (by omega) ?_
    refine x_aldn qX11_count_44 rfl trivial ?_
    refine x_getR qX11_count_45 fX11_12 rfl rfl ?_
    refine x_getIe qX11_count_48 fX11_114 rfl a1.2.2.2.2.1 ?_
    refine x_iret qX11_count_51 rfl rfl ?_
    exact hq
  by_cases h1 : w = 1
  · subst h1
    refine x_ildn qX11_count_0 rfl ?_
    refine x_tbl (tgt := 52) (off := 51) qX11_count_1 1 rfl (by decide) rfl (by omega) ?_
    refine x_aldn qX11_count_52 rfl trivial ?_
    refine x_getR qX11_count_53 fX11_12 rfl rfl ?_
    refine x_getIe qX11_count_56 fX11_246 rfl a1.2.2.2.2.2.1 ?_
    refine x_iret qX11_count_59 rfl rfl ?_
    exact hq
  by_cases h2 : w = 2
  · subst h2
    refine x_ildn qX11_count_0 rfl ?_
    refine x_tbl (tgt := 60) (off := 59) qX11_count_1 2 rfl (by decide) rfl (by omega) ?_
    refine x_aldn qX11_count_60 rfl trivial ?_
    refine x_getR qX11_count_61 fX11_48 rfl rfl ?_
    refine x_getIe qX11_count_64 fX11_104 (dd_M (Or.inl rfl)).1 e1.1 ?_
    refine x_iret qX11_count_67 rfl rfl ?_
    exact hq
  by_cases h3 : w = 3
  · subst h3
    refine x_ildn qX11_count_0 rfl ?_
    refine x_tbl (tgt := 68) (off := 67) qX11_count_1 3 rfl (by decide) rfl (by omega) ?_
    refine x_aldn qX11_count_68 rfl trivial ?_
    refine x_getR qX11_count_69 fX11_52 rfl rfl ?_
    refine x_getIe qX11_count_72 fX11_104 (dd_M (Or.inr (Or.inl rfl))).1 e2.1 ?_
    refine x_iret qX11_count_75 rfl rfl ?_
    exact hq
  by_cases h4 : w = 4
  · subst h4
    refine x_ildn qX11_count_0 rfl ?_
    refine x_tbl (tgt := 76) (off := 75) qX11_count_1 4 rfl (by decide) rfl (by omega) ?_
    refine x_aldn qX11_count_76 rfl trivial ?_
    refine x_getIe qX11_count_77 fX11_83 rfl b1 ?_
    refine x_iret qX11_count_80 rfl rfl ?_
    exact hq
  by_cases h5 : w = 5
  · subst h5
    refine x_ildn qX11_count_0 rfl ?_
    refine x_tbl (tgt := 81) (off := 80) qX11_count_1 5 rfl (by decide) rfl (by omega) ?_
    refine x_aldn qX11_count_81 rfl trivial ?_
    refine x_getR qX11_count_82 fX11_21 rfl rfl ?_
    refine x_getIe qX11_count_85 fX11_145 rfl a2.1 ?_
    refine x_iret qX11_count_88 rfl rfl ?_
    exact hq
  by_cases h6 : w = 6
  · subst h6
    refine x_ildn qX11_count_0 rfl ?_
    refine x_tbl (tgt := 89) (off := 88) qX11_count_1 6 rfl (by decide) rfl (by omega) ?_
    refine x_aldn qX11_count_89 rfl trivial ?_
    refine x_getR qX11_count_90 fX11_73 rfl rfl ?_
    refine x_getIe qX11_count_93 fX11_230 dd_34 g1.1 ?_
    refine x_iret qX11_count_96 rfl rfl ?_
    exact hq
  · have hne : ∀ k : Nat, k < 7 → w = nI k → False := fun k hk e => by
      rcases (by omega : k = 0 ∨ k = 1 ∨ k = 2 ∨ k = 3 ∨ k = 4 ∨ k = 5 ∨ k = 6) with rfl | rfl | rfl | rfl | rfl | rfl | rfl
      · exact h0 e
      · exact h1 e
      · exact h2 e
      · exact h3 e
      · exact h4 e
      · exact h5 e
      · exact h6 e
    have ho : w.toInt < 0 ∨ 6 < w.toInt := by
      by_cases hh : 0 ≤ w.toInt ∧ w.toInt < 7
      · have hb := inB_ix (inB_iff.mpr hh)
        exact (hne _ hb.2 hb.1).elim
      · omega
    have ev : cntA n mm c1 c2 hs.length len s.length w = -2 := by
      unfold cntA
      rw [if_neg h0, if_neg h1, if_neg h2, if_neg h3, if_neg h4, if_neg h5, if_neg h6]
    rw [ev] at hq
    refine x_ildn qX11_count_0 rfl ?_
    refine x_tblOut (tgt := 97) qX11_count_1 ho (by omega) ?_
    refine x_bipush (v := -2) qX11_count_97 rfl ?_
    refine x_iret qX11_count_99 rfl rfl ?_
    exact hq
end K37
