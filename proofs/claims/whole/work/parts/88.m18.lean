/-! the reference: look, fits, may, sure -/
theorem LVp_of {n : Nat} {kd mm : Nat → Nat} {cs : List Cls} {c1 : Nat} {fit : Nat → Nat → Bool} {I : cm_I} (H : MH n kd mm I) (h86 : I 86 0 = nI c1) (hc : c1 ≤ 12) (A : LL n kd mm cs c1 I) (h95 : ∀ r, r < c1 → ∀ w, w < wys mm n → I 95 (64 * r + w) = b2I (fit r w)) : LVp (wys mm n) c1 fit (nxt kd mm n) I := ⟨H.2.2.2.2.2.1, H.2.2.2.1, h86, hc, h95, fun w hw v hv => (A.2.2.1 w hw v hv).1⟩
theorem LL_fr {n : Nat} {kd mm : Nat → Nat} {cs : List Cls} {c1 : Nat} {I I' : cm_I} (A : LL n kd mm cs c1 I) (h : ∀ b, 87 ≤ b → b ≤ 94 → I' b = I b) : LL n kd mm cs c1 I' := ⟨T91_fr A.1 (h 91 (by decide) (by decide)), WA_fr A.2.1 (fun b h1 h2 => h b h1 (by omega)), fun w hw v hv => ⟨by rw [h 92 (by decide) (by decide)]; exact (A.2.2.1 w hw v hv).1, by rw [h 90 (by decide) (by decide)]; exact (A.2.2.1 w hw v hv).2⟩, fun r hr w hw => by rw [h 94 (by decide) (by decide)]; exact A.2.2.2 r hr w hw⟩
theorem pk_or2 {a k : Nat} (h : a < 2 ^ k) (hk : k < 8) : nI a ||| nI (2 ^ k) = nI (a + 2 ^ k) := by
  have d : ∀ k, k < 8 → ∀ a, a < 2 ^ k → nI a ||| nI (2 ^ k) = nI (a + 2 ^ k) := by decide +kernel
  exact d k hk a h
theorem nI_or0 (x : Int32) : x ||| nI 0 = x := by
  show x ||| 0 = x
  simp
section M18
variable {l : Launch} {g : cm_G} {I : cm_I} {L : cm_L} {hr tl : Option Nat} {Q : cm_Post} {u : Nat} {n : Nat} {kd mm : Nat → Nat} {len : Nat} {tx : Nat → Nat} {hs : List (List Cls)} {hx c1 : Nat} {w1 : Nat → Nat} {c2 : Nat} {w2 : Nat → Nat} {im : IM} {s : List Nat} {tp : TP}
theorem MI_FX {I' : cm_I} (M : MI n kd mm len tx hs hx c1 w1 c2 w2 im s tp I L) (F : FX I I') : MI n kd mm len tx hs hx c1 w1 c2 w2 im s tp I' L := MI_fr M (fun k _ _ _ _ _ => by rw [F 73 (by omega)]) (fun b h1 h2 h3 h4 h5 => F b (by omega)) rfl
theorem KC_FX {I' : cm_I} (F : FX I I') : KC I I' L L := fun b hb => ⟨F b (by omega), rfl⟩
theorem MI_86 (M : MI n kd mm len tx hs hx c1 w1 c2 w2 im s tp I L) : I 86 0 = nI c1 ∧ c1 ≤ 12 := ⟨M.2.2.2.2.1.1, M.2.2.2.2.1.2.1⟩
theorem c_X12_look (M : MI n kd mm len tx hs hx c1 w1 c2 w2 im s tp I L) (hQ : ∀ I', LL n kd mm (hcs hs hx) c1 I' → (∀ r, r < c1 → A96 (wys mm n) (liv (F1 n kd mm (hcs hs hx) w1) (nxt kd mm n) (wys mm n) c1) r I') → FX I I' → MI n kd mm len tx hs hx c1 w1 c2 w2 im s tp I' L → Q (some (.int (b2I (tal (F1 n kd mm (hcs hs hx) w1) (nxt kd mm n) (wys mm n) c1)))) I' L (RR u hr tl) (DD u)) : cm_Ex l g 5 0 0 mX12_look 0 [.ref 73] [] I L (RR u hr tl) (DD u) Q := by
  obtain ⟨h86, hc⟩ := MI_86 M
  refine x_aldn qX12_look_0 rfl trivial ?_
  refine x_cV0 (d' := 4) qX12_look_1 cX12_236 rfl ⟨_, rfl, rfl⟩ rfl rfl (Nat.le_of_ble_eq_true rfl) (Nat.le_of_ble_eq_true rfl) (by decide) ?_
  refine c_X12_layAll M.1 (MI_HK M) h86 hc (fun I1 A1 F1x => ?_)
  have M1 := MI_FX M F1x
  refine x_aldn qX12_look_4 rfl trivial ?_
  refine x_iconst (v := nI 1) qX12_look_5 rfl ?_
  refine x_iconst (v := nI 0) qX12_look_6 rfl ?_
  refine x_cV2 (d' := 4) qX12_look_7 cX12_239 rfl ⟨_, rfl, rfl⟩ rfl rfl (Nat.le_of_ble_eq_true rfl) (Nat.le_of_ble_eq_true rfl) (by decide) ?_
  refine c_X12_layFits (c := 1) (s := 0) M1.1 (MI_HK M1) M1.2.2.2.2.1 A1 (by decide) (by decide) (by decide) (fun I2 h95 hI2 => ?_)
  have F2x : FX I I2 := FX_tr F1x (fun b hb => hI2 b (by omega))
  have M2 := MI_FX M F2x
  have A2 : LL n kd mm (hcs hs hx) c1 I2 := LL_fr A1 (fun b g1 g2 => hI2 b (by omega))
  refine x_aldn qX12_look_10 rfl trivial ?_
  refine x_cV0 (d' := 1) qX12_look_11 cX12_243 rfl ⟨_, rfl, rfl⟩ rfl rfl (Nat.le_of_ble_eq_true rfl) (Nat.le_of_ble_eq_true rfl) (by decide) ?_
  refine c_X12_findLive (LVp_of (fit := F1 n kd mm (hcs hs hx) w1) M2.1 (MI_86 M2).1 hc A2 (fun r hr2 w hw => by rw [h95 r hr2 w hw, F2_1])) (fun I3 h96 hI3 => ?_)
  have F3x : FX I I3 := FX_tr F2x (fun b hb => hI3 b (by omega))
  refine x_iret qX12_look_14 rfl (nar_b _) ?_
  exact hQ I3 (LL_fr A2 (fun b g1 g2 => hI3 b (by omega))) h96 F3x (MI_FX M F3x)
theorem c_X12_isReading {r : Int32} (h86 : I 86 0 = nI c1) (hc : c1 ≤ 12) (ht : inB r c1 = true → Q (some (.int 1)) I L (RR u hr tl) (DD u)) (hf : inB r c1 = false → Q (some (.int 0)) I L (RR u hr tl) (DD u)) : cm_Ex l g 2 0 0 mX12_isReading 0 [.ref 73, .int r] [] I L (RR u hr tl) (DD u) Q := by
  have z0 : (nI 0).toInt = 0 := by decide
  refine x_aldn qX12_isReading_0 rfl trivial ?_
  refine x_ildn qX12_isReading_1 rfl ?_
  refine x_iconst (v := nI 0) qX12_isReading_2 rfl ?_
  refine x_aldn qX12_isReading_3 rfl trivial ?_
  refine x_getR qX12_isReading_4 fX12_77 rfl rfl ?_
  refine x_iconst (v := nI 0) qX12_isReading_7 rfl ?_
  refine x_ialde qX12_isReading_8 dd_86 rfl (by omega) (by decide) h86 ?_
  refine x_iconst (v := nI 1) qX12_isReading_9 rfl ?_
  refine x_isub qX12_isReading_10 ?_
  refine x_cV3 (d' := 1) qX12_isReading_11 cX12_149 rfl ⟨_, rfl, rfl⟩ rfl rfl (Nat.le_of_ble_eq_true rfl) (Nat.le_of_ble_eq_true rfl) (by decide) ?_
  refine c_X12_in (fun h => ?_) (fun h => ?_)
  · rw [z0, n1_toInt (by omega)] at h
    refine x_iret qX12_isReading_14 rfl rfl ?_
    exact ht (inB_iff.mpr (by omega))
  · rw [z0, n1_toInt (by omega)] at h
    refine x_iret qX12_isReading_14 rfl rfl ?_
    exact hf (inF (fun e => by have := inB_iff.mp e; omega))
theorem c_X12_fits {r w : Int32} (M : MI n kd mm len tx hs hx c1 w1 c2 w2 im s tp I L) (hQ : KMQ Q (.int (fitA n kd mm (hcs hs hx) c1 w1 r w)) u hr tl (MI n kd mm len tx hs hx c1 w1 c2 w2 im s tp) I L) : cm_Ex l g 6 0 0 mX12_fits 0 [.ref 73, .int r, .int w] [] I L (RR u hr tl) (DD u) Q := by
  obtain ⟨h86, hc⟩ := MI_86 M
  obtain ⟨h4, ho, hk, h64, h0, h1, hi⟩ := id M.1
  have z0 : (nI 0).toInt = 0 := by decide
  have hW1 := wys1 ho
  have no : (inB r c1 && inB w (wys mm n)) = false → cm_Ex l g 6 0 0 mX12_fits 23 [.ref 73, .int r, .int w] [] I L (RR u hr tl) (DD u) Q := fun e => by
    have hq := hQ I L M KC_rfl
    unfold fitA at hq
    rw [if_neg (by rw [e]; decide)] at hq
    refine x_iconst (v := -1) qX12_fits_23 rfl ?_
    refine x_iret qX12_fits_24 rfl rfl ?_
    exact hq
  refine x_aldn qX12_fits_0 rfl trivial ?_
  refine x_ildn qX12_fits_1 rfl ?_
  refine x_cV1 (d' := 2) qX12_fits_2 cX12_246 rfl ⟨_, rfl, rfl⟩ rfl rfl (Nat.le_of_ble_eq_true rfl) (Nat.le_of_ble_eq_true rfl) (by decide) ?_
  refine c_X12_isReading h86 hc (fun hb => ?_) (fun hb => ?_)
  · refine x_if_eq_f (tgt := 23) qX12_fits_5 (by omega) (by decide) ?_
    refine x_aldn qX12_fits_8 rfl trivial ?_
    refine x_ildn qX12_fits_9 rfl ?_
    refine x_iconst (v := nI 0) qX12_fits_10 rfl ?_
    refine x_aldn qX12_fits_11 rfl trivial ?_
    refine x_getIe qX12_fits_12 fX12_13 rfl h1 ?_
    refine x_iconst (v := nI 1) qX12_fits_15 rfl ?_
    refine x_isub_n qX12_fits_16 (by omega) ?_
    refine x_cV3 (d' := 1) qX12_fits_17 cX12_149 rfl ⟨_, rfl, rfl⟩ rfl rfl (Nat.le_of_ble_eq_true rfl) (Nat.le_of_ble_eq_true rfl) (by decide) ?_
    refine c_X12_in (fun h => ?_) (fun h => ?_)
    · rw [z0, nI_toInt (by omega)] at h
      have hw : inB w (wys mm n) = true := inB_iff.mpr (by omega)
      obtain ⟨er, lr⟩ := inB_ix hb
      obtain ⟨ew, lw⟩ := inB_ix hw
      have ev : fitA n kd mm (hcs hs hx) c1 w1 r w = (if F1 n kd mm (hcs hs hx) w1 (ix r) (ix w) then 1 else 0) := by
        unfold fitA; rw [hb, hw]; rfl
      refine x_if_ne_t (tgt := 25) qX12_fits_20 (by omega) (by decide) ?_
      refine x_aldn qX12_fits_25 rfl trivial ?_
      refine x_cV0 (d' := 4) qX12_fits_26 cX12_236 rfl ⟨_, rfl, rfl⟩ rfl rfl (Nat.le_of_ble_eq_true rfl) (Nat.le_of_ble_eq_true rfl) (by decide) ?_
      refine c_X12_layAll M.1 (MI_HK M) h86 hc (fun I1 A1 F1x => ?_)
      have M1 := MI_FX M F1x
      refine x_aldn qX12_fits_29 rfl trivial ?_
      refine x_iconst (v := nI 1) qX12_fits_30 rfl ?_
      refine x_iconst (v := nI 0) qX12_fits_31 rfl ?_
      refine x_cV2 (d' := 4) qX12_fits_32 cX12_239 rfl ⟨_, rfl, rfl⟩ rfl rfl (Nat.le_of_ble_eq_true rfl) (Nat.le_of_ble_eq_true rfl) (by decide) ?_
      refine c_X12_layFits (c := 1) (s := 0) M1.1 (MI_HK M1) M1.2.2.2.2.1 A1 (by decide) (by decide) (by decide) (fun I2 h95 hI2 => ?_)
      have F2x : FX I I2 := FX_tr F1x (fun b hb => hI2 b (by omega))
      have M2 := MI_FX M F2x
      have hq := hQ I2 L M2 (KC_FX F2x)
      rw [ev] at hq
      have e95 := h95 (ix r) lr (ix w) lw
      rw [F2_1] at e95
      generalize ix r = r' at *
      generalize ix w = w' at *
      subst er; subst ew
      refine x_aldn qX12_fits_35 rfl trivial ?_
      refine x_getR qX12_fits_36 fX12_105 rfl rfl ?_
      refine x_bipush (v := nI 64) qX12_fits_39 rfl ?_
      refine x_ildn qX12_fits_41 rfl ?_
      refine x_imul_n qX12_fits_42 ?_
      refine x_ildn qX12_fits_43 rfl ?_
      refine x_iadd_n qX12_fits_44 ?_
      refine x_zalde qX12_fits_45 dd_95 rfl (by omega) (by decide) e95 ?_
      cases hf : F1 n kd mm (hcs hs hx) w1 r' w' with
      | true =>
        rw [hf] at hq
        refine x_if_eq_f (tgt := 53) qX12_fits_46 (by omega) (by decide) ?_
        refine x_iconst (v := nI 1) qX12_fits_49 rfl ?_
        refine x_goto (tgt := 54) qX12_fits_50 (by omega) ?_
        refine x_iret qX12_fits_54 rfl rfl ?_
        exact hq
      | false =>
        rw [hf] at hq
        refine x_if_eq_t (tgt := 53) qX12_fits_46 (by omega) (by decide) ?_
        refine x_iconst (v := nI 0) qX12_fits_53 rfl ?_
        refine x_iret qX12_fits_54 rfl rfl ?_
        exact hq
    · rw [z0, nI_toInt (by omega)] at h
      refine x_if_ne_f (tgt := 25) qX12_fits_20 (by omega) (by decide) ?_
      refine no ?_
      rw [inF (x := w) (k := wys mm n) (fun e => by have := inB_iff.mp e; omega), Bool.and_false]
  · refine x_if_eq_t (tgt := 23) qX12_fits_5 (by omega) (by decide) ?_
    refine no ?_
    rw [hb]; rfl
theorem c_X12_may {r : Int32} (M : MI n kd mm len tx hs hx c1 w1 c2 w2 im s tp I L) (hQ : KMQ Q (.int (mayA n kd mm (hcs hs hx) c1 w1 r)) u hr tl (MI n kd mm len tx hs hx c1 w1 c2 w2 im s tp) I L) : cm_Ex l g 6 0 0 mX12_may 0 [.ref 73, .int r, .float 0, .float 0] [] I L (RR u hr tl) (DD u) Q := by
  obtain ⟨h86, hc⟩ := MI_86 M
  obtain ⟨h4, ho, hk, h64, h0, h1, hi⟩ := id M.1
  refine x_aldn qX12_may_0 rfl trivial ?_
  refine x_ildn qX12_may_1 rfl ?_
  refine x_cV1 (d' := 2) qX12_may_2 cX12_246 rfl ⟨_, rfl, rfl⟩ rfl rfl (Nat.le_of_ble_eq_true rfl) (Nat.le_of_ble_eq_true rfl) (by decide) ?_
  refine c_X12_isReading h86 hc (fun hb => ?_) (fun hb => ?_)
  · obtain ⟨er, lr⟩ := inB_ix hb
    have ev : mayA n kd mm (hcs hs hx) c1 w1 r = nI (cntB (F1 n kd mm (hcs hs hx) w1 (ix r)) (wys mm n)) := by unfold mayA; rw [if_pos hb]
    refine x_if_ne_t (tgt := 10) qX12_may_5 (by omega) (by decide) ?_
    refine x_aldn qX12_may_10 rfl trivial ?_
    refine x_cV0 (d' := 4) qX12_may_11 cX12_236 rfl ⟨_, rfl, rfl⟩ rfl rfl (Nat.le_of_ble_eq_true rfl) (Nat.le_of_ble_eq_true rfl) (by decide) ?_
    refine c_X12_layAll M.1 (MI_HK M) h86 hc (fun I1 A1 F1x => ?_)
    have M1 := MI_FX M F1x
    refine x_aldn qX12_may_14 rfl trivial ?_
    refine x_iconst (v := nI 1) qX12_may_15 rfl ?_
    refine x_iconst (v := nI 0) qX12_may_16 rfl ?_
    refine x_cV2 (d' := 4) qX12_may_17 cX12_239 rfl ⟨_, rfl, rfl⟩ rfl rfl (Nat.le_of_ble_eq_true rfl) (Nat.le_of_ble_eq_true rfl) (by decide) ?_
    refine c_X12_layFits (c := 1) (s := 0) M1.1 (MI_HK M1) M1.2.2.2.2.1 A1 (by decide) (by decide) (by decide) (fun I2 h95 hI2 => ?_)
    have F2x : FX I I2 := FX_tr F1x (fun b hb => hI2 b (by omega))
    have M2 := MI_FX M F2x
    have hq := hQ I2 L M2 (KC_FX F2x)
    rw [ev] at hq
    have k1 := M2.1.2.2.2.2.2.1
    have e95 := h95 (ix r) lr
    generalize ix r = r' at *
    subst er
    have loop : ∀ m w, w + m = wys mm n → cm_Ex l g 6 0 0 mX12_may 24 [.ref 73, .int (nI r'), .int (nI (cntB (F1 n kd mm (hcs hs hx) w1 r') w)), .int (nI w)] [] I2 L (RR u hr tl) (DD u) Q := by
      intro m
      induction m with
      | zero =>
        intro w hw
        have e : w = wys mm n := by omega
        rw [e]
        refine x_ildn qX12_may_24 rfl ?_
        refine x_aldn qX12_may_25 rfl trivial ?_
        refine x_getIe qX12_may_26 fX12_13 rfl k1 ?_
        refine x_icmp_ge_nt (tgt := 60) qX12_may_29 (by omega) (by omega) (by omega) (by omega) ?_
        refine x_ildn qX12_may_60 rfl ?_
        refine x_iret qX12_may_61 rfl rfl ?_
        exact hq
      | succ m ih =>
        intro w hw
        have e2 := e95 w (by omega)
        rw [F2_1] at e2
        have es : cntB (F1 n kd mm (hcs hs hx) w1 r') (w + 1) = cntB (F1 n kd mm (hcs hs hx) w1 r') w + (if F1 n kd mm (hcs hs hx) w1 r' w then 1 else 0) := rfl
        have ih1 := ih (w + 1) (by omega)
        rw [es] at ih1
        refine x_ildn qX12_may_24 rfl ?_
        refine x_aldn qX12_may_25 rfl trivial ?_
        refine x_getIe qX12_may_26 fX12_13 rfl k1 ?_
        refine x_icmp_ge_nf (tgt := 60) qX12_may_29 (by omega) (by omega) (by omega) (by omega) ?_
        refine x_ildn qX12_may_32 rfl ?_
        refine x_aldn qX12_may_33 rfl trivial ?_
        refine x_getR qX12_may_34 fX12_105 rfl rfl ?_
        refine x_bipush (v := nI 64) qX12_may_37 rfl ?_
        refine x_ildn qX12_may_39 rfl ?_
        refine x_imul_n qX12_may_40 ?_
        refine x_ildn qX12_may_41 rfl ?_
        refine x_iadd_n qX12_may_42 ?_
        refine x_zalde qX12_may_43 dd_95 rfl (by omega) (by decide) e2 ?_
        cases hf : F1 n kd mm (hcs hs hx) w1 r' w with
        | true =>
          rw [hf] at ih1
          refine x_if_eq_f (tgt := 51) qX12_may_44 (by omega) (by decide) ?_
          refine x_iconst (v := nI 1) qX12_may_47 rfl ?_
          refine x_goto (tgt := 52) qX12_may_48 (by omega) ?_
          refine x_iadd_n qX12_may_52 ?_
          refine x_ist2 qX12_may_53 (by decide) rfl ?_
          refine x_iinc3 qX12_may_54 (by decide) (cm_inc _) rfl ?_
          refine x_goto (tgt := 24) qX12_may_57 (by omega) ?_
          exact ih1
        | false =>
          rw [hf] at ih1
          refine x_if_eq_t (tgt := 51) qX12_may_44 (by omega) (by decide) ?_
          refine x_iconst (v := nI 0) qX12_may_51 rfl ?_
          refine x_iadd_n qX12_may_52 ?_
          refine x_ist2 qX12_may_53 (by decide) rfl ?_
          refine x_iinc3 qX12_may_54 (by decide) (cm_inc _) rfl ?_
          refine x_goto (tgt := 24) qX12_may_57 (by omega) ?_
          exact ih1
    refine x_iconst (v := nI 0) qX12_may_20 rfl ?_
    refine x_ist2 qX12_may_21 (by decide) rfl ?_
    refine x_iconst (v := nI 0) qX12_may_22 rfl ?_
    refine x_ist3 qX12_may_23 (by decide) rfl ?_
    exact loop (wys mm n) 0 (by omega)
  · have hq := hQ I L M KC_rfl
    unfold mayA at hq
    rw [if_neg (by rw [hb]; decide)] at hq
    refine x_if_ne_f (tgt := 10) qX12_may_5 (by omega) (by decide) ?_
    refine x_iconst (v := -1) qX12_may_8 rfl ?_
    refine x_iret qX12_may_9 rfl rfl ?_
    exact hq
/-- a thing on in all ways, or in some, up to w -/
theorem srb_s {lv : Nat → Bool} {mm : Nat → Nat} {al : Bool} {t w : Nat} : srb lv mm (w + 1) al t = if lv w then (if al then srb lv mm w al t && !(dgt mm w t == 0) else srb lv mm w al t || !(dgt mm w t == 0)) else srb lv mm w al t := by
  cases al with
  | true =>
    show (!(exb _ (w + 1))) = if lv w then ((!(exb _ w)) && _) else (!(exb _ w))
    rw [exb_s]
    cases lv w
    · simp
    · simp
  | false =>
    show (exb _ (w + 1)) = if lv w then ((exb _ w) || _) else (exb _ w)
    rw [exb_s]
    cases lv w
    · simp
    · simp
theorem c_X12_onAt {cs2 : List Cls} {r : Nat} {al : Bool} {lv : Nat → Bool} (H : MH n kd mm I) (hr12 : r < 12) (A : WA n mm cs2 (wys mm n) I) (h96 : ∀ w, w < wys mm n → I 96 (64 * r + w) = b2I (lv w)) (hQ : Q (some (.int (nI (bhs (srb lv mm (wys mm n) al) n)))) I L (RR u hr tl) (DD u)) : cm_Ex l g 1 0 0 mX12_onAt 0 [.ref 73, .int (nI r), .int (b2I al), .float 0, .float 0, .float 0, .float 0] [] I L (RR u hr tl) (DD u) Q := by
  obtain ⟨h4, ho, hk, h64, h0, h1, hi⟩ := id H
  have loop : ∀ m t (v5 v6 : Value), t + m = n → cm_Ex l g 1 0 0 mX12_onAt 5 [.ref 73, .int (nI r), .int (b2I al), .int (nI (bhs (srb lv mm (wys mm n) al) t)), .int (nI t), v5, v6] [] I L (RR u hr tl) (DD u) Q := by
    intro m
    induction m with
    | zero =>
      intro t v5 v6 ht
      have e : t = n := by omega
      rw [e]
      refine x_ild qX12_onAt_5 rfl ?_
      refine x_aldn qX12_onAt_7 rfl trivial ?_
      refine x_getIe qX12_onAt_8 fX12_7 rfl h0 ?_
      refine x_icmp_ge_nt (tgt := 131) qX12_onAt_11 (by omega) (by omega) (by omega) (by omega) ?_
      refine x_ildn qX12_onAt_131 rfl ?_
      refine x_iret qX12_onAt_132 rfl rfl ?_
      exact hQ
    | succ m ih =>
      intro t v5 v6 ht
      have hbl := @bhs_lt (srb lv mm (wys mm n) al) t
      have eb : bhs (srb lv mm (wys mm n) al) (t + 1) = if srb lv mm (wys mm n) al t then bhs (srb lv mm (wys mm n) al) t + 2 ^ t else bhs (srb lv mm (wys mm n) al) t := rfl
      have inn : ∀ k w, w + k = wys mm n → cm_Ex l g 1 0 0 mX12_onAt 20 [.ref 73, .int (nI r), .int (b2I al), .int (nI (bhs (srb lv mm (wys mm n) al) t)), .int (nI t), .int (b2I (srb lv mm w al t)), .int (nI w)] [] I L (RR u hr tl) (DD u) Q := by
        intro k
        induction k with
        | zero =>
          intro w hw
          have e : w = wys mm n := by omega
          have nx := fun v5 v6 => ih (t + 1) v5 v6 (by omega)
          rw [eb] at nx
          rw [e]
          refine x_ild qX12_onAt_20 rfl ?_
          refine x_aldn qX12_onAt_22 rfl trivial ?_
          refine x_getIe qX12_onAt_23 fX12_13 rfl h1 ?_
          refine x_icmp_ge_nt (tgt := 109) qX12_onAt_26 (by omega) (by omega) (by omega) (by omega) ?_
          refine x_ildn qX12_onAt_109 rfl ?_
          refine x_ild qX12_onAt_110 rfl ?_
          cases hs : srb lv mm (wys mm n) al t with
          | true =>
            rw [hs] at nx
            refine x_if_eq_f (tgt := 122) qX12_onAt_112 (by omega) (by decide) ?_
            refine x_iconst (v := nI 1) qX12_onAt_115 rfl ?_
            refine x_ild qX12_onAt_116 rfl ?_
            refine x_ishl qX12_onAt_118 ?_
            rw [ib_shl (show t < 32 by omega) (by rw [Nat.one_mul]; exact Nat.lt_of_lt_of_le (Nat.pow_lt_pow_right (by decide) (show t < 4 by omega)) (by decide)), Nat.one_mul]
            refine x_goto (tgt := 123) qX12_onAt_119 (by omega) ?_
            refine x_ior qX12_onAt_123 ?_
            rw [pk_or2 hbl (by omega)]
            refine x_ist3 qX12_onAt_124 (by decide) rfl ?_
            refine x_iinc4 qX12_onAt_125 (by decide) (cm_inc _) rfl ?_
            refine x_goto (tgt := 5) qX12_onAt_128 (by omega) ?_
            exact nx _ _
          | false =>
            rw [hs] at nx
            refine x_if_eq_t (tgt := 122) qX12_onAt_112 (by omega) (by decide) ?_
            refine x_iconst (v := nI 0) qX12_onAt_122 rfl ?_
            refine x_ior qX12_onAt_123 ?_
            rw [nI_or0]
            refine x_ist3 qX12_onAt_124 (by decide) rfl ?_
            refine x_iinc4 qX12_onAt_125 (by decide) (cm_inc _) rfl ?_
            refine x_goto (tgt := 5) qX12_onAt_128 (by omega) ?_
            exact nx _ _
        | succ k ih2 =>
          intro w hw
          have e96 := h96 w (by omega)
          have hdl := dgt_lt ho (show t < n by omega) w
          have hm := ho t (by omega)
          have e87 : I 87 (4 * w + t) = nI (dgt mm w t) := by rw [(A w (by omega)).1 t (by omega), if_pos (by omega)]
          have nx := ih2 (w + 1) (by omega)
          rw [srb_s] at nx
          have st : ∀ b, b = (if lv w then (if al then srb lv mm w al t && !(dgt mm w t == 0) else srb lv mm w al t || !(dgt mm w t == 0)) else srb lv mm w al t) → cm_Ex l g 1 0 0 mX12_onAt 101 [.ref 73, .int (nI r), .int (b2I al), .int (nI (bhs (srb lv mm (wys mm n) al) t)), .int (nI t), .int (b2I (srb lv mm w al t)), .int (nI w)] [.int (b2I b)] I L (RR u hr tl) (DD u) Q := fun b hb => by
            rw [← hb] at nx
            refine x_ist5 qX12_onAt_101 (by decide) rfl ?_
            refine x_iinc6 qX12_onAt_103 (by decide) (cm_inc _) rfl ?_
            refine x_goto (tgt := 20) qX12_onAt_106 (by omega) ?_
            exact nx
          refine x_ild qX12_onAt_20 rfl ?_
          refine x_aldn qX12_onAt_22 rfl trivial ?_
          refine x_getIe qX12_onAt_23 fX12_13 rfl h1 ?_
          refine x_icmp_ge_nf (tgt := 109) qX12_onAt_26 (by omega) (by omega) (by omega) (by omega) ?_
          refine x_aldn qX12_onAt_29 rfl trivial ?_
          refine x_getR qX12_onAt_30 fX12_108 rfl rfl ?_
          refine x_bipush (v := nI 64) qX12_onAt_33 rfl ?_
          refine x_ildn qX12_onAt_35 rfl ?_
          refine x_imul_n qX12_onAt_36 ?_
          refine x_ild qX12_onAt_37 rfl ?_
          refine x_iadd_n qX12_onAt_39 ?_
          refine x_zalde qX12_onAt_40 dd_96 rfl (by omega) (by decide) e96 ?_
          generalize srb lv mm w al t = sb at *
          cases hl : lv w with
          | false =>
            rw [hl] at nx
            refine x_if_eq_t (tgt := 103) qX12_onAt_41 (by omega) (by decide) ?_
            refine x_iinc6 qX12_onAt_103 (by decide) (cm_inc _) rfl ?_
            refine x_goto (tgt := 20) qX12_onAt_106 (by omega) ?_
            exact nx
          | true =>
            rw [hl] at st
            refine x_if_eq_f (tgt := 103) qX12_onAt_41 (by omega) (by decide) ?_
            refine x_ildn qX12_onAt_44 rfl ?_
            cases al with
            | true =>
              refine x_if_eq_f (tgt := 76) qX12_onAt_45 (by omega) (by decide) ?_
              refine x_ild qX12_onAt_48 rfl ?_
              cases sb with
              | false =>
                refine x_if_eq_t (tgt := 72) qX12_onAt_50 (by omega) (by decide) ?_
                refine x_iconst (v := nI 0) qX12_onAt_72 rfl ?_
                refine x_goto (tgt := 101) qX12_onAt_73 (by omega) ?_
                exact st false rfl
              | true =>
                refine x_if_eq_f (tgt := 72) qX12_onAt_50 (by omega) (by decide) ?_
                refine x_aldn qX12_onAt_53 rfl trivial ?_
                refine x_getR qX12_onAt_54 fX12_80 rfl rfl ?_
                refine x_iconst (v := nI 4) qX12_onAt_57 rfl ?_
                refine x_ild qX12_onAt_58 rfl ?_
                refine x_imul_n qX12_onAt_60 ?_
                refine x_ild qX12_onAt_61 rfl ?_
                refine x_iadd_n qX12_onAt_63 ?_
                refine x_ialde qX12_onAt_64 dd_87 rfl (by omega) (by decide) e87 ?_
                refine x_if_le_n (tgt := 72) qX12_onAt_65 (by omega) (by omega) (fun e => ?_) (fun e => ?_)
                · refine x_iconst (v := nI 0) qX12_onAt_72 rfl ?_
                  refine x_goto (tgt := 101) qX12_onAt_73 (by omega) ?_
                  exact st false (by simp [e])
                · refine x_iconst (v := nI 1) qX12_onAt_68 rfl ?_
                  refine x_goto (tgt := 101) qX12_onAt_69 (by omega) ?_
                  exact st true (by simp; omega)
            | false =>
              refine x_if_eq_t (tgt := 76) qX12_onAt_45 (by omega) (by decide) ?_
              refine x_ild qX12_onAt_76 rfl ?_
              cases sb with
              | true =>
                refine x_if_ne_t (tgt := 96) qX12_onAt_78 (by omega) (by decide) ?_
                refine x_iconst (v := nI 1) qX12_onAt_96 rfl ?_
                refine x_goto (tgt := 101) qX12_onAt_97 (by omega) ?_
                exact st true rfl
              | false =>
                refine x_if_ne_f (tgt := 96) qX12_onAt_78 (by omega) (by decide) ?_
                refine x_aldn qX12_onAt_81 rfl trivial ?_
                refine x_getR qX12_onAt_82 fX12_80 rfl rfl ?_
                refine x_iconst (v := nI 4) qX12_onAt_85 rfl ?_
                refine x_ild qX12_onAt_86 rfl ?_
                refine x_imul_n qX12_onAt_88 ?_
                refine x_ild qX12_onAt_89 rfl ?_
                refine x_iadd_n qX12_onAt_91 ?_
                refine x_ialde qX12_onAt_92 dd_87 rfl (by omega) (by decide) e87 ?_
                refine x_if_le_n (tgt := 100) qX12_onAt_93 (by omega) (by omega) (fun e => ?_) (fun e => ?_)
                · refine x_iconst (v := nI 0) qX12_onAt_100 rfl ?_
                  exact st false (by simp [e])
                · refine x_iconst (v := nI 1) qX12_onAt_96 rfl ?_
                  refine x_goto (tgt := 101) qX12_onAt_97 (by omega) ?_
                  exact st true (by simp; omega)
      have s0 : srb lv mm 0 al t = al := by cases al <;> rfl
      have i0 := inn (wys mm n) 0 (by omega)
      rw [s0] at i0
      refine x_ild qX12_onAt_5 rfl ?_
      refine x_aldn qX12_onAt_7 rfl trivial ?_
      refine x_getIe qX12_onAt_8 fX12_7 rfl h0 ?_
      refine x_icmp_ge_nf (tgt := 131) qX12_onAt_11 (by omega) (by omega) (by omega) (by omega) ?_
      refine x_ildn qX12_onAt_14 rfl ?_
      refine x_ist5 qX12_onAt_15 (by decide) rfl ?_
      refine x_iconst (v := nI 0) qX12_onAt_17 rfl ?_
      refine x_ist6 qX12_onAt_18 (by decide) rfl ?_
      exact i0
  refine x_iconst (v := nI 0) qX12_onAt_0 rfl ?_
  refine x_ist3 qX12_onAt_1 (by decide) rfl ?_
  refine x_iconst (v := nI 0) qX12_onAt_2 rfl ?_
  refine x_ist4 qX12_onAt_3 (by decide) rfl ?_
  exact loop n 0 _ _ (by omega)
theorem c_X12_sure {r w : Int32} (M : MI n kd mm len tx hs hx c1 w1 c2 w2 im s tp I L) (hQ : KMQ Q (.int (surA n kd mm (hcs hs hx) c1 w1 r w)) u hr tl (MI n kd mm len tx hs hx c1 w1 c2 w2 im s tp) I L) : cm_Ex l g 7 0 0 mX12_sure 0 [.ref 73, .int r, .int w] [] I L (RR u hr tl) (DD u) Q := by
  obtain ⟨h86, hc⟩ := MI_86 M
  have no : (inB r c1 && inB w 2) = false → cm_Ex l g 7 0 0 mX12_sure 18 [.ref 73, .int r, .int w] [] I L (RR u hr tl) (DD u) Q := fun e => by
    have hq := hQ I L M KC_rfl
    unfold surA at hq
    rw [if_neg (by rw [e]; decide)] at hq
    refine x_iconst (v := -1) qX12_sure_18 rfl ?_
    refine x_iret qX12_sure_19 rfl rfl ?_
    exact hq
  refine x_aldn qX12_sure_0 rfl trivial ?_
  refine x_ildn qX12_sure_1 rfl ?_
  refine x_cV1 (d' := 2) qX12_sure_2 cX12_246 rfl ⟨_, rfl, rfl⟩ rfl rfl (Nat.le_of_ble_eq_true rfl) (Nat.le_of_ble_eq_true rfl) (by decide) ?_
  refine c_X12_isReading h86 hc (fun hb => ?_) (fun hb => ?_)
  · refine x_if_eq_f (tgt := 18) qX12_sure_5 (by omega) (by decide) ?_
    refine x_aldn qX12_sure_8 rfl trivial ?_
    refine x_ildn qX12_sure_9 rfl ?_
    refine x_iconst (v := nI 0) qX12_sure_10 rfl ?_
    refine x_iconst (v := nI 1) qX12_sure_11 rfl ?_
    refine x_cV3 (d' := 1) qX12_sure_12 cX12_149 rfl ⟨_, rfl, rfl⟩ rfl rfl (Nat.le_of_ble_eq_true rfl) (Nat.le_of_ble_eq_true rfl) (by decide) ?_
    refine c_X12_in (fun h => ?_) (fun h => ?_)
    · have hw := i01.mp h
      obtain ⟨er, lr⟩ := inB_ix hb
      obtain ⟨ew, lw⟩ := inB_ix hw
      have ev : surA n kd mm (hcs hs hx) c1 w1 r w = (if tal (F1 n kd mm (hcs hs hx) w1) (nxt kd mm n) (wys mm n) c1 then nI (bhs (srb (liv (F1 n kd mm (hcs hs hx) w1) (nxt kd mm n) (wys mm n) c1 (ix r)) mm (wys mm n) (ix w == 0)) n) else 0) := by
        unfold surA; rw [hb, hw]; rfl
      refine x_if_ne_t (tgt := 20) qX12_sure_15 (by omega) (by decide) ?_
      refine x_aldn qX12_sure_20 rfl trivial ?_
      refine x_cV0 (d' := 5) qX12_sure_21 cX12_249 rfl ⟨_, rfl, rfl⟩ rfl rfl (Nat.le_of_ble_eq_true rfl) (Nat.le_of_ble_eq_true rfl) (by decide) ?_
      refine c_X12_look M (fun I1 A1 h96 F1x M1 => ?_)
      have hq := hQ I1 L M1 (KC_FX F1x)
      rw [ev] at hq
      cases ht : tal (F1 n kd mm (hcs hs hx) w1) (nxt kd mm n) (wys mm n) c1 with
      | false =>
        rw [ht] at hq
        refine x_if_eq_t (tgt := 44) qX12_sure_24 (by omega) (by decide) ?_
        refine x_iconst (v := nI 0) qX12_sure_44 rfl ?_
        refine x_iret qX12_sure_45 rfl rfl ?_
        exact hq
      | true =>
        rw [ht] at hq
        refine x_if_eq_f (tgt := 44) qX12_sure_24 (by omega) (by decide) ?_
        have h96r := h96 (ix r) lr
        have fin : ∀ al, al = (ix w == 0) → cm_Ex l g 7 0 0 mX12_sure 38 [.ref 73, .int (nI (ix r)), .int (nI (ix w))] [.int (b2I al), .int (nI (ix r)), .ref 73] I1 L (RR u hr tl) (DD u) Q := fun al ha => by
          rw [← ha] at hq
          refine x_cV2 (d' := 1) qX12_sure_38 cX12_262 rfl ⟨_, rfl, rfl⟩ rfl rfl (Nat.le_of_ble_eq_true rfl) (Nat.le_of_ble_eq_true rfl) (by decide) ?_
          refine c_X12_onAt (cs2 := hcs hs hx) M1.1 (by omega) A1.2.1 h96r ?_
          refine x_goto (tgt := 45) qX12_sure_41 (by omega) ?_
          refine x_iret qX12_sure_45 rfl rfl ?_
          exact hq
        generalize ix r = r' at *
        generalize ix w = w' at *
        subst er; subst ew
        refine x_aldn qX12_sure_27 rfl trivial ?_
        refine x_ildn qX12_sure_28 rfl ?_
        refine x_ildn qX12_sure_29 rfl ?_
        refine x_if_ne_n (tgt := 37) qX12_sure_30 (by omega) (by omega) (fun e => ?_) (fun e => ?_)
        · refine x_iconst (v := nI 0) qX12_sure_37 rfl ?_
          exact fin false (by symm; rw [beq_eq_false_iff_ne]; omega)
        · refine x_iconst (v := nI 1) qX12_sure_33 rfl ?_
          refine x_goto (tgt := 38) qX12_sure_34 (by omega) ?_
          exact fin true (by symm; rw [beq_iff_eq]; exact e)
    · refine x_if_ne_f (tgt := 20) qX12_sure_15 (by omega) (by decide) ?_
      refine no ?_
      rw [inF (x := w) (k := 2) (fun e => h (i01.mpr e)), Bool.and_false]
  · refine x_if_eq_t (tgt := 18) qX12_sure_5 (by omega) (by decide) ?_
    refine no ?_
    rw [hb]; rfl
end M18
