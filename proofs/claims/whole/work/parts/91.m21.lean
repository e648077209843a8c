/-! the reference: fewest, gladdest, part, secret, coarse -/
section M21
variable {l : Launch} {g : cm_G} {I : cm_I} {L : cm_L} {hr tl : Option Nat} {Q : cm_Post} {u : Nat} {n : Nat} {kd mm : Nat → Nat} {len : Nat} {tx : Nat → Nat} {hs : List (List Cls)} {hx c1 : Nat} {w1 : Nat → Nat} {c2 : Nat} {w2 : Nat → Nat} {im : IM} {s : List Nat} {tp : TP}
theorem opI_ok {i : Int32} (h : i = -1 ∨ inB i c1 = true) (hc : c1 ≤ 12) : (i = -1 ∧ opI i = none) ∨ (∃ r, r < c1 ∧ i = nI r ∧ opI i = some r) := by
  rcases h with e | hb
  · exact Or.inl ⟨e, if_pos e⟩
  · obtain ⟨e1, e2⟩ := opI_some hb
    obtain ⟨ei, li⟩ := inB_ix hb
    exact Or.inr ⟨ix i, li, ei, e1⟩
theorem cW_0 {cs : List Cls} {t : Nat} : cW n mm cs 0 t = fun _ => 0 := by funext w; exact if_pos rfl
theorem cW_1 {cs : List Cls} {t : Nat} : cW n mm cs 1 t = fun w => -1 * ((sumN (fun i => lst 1 i cs) mm 15 n w : Nat) : Int) := by
  funext w
  show (if 1 = 0 then _ else if 1 = 1 then -((sumN (fun i => lst 1 i cs) mm 15 n w : Nat) : Int) else _) = _
  rw [if_neg (by decide), if_pos rfl]
  omega
theorem cW_2 {cs : List Cls} {t b : Nat} (h4 : n ≤ 4) (ht : t < n) (hb : b < 2) : cW n mm cs (2 + b) t = fun v => (1 - 2 * (b : Int)) * ((sumN (fun i => lst 0 i cs) mm (2 ^ t) n v : Nat) : Int) := by
  funext w
  rw [sum_bit (by omega) h4, if_pos ht]
  rcases (by omega : b = 0 ∨ b = 1) with rfl | rfl
  · show (if 2 + 0 = 0 then _ else if 2 + 0 = 1 then _ else if 2 + 0 = 2 then ((lst 0 (4 * t + dgt mm w t) cs : Nat) : Int) else _) = _
    rw [if_neg (by decide), if_neg (by decide), if_pos rfl]
    omega
  · show (if 2 + 1 = 0 then _ else if 2 + 1 = 1 then _ else if 2 + 1 = 2 then _ else -((lst 0 (4 * t + dgt mm w t) cs : Nat) : Int)) = _
    rw [if_neg (by decide), if_neg (by decide), if_neg (by decide)]
    omega
theorem c_X12_fewest {i : Int32} (M : MI n kd mm len tx hs hx c1 w1 c2 w2 im s tp I L) (hQ : KMQ Q (.int (fewA n kd mm (hcs hs hx) c1 w1 i)) u hr tl (MI n kd mm len tx hs hx c1 w1 c2 w2 im s tp) I L) : cm_Ex l g 6 0 0 mX12_fewest 0 [.ref 73, .int i, .float 0] [] I L (RR u hr tl) (DD u) Q := by
  obtain ⟨h86, hc⟩ := MI_86 M
  have yes : (i = -1 ∨ inB i c1 = true) → cm_Ex l g 6 0 0 mX12_fewest 15 [.ref 73, .int i, .float 0] [] I L (RR u hr tl) (DD u) Q := fun h => by
    have ev : fewA n kd mm (hcs hs hx) c1 w1 i = tlA (F1 n kd mm (hcs hs hx) w1) (nxt kd mm n) (wys mm n) c1 (fun _ => 0) (fun u v => (chI mm n 1 u v : Int)) 1 (opI i) := by unfold fewA; rw [if_pos h]
    refine x_aldn qX12_fewest_15 rfl trivial ?_
    refine x_cV0 (d' := 5) qX12_fewest_16 cX12_249 rfl ⟨_, rfl, rfl⟩ rfl rfl (Nat.le_of_ble_eq_true rfl) (Nat.le_of_ble_eq_true rfl) (by decide) ?_
    refine c_X12_look M (fun I1 A1 h96 F1x M1 => ?_)
    unfold tlA at ev
    cases ht : tal (F1 n kd mm (hcs hs hx) w1) (nxt kd mm n) (wys mm n) c1 with
    | false =>
      rw [ht, if_neg (by decide)] at ev
      have hq := hQ I1 L M1 (KC_FX F1x)
      rw [ev] at hq
      refine x_if_ne_f (tgt := 25) qX12_fewest_19 (by omega) (by decide) ?_
      refine x_bipush (v := -5) qX12_fewest_22 rfl ?_
      refine x_iret qX12_fewest_24 rfl rfl ?_
      exact hq
    | true =>
      rw [ht, if_pos rfl] at ev
      refine x_if_ne_t (tgt := 25) qX12_fewest_19 (by omega) (by decide) ?_
      refine x_aldn qX12_fewest_25 rfl trivial ?_
      refine x_iconst (v := nI 0) qX12_fewest_26 rfl ?_
      refine x_iconst (v := nI 0) qX12_fewest_27 rfl ?_
      refine x_cV2 (d' := 2) qX12_fewest_28 cX12_259 rfl ⟨_, rfl, rfl⟩ rfl rfl (Nat.le_of_ble_eq_true rfl) (Nat.le_of_ble_eq_true rfl) (by decide) ?_
      refine c_X12_findTale (wh := 0) (t := 0) M1.1 (MI_86 M1).1 hc A1 (HK_999 (MI_HK M1)) (by decide) (Or.inl (by decide)) (by decide) h96 ht (fun I2 hT hI2 => ?_)
      have F2x : FX I I2 := FX_tr F1x (fun b hb => hI2 b (by omega) (by omega))
      have hq := hQ I2 L (MI_FX M F2x) (KC_FX F2x)
      rw [cW_0] at hT ⊢
      rcases opI_ok h hc with ⟨e1, e2⟩ | ⟨r, hr2, e1, e2⟩
      · rw [e2] at ev
        have ev2 : fewA n kd mm (hcs hs hx) c1 w1 i = zI (1 * tvl (liv (F1 n kd mm (hcs hs hx) w1) (nxt kd mm n) (wys mm n) c1) (nxt kd mm n) (fun _ => 0) (fun u v => (chI mm n 1 u v : Int)) (wys mm n) c1) := ev
        rw [ev2, Int.one_mul] at hq
        refine x_ist2 qX12_fewest_31 (by decide) rfl ?_
        refine x_ildn qX12_fewest_32 rfl ?_
        rw [e1]
        refine x_if_ge_f (tgt := 40) qX12_fewest_33 (by omega) (by decide) ?_
        refine x_ildn qX12_fewest_36 rfl ?_
        refine x_goto (tgt := 46) qX12_fewest_37 (by omega) ?_
        refine x_iret qX12_fewest_46 rfl rfl ?_
        exact hq
      · rw [e2] at ev
        have ev2 : fewA n kd mm (hcs hs hx) c1 w1 i = nI (tlr (liv (F1 n kd mm (hcs hs hx) w1) (nxt kd mm n) (wys mm n) c1) (nxt kd mm n) (fun _ => 0) (fun u v => (chI mm n 1 u v : Int)) (wys mm n) c1 r) := ev
        rw [ev2] at hq
        refine x_ist2 qX12_fewest_31 (by decide) rfl ?_
        refine x_ildn qX12_fewest_32 rfl ?_
        rw [e1]
        refine x_if_ge_nt (tgt := 40) qX12_fewest_33 (by omega) (by omega) ?_
        refine x_aldn qX12_fewest_40 rfl trivial ?_
        refine x_getR qX12_fewest_41 fX12_114 rfl rfl ?_
        refine x_ildn qX12_fewest_44 rfl ?_
        refine x_ialde qX12_fewest_45 dd_98 rfl (by omega) (by decide) (hT r hr2) ?_
        refine x_iret qX12_fewest_46 rfl rfl ?_
        exact hq
  refine x_ildn qX12_fewest_0 rfl ?_
  refine x_iconst (v := -1) qX12_fewest_1 rfl ?_
  refine x_icmp_eq (tgt := 15) qX12_fewest_2 (by omega) (fun h => yes (Or.inl h)) (fun h => ?_)
  refine x_aldn qX12_fewest_5 rfl trivial ?_
  refine x_ildn qX12_fewest_6 rfl ?_
  refine x_cV1 (d' := 2) qX12_fewest_7 cX12_246 rfl ⟨_, rfl, rfl⟩ rfl rfl (Nat.le_of_ble_eq_true rfl) (Nat.le_of_ble_eq_true rfl) (by decide) ?_
  refine c_X12_isReading h86 hc (fun hb => ?_) (fun hb => ?_)
  · refine x_if_ne_t (tgt := 15) qX12_fewest_10 (by omega) (by decide) ?_
    exact yes (Or.inr hb)
  · have hq := hQ I L M KC_rfl
    have ev : fewA n kd mm (hcs hs hx) c1 w1 i = -1 := by
      unfold fewA
      rw [if_neg (fun e => by rcases e with e | e; exact h e; rw [hb] at e; cases e)]
    rw [ev] at hq
    refine x_if_ne_f (tgt := 15) qX12_fewest_10 (by omega) (by decide) ?_
    refine x_iconst (v := -1) qX12_fewest_13 rfl ?_
    refine x_iret qX12_fewest_14 rfl rfl ?_
    exact hq
theorem c_X12_gladdest {i : Int32} (M : MI n kd mm len tx hs hx c1 w1 c2 w2 im s tp I L) (hQ : KMQ Q (.int (glaA n kd mm (hcs hs hx) c1 w1 i)) u hr tl (MI n kd mm len tx hs hx c1 w1 c2 w2 im s tp) I L) : cm_Ex l g 6 0 0 mX12_gladdest 0 [.ref 73, .int i, .float 0] [] I L (RR u hr tl) (DD u) Q := by
  obtain ⟨h86, hc⟩ := MI_86 M
  have yes : (i = -1 ∨ inB i c1 = true) → cm_Ex l g 6 0 0 mX12_gladdest 15 [.ref 73, .int i, .float 0] [] I L (RR u hr tl) (DD u) Q := fun h => by
    have ev : glaA n kd mm (hcs hs hx) c1 w1 i = tlA (F1 n kd mm (hcs hs hx) w1) (nxt kd mm n) (wys mm n) c1 (fun w => -1 * ((sumN (fun i => lst 1 i (hcs hs hx)) mm 15 n w : Nat) : Int)) (fun u v => (chI mm n 0 u v : Int)) (-1) (opI i) := by unfold glaA; rw [if_pos h]
    refine x_aldn qX12_gladdest_15 rfl trivial ?_
    refine x_cV0 (d' := 5) qX12_gladdest_16 cX12_249 rfl ⟨_, rfl, rfl⟩ rfl rfl (Nat.le_of_ble_eq_true rfl) (Nat.le_of_ble_eq_true rfl) (by decide) ?_
    refine c_X12_look M (fun I1 A1 h96 F1x M1 => ?_)
    unfold tlA at ev
    cases ht : tal (F1 n kd mm (hcs hs hx) w1) (nxt kd mm n) (wys mm n) c1 with
    | false =>
      rw [ht, if_neg (by decide)] at ev
      have hq := hQ I1 L M1 (KC_FX F1x)
      rw [ev] at hq
      refine x_if_ne_f (tgt := 25) qX12_gladdest_19 (by omega) (by decide) ?_
      refine x_bipush (v := -5) qX12_gladdest_22 rfl ?_
      refine x_iret qX12_gladdest_24 rfl rfl ?_
      exact hq
    | true =>
      rw [ht, if_pos rfl] at ev
      refine x_if_ne_t (tgt := 25) qX12_gladdest_19 (by omega) (by decide) ?_
      refine x_aldn qX12_gladdest_25 rfl trivial ?_
      refine x_iconst (v := nI 1) qX12_gladdest_26 rfl ?_
      refine x_iconst (v := nI 0) qX12_gladdest_27 rfl ?_
      refine x_cV2 (d' := 2) qX12_gladdest_28 cX12_259 rfl ⟨_, rfl, rfl⟩ rfl rfl (Nat.le_of_ble_eq_true rfl) (Nat.le_of_ble_eq_true rfl) (by decide) ?_
      refine c_X12_findTale (wh := 1) (t := 0) M1.1 (MI_86 M1).1 hc A1 (HK_999 (MI_HK M1)) (by decide) (Or.inl (by decide)) (by decide) h96 ht (fun I2 hT hI2 => ?_)
      have F2x : FX I I2 := FX_tr F1x (fun b hb => hI2 b (by omega) (by omega))
      have hq := hQ I2 L (MI_FX M F2x) (KC_FX F2x)
      rw [cW_1] at hT ⊢
      rcases opI_ok h hc with ⟨e1, e2⟩ | ⟨r, hr2, e1, e2⟩
      · rw [e2] at ev
        have ev2 : glaA n kd mm (hcs hs hx) c1 w1 i = zI (-1 * tvl (liv (F1 n kd mm (hcs hs hx) w1) (nxt kd mm n) (wys mm n) c1) (nxt kd mm n) (fun w => -1 * ((sumN (fun i => lst 1 i (hcs hs hx)) mm 15 n w : Nat) : Int)) (fun u v => (chI mm n 0 u v : Int)) (wys mm n) c1) := ev
        rw [ev2, Int.neg_one_mul, ← zI_neg] at hq
        refine x_ist2 qX12_gladdest_31 (by decide) rfl ?_
        refine x_ildn qX12_gladdest_32 rfl ?_
        rw [e1]
        refine x_if_ge_f (tgt := 41) qX12_gladdest_33 (by omega) (by decide) ?_
        refine x_ildn qX12_gladdest_36 rfl ?_
        refine x_ineg qX12_gladdest_37 ?_
        refine x_goto (tgt := 47) qX12_gladdest_38 (by omega) ?_
        refine x_iret qX12_gladdest_47 rfl rfl ?_
        exact hq
      · rw [e2] at ev
        have ev2 : glaA n kd mm (hcs hs hx) c1 w1 i = nI (tlr (liv (F1 n kd mm (hcs hs hx) w1) (nxt kd mm n) (wys mm n) c1) (nxt kd mm n) (fun w => -1 * ((sumN (fun i => lst 1 i (hcs hs hx)) mm 15 n w : Nat) : Int)) (fun u v => (chI mm n 0 u v : Int)) (wys mm n) c1 r) := ev
        rw [ev2] at hq
        refine x_ist2 qX12_gladdest_31 (by decide) rfl ?_
        refine x_ildn qX12_gladdest_32 rfl ?_
        rw [e1]
        refine x_if_ge_nt (tgt := 41) qX12_gladdest_33 (by omega) (by omega) ?_
        refine x_aldn qX12_gladdest_41 rfl trivial ?_
        refine x_getR qX12_gladdest_42 fX12_114 rfl rfl ?_
        refine x_ildn qX12_gladdest_45 rfl ?_
        refine x_ialde qX12_gladdest_46 dd_98 rfl (by omega) (by decide) (hT r hr2) ?_
        refine x_iret qX12_gladdest_47 rfl rfl ?_
        exact hq
  refine x_ildn qX12_gladdest_0 rfl ?_
  refine x_iconst (v := -1) qX12_gladdest_1 rfl ?_
  refine x_icmp_eq (tgt := 15) qX12_gladdest_2 (by omega) (fun h => yes (Or.inl h)) (fun h => ?_)
  refine x_aldn qX12_gladdest_5 rfl trivial ?_
  refine x_ildn qX12_gladdest_6 rfl ?_
  refine x_cV1 (d' := 2) qX12_gladdest_7 cX12_246 rfl ⟨_, rfl, rfl⟩ rfl rfl (Nat.le_of_ble_eq_true rfl) (Nat.le_of_ble_eq_true rfl) (by decide) ?_
  refine c_X12_isReading h86 hc (fun hb => ?_) (fun hb => ?_)
  · refine x_if_ne_t (tgt := 15) qX12_gladdest_10 (by omega) (by decide) ?_
    exact yes (Or.inr hb)
  · have hq := hQ I L M KC_rfl
    have ev : glaA n kd mm (hcs hs hx) c1 w1 i = -1 := by
      unfold glaA
      rw [if_neg (fun e => by rcases e with e | e; exact h e; rw [hb] at e; cases e)]
    rw [ev] at hq
    refine x_if_ne_f (tgt := 15) qX12_gladdest_10 (by omega) (by decide) ?_
    refine x_iconst (v := -1) qX12_gladdest_13 rfl ?_
    refine x_iret qX12_gladdest_14 rfl rfl ?_
    exact hq
theorem c_X12_part {t w : Int32} (M : MI n kd mm len tx hs hx c1 w1 c2 w2 im s tp I L) (hQ : KMQ Q (.int (parA n kd mm (hcs hs hx) c1 w1 t w)) u hr tl (MI n kd mm len tx hs hx c1 w1 c2 w2 im s tp) I L) : cm_Ex l g 6 0 0 mX12_part 0 [.ref 73, .int t, .int w, .float 0] [] I L (RR u hr tl) (DD u) Q := by
  obtain ⟨h86, hc⟩ := MI_86 M
  have h4 := M.1.1
  have no : (inB t n && inB w 2) = false → cm_Ex l g 6 0 0 mX12_part 18 [.ref 73, .int t, .int w, .float 0] [] I L (RR u hr tl) (DD u) Q := fun e => by
    have hq := hQ I L M KC_rfl
    unfold parA at hq
    rw [if_neg (by rw [e]; decide)] at hq
    refine x_iconst (v := -1) qX12_part_18 rfl ?_
    refine x_iret qX12_part_19 rfl rfl ?_
    exact hq
  refine x_aldn qX12_part_0 rfl trivial ?_
  refine x_ildn qX12_part_1 rfl ?_
  refine x_cV1 (d' := 2) qX12_part_2 cX12_153 rfl ⟨_, rfl, rfl⟩ rfl rfl (Nat.le_of_ble_eq_true rfl) (Nat.le_of_ble_eq_true rfl) (by decide) ?_
  refine c_X12_isThing M.1 (fun hb => ?_) (fun hb => ?_)
  · refine x_if_eq_f (tgt := 18) qX12_part_5 (by omega) (by decide) ?_
    refine x_aldn qX12_part_8 rfl trivial ?_
    refine x_ildn qX12_part_9 rfl ?_
    refine x_iconst (v := nI 0) qX12_part_10 rfl ?_
    refine x_iconst (v := nI 1) qX12_part_11 rfl ?_
    refine x_cV3 (d' := 1) qX12_part_12 cX12_149 rfl ⟨_, rfl, rfl⟩ rfl rfl (Nat.le_of_ble_eq_true rfl) (Nat.le_of_ble_eq_true rfl) (by decide) ?_
    refine c_X12_in (fun h => ?_) (fun h => ?_)
    · have hw := i01.mp h
      obtain ⟨et, lt⟩ := inB_ix hb
      obtain ⟨ew, lw⟩ := inB_ix hw
      have ev : parA n kd mm (hcs hs hx) c1 w1 t w = tlA (F1 n kd mm (hcs hs hx) w1) (nxt kd mm n) (wys mm n) c1 (fun v => (1 - 2 * (ix w : Int)) * ((sumN (fun i => lst 0 i (hcs hs hx)) mm (2 ^ ix t) n v : Nat) : Int)) (fun u v => (chI mm n 0 u v : Int)) (1 - 2 * (ix w : Int)) none := by
        unfold parA; rw [hb, hw]; rfl
      generalize ix t = t' at *
      generalize ix w = b at *
      subst et; subst ew
      refine x_if_ne_t (tgt := 20) qX12_part_15 (by omega) (by decide) ?_
      refine x_aldn qX12_part_20 rfl trivial ?_
      refine x_cV0 (d' := 5) qX12_part_21 cX12_249 rfl ⟨_, rfl, rfl⟩ rfl rfl (Nat.le_of_ble_eq_true rfl) (Nat.le_of_ble_eq_true rfl) (by decide) ?_
      refine c_X12_look M (fun I1 A1 h96 F1x M1 => ?_)
      unfold tlA at ev
      cases ht : tal (F1 n kd mm (hcs hs hx) w1) (nxt kd mm n) (wys mm n) c1 with
      | false =>
        rw [ht, if_neg (by decide)] at ev
        have hq := hQ I1 L M1 (KC_FX F1x)
        rw [ev] at hq
        refine x_if_ne_f (tgt := 30) qX12_part_24 (by omega) (by decide) ?_
        refine x_bipush (v := -5) qX12_part_27 rfl ?_
        refine x_iret qX12_part_29 rfl rfl ?_
        exact hq
      | true =>
        rw [ht, if_pos rfl] at ev
        have e0 : ccN (2 + b) = 0 := if_neg (by omega)
        refine x_if_ne_t (tgt := 30) qX12_part_24 (by omega) (by decide) ?_
        refine x_aldn qX12_part_30 rfl trivial ?_
        refine x_iconst (v := nI 2) qX12_part_31 rfl ?_
        refine x_ildn qX12_part_32 rfl ?_
        refine x_iadd_n qX12_part_33 ?_
        refine x_ildn qX12_part_34 rfl ?_
        refine x_cV2 (d' := 2) qX12_part_35 cX12_259 rfl ⟨_, rfl, rfl⟩ rfl rfl (Nat.le_of_ble_eq_true rfl) (Nat.le_of_ble_eq_true rfl) (by decide) ?_
        refine c_X12_findTale (wh := 2 + b) (t := t') M1.1 (MI_86 M1).1 hc A1 (HK_999 (MI_HK M1)) (by omega) (Or.inr lt) (by omega) h96 ht (fun I2 hT hI2 => ?_)
        have F2x : FX I I2 := FX_tr F1x (fun b hb => hI2 b (by omega) (by omega))
        have hq := hQ I2 L (MI_FX M F2x) (KC_FX F2x)
        rw [cW_2 h4 lt lw, e0]
        have ev2 : parA n kd mm (hcs hs hx) c1 w1 (nI t') (nI b) = zI ((1 - 2 * (b : Int)) * tvl (liv (F1 n kd mm (hcs hs hx) w1) (nxt kd mm n) (wys mm n) c1) (nxt kd mm n) (fun v => (1 - 2 * (b : Int)) * ((sumN (fun i => lst 0 i (hcs hs hx)) mm (2 ^ t') n v : Nat) : Int)) (fun u v => (chI mm n 0 u v : Int)) (wys mm n) c1) := ev
        rw [ev2] at hq
        generalize tvl (liv (F1 n kd mm (hcs hs hx) w1) (nxt kd mm n) (wys mm n) c1) (nxt kd mm n) (fun v => (1 - 2 * (b : Int)) * ((sumN (fun i => lst 0 i (hcs hs hx)) mm (2 ^ t') n v : Nat) : Int)) (fun u v => (chI mm n 0 u v : Int)) (wys mm n) c1 = z at *
        refine x_ist3 qX12_part_38 (by decide) rfl ?_
        refine x_ildn qX12_part_39 rfl ?_
        refine x_if_ne_n (tgt := 47) qX12_part_40 (by omega) (by omega) (fun e => ?_) (fun e => ?_)
        · have eb : b = 1 := by omega
          rw [eb, show (1 - 2 * ((1 : Nat) : Int)) * z = -z by omega, ← zI_neg] at hq
          refine x_ildn qX12_part_47 rfl ?_
          refine x_ineg qX12_part_48 ?_
          refine x_iret qX12_part_49 rfl rfl ?_
          exact hq
        · rw [e, show (1 - 2 * ((0 : Nat) : Int)) * z = z by omega] at hq
          refine x_ildn qX12_part_43 rfl ?_
          refine x_goto (tgt := 49) qX12_part_44 (by omega) ?_
          refine x_iret qX12_part_49 rfl rfl ?_
          exact hq
    · refine x_if_ne_f (tgt := 20) qX12_part_15 (by omega) (by decide) ?_
      refine no ?_
      rw [inF (x := w) (k := 2) (fun e => h (i01.mpr e)), Bool.and_false]
  · refine x_if_eq_t (tgt := 18) qX12_part_5 (by omega) (by decide) ?_
    refine no ?_
    rw [hb]; rfl
theorem c_X12_secret (M : MI n kd mm len tx hs hx c1 w1 c2 w2 im s tp I L) (hQ : KMQ Q (.int (scrA n kd mm (hcs hs hx) c1 w1)) u hr tl (MI n kd mm len tx hs hx c1 w1 c2 w2 im s tp) I L) : cm_Ex l g 6 0 0 mX12_secret 0 [.ref 73, .float 0] [] I L (RR u hr tl) (DD u) Q := by
  obtain ⟨h86, hc⟩ := MI_86 M
  have ev : scrA n kd mm (hcs hs hx) c1 w1 = if tal (F1 n kd mm (hcs hs hx) w1) (nxt kd mm n) (wys mm n) c1 then 0 else optS (fst1 (fun s => tal (F2 n kd mm (hcs hs hx) w1 1 s) (nxt kd mm n) (wys mm n) c1) 99 1) := rfl
  refine x_aldn qX12_secret_0 rfl trivial ?_
  refine x_cV0 (d' := 5) qX12_secret_1 cX12_249 rfl ⟨_, rfl, rfl⟩ rfl rfl (Nat.le_of_ble_eq_true rfl) (Nat.le_of_ble_eq_true rfl) (by decide) ?_
  refine c_X12_look M (fun I1 A1 h96 F1x M1 => ?_)
  cases ht : tal (F1 n kd mm (hcs hs hx) w1) (nxt kd mm n) (wys mm n) c1 with
  | true =>
    rw [ht, if_pos rfl] at ev
    have hq := hQ I1 L M1 (KC_FX F1x)
    rw [ev] at hq
    refine x_if_eq_f (tgt := 9) qX12_secret_4 (by omega) (by decide) ?_
    refine x_iconst (v := nI 0) qX12_secret_7 rfl ?_
    refine x_iret qX12_secret_8 rfl rfl ?_
    exact hq
  | false =>
    rw [ht, if_neg (by decide)] at ev
    rw [ev] at hQ
    have loop : ∀ m k I', k + m = 100 → LL n kd mm (hcs hs hx) c1 I' → FX I I' → KMQ Q (.int (optS (fst1 (fun s => tal (F2 n kd mm (hcs hs hx) w1 1 s) (nxt kd mm n) (wys mm n) c1) m k))) u hr tl (MI n kd mm len tx hs hx c1 w1 c2 w2 im s tp) I L → cm_Ex l g 6 0 0 mX12_secret 11 [.ref 73, .int (nI k)] [] I' L (RR u hr tl) (DD u) Q := by
      intro m
      induction m with
      | zero =>
        intro k I' hk A F hq
        have hq2 := hq I' L (MI_FX M F) (KC_FX F)
        refine x_ildn qX12_secret_11 rfl ?_
        refine x_bipush (v := nI 100) qX12_secret_12 rfl ?_
        refine x_icmp_ge_nt (tgt := 38) qX12_secret_14 (by omega) (by omega) (by omega) (by omega) ?_
        refine x_bipush (v := -5) qX12_secret_38 rfl ?_
        refine x_iret qX12_secret_40 rfl rfl ?_
        exact hq2
      | succ m ih =>
        intro k I' hk A F hq
        have M2 := MI_FX M F
        have ef : fst1 (fun s => tal (F2 n kd mm (hcs hs hx) w1 1 s) (nxt kd mm n) (wys mm n) c1) (m + 1) k = if tal (F2 n kd mm (hcs hs hx) w1 1 k) (nxt kd mm n) (wys mm n) c1 then some k else fst1 (fun s => tal (F2 n kd mm (hcs hs hx) w1 1 s) (nxt kd mm n) (wys mm n) c1) m (k + 1) := rfl
        rw [ef] at hq
        refine x_ildn qX12_secret_11 rfl ?_
        refine x_bipush (v := nI 100) qX12_secret_12 rfl ?_
        refine x_icmp_ge_nf (tgt := 38) qX12_secret_14 (by omega) (by omega) (by omega) (by omega) ?_
        refine x_aldn qX12_secret_17 rfl trivial ?_
        refine x_iconst (v := nI 1) qX12_secret_18 rfl ?_
        refine x_ildn qX12_secret_19 rfl ?_
        refine x_cV2 (d' := 4) qX12_secret_20 cX12_239 rfl ⟨_, rfl, rfl⟩ rfl rfl (Nat.le_of_ble_eq_true rfl) (Nat.le_of_ble_eq_true rfl) (by decide) ?_
        refine c_X12_layFits (c := 1) (s := k) M2.1 (MI_HK M2) M2.2.2.2.2.1 A (by decide) (by decide) (by omega) (fun I3 h95 hI3 => ?_)
        have F3 : FX I I3 := FX_tr F (fun b hb => hI3 b (by omega))
        have M3 := MI_FX M F3
        have A3 : LL n kd mm (hcs hs hx) c1 I3 := LL_fr A (fun b g1 g2 => hI3 b (by omega))
        refine x_aldn qX12_secret_23 rfl trivial ?_
        refine x_cV0 (d' := 1) qX12_secret_24 cX12_243 rfl ⟨_, rfl, rfl⟩ rfl rfl (Nat.le_of_ble_eq_true rfl) (Nat.le_of_ble_eq_true rfl) (by decide) ?_
        refine c_X12_findLive (LVp_of M3.1 (MI_86 M3).1 hc A3 h95) (fun I4 h96 hI4 => ?_)
        have F4 : FX I I4 := FX_tr F3 (fun b hb => hI4 b (by omega))
        cases ht : tal (F2 n kd mm (hcs hs hx) w1 1 k) (nxt kd mm n) (wys mm n) c1 with
        | true =>
          rw [ht, if_pos rfl] at hq
          have hq2 := hq I4 L (MI_FX M F4) (KC_FX F4)
          refine x_if_eq_f (tgt := 32) qX12_secret_27 (by omega) (by decide) ?_
          refine x_ildn qX12_secret_30 rfl ?_
          refine x_iret qX12_secret_31 rfl rfl ?_
          exact hq2
        | false =>
          rw [ht, if_neg (by decide)] at hq
          refine x_if_eq_t (tgt := 32) qX12_secret_27 (by omega) (by decide) ?_
          refine x_iinc1 qX12_secret_32 (by decide) (cm_inc _) rfl ?_
          refine x_goto (tgt := 11) qX12_secret_35 (by omega) ?_
          exact ih (k + 1) I4 (by omega) (LL_fr A3 (fun b g1 g2 => hI4 b (by omega))) F4 hq
    refine x_if_eq_t (tgt := 9) qX12_secret_4 (by omega) (by decide) ?_
    refine x_iconst (v := nI 1) qX12_secret_9 rfl ?_
    refine x_ist1 qX12_secret_10 (by decide) rfl ?_
    exact loop 99 1 I1 (by omega) A1 F1x hQ
theorem c_X12_coarse {r t : Int32} (M : MI n kd mm len tx hs hx c1 w1 c2 w2 im s tp I L) (hQ : KMQ Q (.int (coaA n kd mm (hcs hs hx) c1 w1 r t)) u hr tl (MI n kd mm len tx hs hx c1 w1 c2 w2 im s tp) I L) : cm_Ex l g 6 0 0 mX12_coarse 0 [.ref 73, .int r, .int t, .float 0] [] I L (RR u hr tl) (DD u) Q := by
  obtain ⟨h86, hc⟩ := MI_86 M
  have h4 := M.1.1
  have no : (inB r c1 && inB t n) = false → cm_Ex l g 6 0 0 mX12_coarse 16 [.ref 73, .int r, .int t, .float 0] [] I L (RR u hr tl) (DD u) Q := fun e => by
    have hq := hQ I L M KC_rfl
    unfold coaA at hq
    rw [if_neg (by rw [e]; decide)] at hq
    refine x_iconst (v := -1) qX12_coarse_16 rfl ?_
    refine x_iret qX12_coarse_17 rfl rfl ?_
    exact hq
  refine x_aldn qX12_coarse_0 rfl trivial ?_
  refine x_ildn qX12_coarse_1 rfl ?_
  refine x_cV1 (d' := 2) qX12_coarse_2 cX12_246 rfl ⟨_, rfl, rfl⟩ rfl rfl (Nat.le_of_ble_eq_true rfl) (Nat.le_of_ble_eq_true rfl) (by decide) ?_
  refine c_X12_isReading h86 hc (fun hb => ?_) (fun hb => ?_)
  · refine x_if_eq_f (tgt := 16) qX12_coarse_5 (by omega) (by decide) ?_
    refine x_aldn qX12_coarse_8 rfl trivial ?_
    refine x_ildn qX12_coarse_9 rfl ?_
    refine x_cV1 (d' := 2) qX12_coarse_10 cX12_153 rfl ⟨_, rfl, rfl⟩ rfl rfl (Nat.le_of_ble_eq_true rfl) (Nat.le_of_ble_eq_true rfl) (by decide) ?_
    refine c_X12_isThing M.1 (fun hb2 => ?_) (fun hb2 => ?_)
    · obtain ⟨er, lr⟩ := inB_ix hb
      obtain ⟨et, lt⟩ := inB_ix hb2
      have ev : coaA n kd mm (hcs hs hx) c1 w1 r t = optS (fst1 (cop (opn kd mm n (btk (hcs hs hx))) (nxt kd mm n) (sumN (fun i => lst 0 i (hcs hs hx)) mm 15 n) w1 mm (lst 3 0 (hcs hs hx)) (wys mm n) c1 (ix r) (ix t)) 60 1) := by
        unfold coaA; rw [hb, hb2]; rfl
      rw [ev] at hQ
      generalize ix r = r' at *
      generalize ix t = t' at *
      subst er; subst et
      have loop : ∀ m k I', k + m = 61 → 1 ≤ k → LL n kd mm (hcs hs hx) c1 I' → FX I I' → KMQ Q (.int (optS (fst1 (cop (opn kd mm n (btk (hcs hs hx))) (nxt kd mm n) (sumN (fun i => lst 0 i (hcs hs hx)) mm 15 n) w1 mm (lst 3 0 (hcs hs hx)) (wys mm n) c1 r' t') m k))) u hr tl (MI n kd mm len tx hs hx c1 w1 c2 w2 im s tp) I L → cm_Ex l g 6 0 0 mX12_coarse 24 [.ref 73, .int (nI r'), .int (nI t'), .int (nI k)] [] I' L (RR u hr tl) (DD u) Q := by
        intro m
        induction m with
        | zero =>
          intro k I' hk hk1 A F hq
          have hq2 := hq I' L (MI_FX M F) (KC_FX F)
          refine x_ildn qX12_coarse_24 rfl ?_
          refine x_bipush (v := nI 61) qX12_coarse_25 rfl ?_
          refine x_icmp_ge_nt (tgt := 78) qX12_coarse_27 (by omega) (by omega) (by omega) (by omega) ?_
          refine x_bipush (v := -5) qX12_coarse_78 rfl ?_
          refine x_iret qX12_coarse_80 rfl rfl ?_
          exact hq2
        | succ m ih =>
          intro k I' hk hk1 A F hq
          have M2 := MI_FX M F
          have ef : fst1 (cop (opn kd mm n (btk (hcs hs hx))) (nxt kd mm n) (sumN (fun i => lst 0 i (hcs hs hx)) mm 15 n) w1 mm (lst 3 0 (hcs hs hx)) (wys mm n) c1 r' t') (m + 1) k = if (tal (F2 n kd mm (hcs hs hx) w1 k 0) (nxt kd mm n) (wys mm n) c1 && (exb (fun w => liv (F2 n kd mm (hcs hs hx) w1 k 0) (nxt kd mm n) (wys mm n) c1 r' w && (dgt mm w t' == 0)) (wys mm n) && exb (fun w => liv (F2 n kd mm (hcs hs hx) w1 k 0) (nxt kd mm n) (wys mm n) c1 r' w && !(dgt mm w t' == 0)) (wys mm n))) = true then some k else fst1 (cop (opn kd mm n (btk (hcs hs hx))) (nxt kd mm n) (sumN (fun i => lst 0 i (hcs hs hx)) mm 15 n) w1 mm (lst 3 0 (hcs hs hx)) (wys mm n) c1 r' t') m (k + 1) := rfl
          rw [ef] at hq
          refine x_ildn qX12_coarse_24 rfl ?_
          refine x_bipush (v := nI 61) qX12_coarse_25 rfl ?_
          refine x_icmp_ge_nf (tgt := 78) qX12_coarse_27 (by omega) (by omega) (by omega) (by omega) ?_
          refine x_aldn qX12_coarse_30 rfl trivial ?_
          refine x_ildn qX12_coarse_31 rfl ?_
          refine x_iconst (v := nI 0) qX12_coarse_32 rfl ?_
          refine x_cV2 (d' := 4) qX12_coarse_33 cX12_239 rfl ⟨_, rfl, rfl⟩ rfl rfl (Nat.le_of_ble_eq_true rfl) (Nat.le_of_ble_eq_true rfl) (by decide) ?_
          refine c_X12_layFits (c := k) (s := 0) M2.1 (MI_HK M2) M2.2.2.2.2.1 A hk1 (by omega) (by decide) (fun I3 h95 hI3 => ?_)
          have F3 : FX I I3 := FX_tr F (fun b hb => hI3 b (by omega))
          have M3 := MI_FX M F3
          have A3 : LL n kd mm (hcs hs hx) c1 I3 := LL_fr A (fun b g1 g2 => hI3 b (by omega))
          refine x_aldn qX12_coarse_36 rfl trivial ?_
          refine x_cV0 (d' := 1) qX12_coarse_37 cX12_243 rfl ⟨_, rfl, rfl⟩ rfl rfl (Nat.le_of_ble_eq_true rfl) (Nat.le_of_ble_eq_true rfl) (by decide) ?_
          refine c_X12_findLive (LVp_of M3.1 (MI_86 M3).1 hc A3 h95) (fun I4 h96 hI4 => ?_)
          have F4 : FX I I4 := FX_tr F3 (fun b hb => hI4 b (by omega))
          have M4 := MI_FX M F4
          have A4 : LL n kd mm (hcs hs hx) c1 I4 := LL_fr A3 (fun b g1 g2 => hI4 b (by omega))
          have nx : (tal (F2 n kd mm (hcs hs hx) w1 k 0) (nxt kd mm n) (wys mm n) c1 && (exb (fun w => liv (F2 n kd mm (hcs hs hx) w1 k 0) (nxt kd mm n) (wys mm n) c1 r' w && (dgt mm w t' == 0)) (wys mm n) && exb (fun w => liv (F2 n kd mm (hcs hs hx) w1 k 0) (nxt kd mm n) (wys mm n) c1 r' w && !(dgt mm w t' == 0)) (wys mm n))) = false → cm_Ex l g 6 0 0 mX12_coarse 72 [.ref 73, .int (nI r'), .int (nI t'), .int (nI k)] [] I4 L (RR u hr tl) (DD u) Q := fun e => by
            rw [if_neg (by rw [e]; decide)] at hq
            refine x_iinc3 qX12_coarse_72 (by decide) (cm_inc _) rfl ?_
            refine x_goto (tgt := 24) qX12_coarse_75 (by omega) ?_
            exact ih (k + 1) I4 (by omega) (by omega) A4 F4 hq
          cases ht : tal (F2 n kd mm (hcs hs hx) w1 k 0) (nxt kd mm n) (wys mm n) c1 with
          | false =>
            refine x_if_eq_t (tgt := 72) qX12_coarse_40 (by omega) (by decide) ?_
            exact nx (by rw [ht]; rfl)
          | true =>
            have h96r := h96 r' lr
            have bl1 := @bhs_lt (srb (liv (F2 n kd mm (hcs hs hx) w1 k 0) (nxt kd mm n) (wys mm n) c1 r') mm (wys mm n) false) n
            have bl2 := @bhs_lt (srb (liv (F2 n kd mm (hcs hs hx) w1 k 0) (nxt kd mm n) (wys mm n) c1 r') mm (wys mm n) true) n
            have b1 := @bhs_bit (srb (liv (F2 n kd mm (hcs hs hx) w1 k 0) (nxt kd mm n) (wys mm n) c1 r') mm (wys mm n) false) n t'
            have b2 := @bhs_bit (srb (liv (F2 n kd mm (hcs hs hx) w1 k 0) (nxt kd mm n) (wys mm n) c1 r') mm (wys mm n) true) n t'
            have p16 : 2 ^ n ≤ 16 := Nat.pow_le_pow_right (show 2 > 0 by decide) h4
            have s1 : srb (liv (F2 n kd mm (hcs hs hx) w1 k 0) (nxt kd mm n) (wys mm n) c1 r') mm (wys mm n) false t' = exb (fun w => liv (F2 n kd mm (hcs hs hx) w1 k 0) (nxt kd mm n) (wys mm n) c1 r' w && !(dgt mm w t' == 0)) (wys mm n) := rfl
            have s2 : srb (liv (F2 n kd mm (hcs hs hx) w1 k 0) (nxt kd mm n) (wys mm n) c1 r') mm (wys mm n) true t' = !(exb (fun w => liv (F2 n kd mm (hcs hs hx) w1 k 0) (nxt kd mm n) (wys mm n) c1 r' w && (dgt mm w t' == 0)) (wys mm n)) := rfl
            refine x_if_eq_f (tgt := 72) qX12_coarse_40 (by omega) (by decide) ?_
            refine x_aldn qX12_coarse_43 rfl trivial ?_
            refine x_ildn qX12_coarse_44 rfl ?_
            refine x_iconst (v := nI 0) qX12_coarse_45 rfl ?_
            refine x_cV2 (d' := 1) qX12_coarse_46 cX12_262 rfl ⟨_, rfl, rfl⟩ rfl rfl (Nat.le_of_ble_eq_true rfl) (Nat.le_of_ble_eq_true rfl) (by decide) ?_
            refine c_X12_onAt (al := false) (cs2 := hcs hs hx) M4.1 (by omega) A4.2.1 h96r ?_
            generalize bhs (srb (liv (F2 n kd mm (hcs hs hx) w1 k 0) (nxt kd mm n) (wys mm n) c1 r') mm (wys mm n) false) n = z1 at *
            refine x_ildn qX12_coarse_49 rfl ?_
            refine x_ishr qX12_coarse_50 ?_
            refine x_iconst (v := nI 1) qX12_coarse_51 rfl ?_
            refine x_iand qX12_coarse_52 ?_
            rw [ib_in (by omega) (by omega), b1]
            refine x_iconst (v := nI 1) qX12_coarse_53 rfl ?_
            cases e1 : exb (fun w => liv (F2 n kd mm (hcs hs hx) w1 k 0) (nxt kd mm n) (wys mm n) c1 r' w && !(dgt mm w t' == 0)) (wys mm n) with
            | false =>
              rw [if_neg (by rw [s1, e1]; simp)]
              refine x_icmp_ne_nt (tgt := 72) qX12_coarse_54 (by omega) (by omega) (by omega) (by decide) ?_
              exact nx (by rw [e1, Bool.and_false, Bool.and_false])
            | true =>
              rw [if_pos ⟨lt, by rw [s1, e1]⟩]
              refine x_icmp_ne_nf (tgt := 72) qX12_coarse_54 (by omega) (by omega) (by omega) rfl ?_
              refine x_aldn qX12_coarse_57 rfl trivial ?_
              refine x_ildn qX12_coarse_58 rfl ?_
              refine x_iconst (v := nI 1) qX12_coarse_59 rfl ?_
              refine x_cV2 (d' := 1) qX12_coarse_60 cX12_262 rfl ⟨_, rfl, rfl⟩ rfl rfl (Nat.le_of_ble_eq_true rfl) (Nat.le_of_ble_eq_true rfl) (by decide) ?_
              refine c_X12_onAt (al := true) (cs2 := hcs hs hx) M4.1 (by omega) A4.2.1 h96r ?_
              generalize bhs (srb (liv (F2 n kd mm (hcs hs hx) w1 k 0) (nxt kd mm n) (wys mm n) c1 r') mm (wys mm n) true) n = z2 at *
              refine x_ildn qX12_coarse_63 rfl ?_
              refine x_ishr qX12_coarse_64 ?_
              refine x_iconst (v := nI 1) qX12_coarse_65 rfl ?_
              refine x_iand qX12_coarse_66 ?_
              rw [ib_in (by omega) (by omega), b2]
              cases e2 : exb (fun w => liv (F2 n kd mm (hcs hs hx) w1 k 0) (nxt kd mm n) (wys mm n) c1 r' w && (dgt mm w t' == 0)) (wys mm n) with
              | false =>
                rw [if_pos ⟨lt, by rw [s2, e2]; rfl⟩]
                refine x_if_ne_t (tgt := 72) qX12_coarse_67 (by omega) (by decide) ?_
                exact nx (by rw [e2, Bool.false_and, Bool.and_false])
              | true =>
                rw [if_neg (by rw [s2, e2]; simp)]
                rw [ht, e1, e2, if_pos (by rfl)] at hq
                have hq2 := hq I4 L M4 (KC_FX F4)
                refine x_if_ne_f (tgt := 72) qX12_coarse_67 (by omega) (by decide) ?_
                refine x_ildn qX12_coarse_70 rfl ?_
                refine x_iret qX12_coarse_71 rfl rfl ?_
                exact hq2
      refine x_if_ne_t (tgt := 18) qX12_coarse_13 (by omega) (by decide) ?_
      refine x_aldn qX12_coarse_18 rfl trivial ?_
      refine x_cV0 (d' := 4) qX12_coarse_19 cX12_236 rfl ⟨_, rfl, rfl⟩ rfl rfl (Nat.le_of_ble_eq_true rfl) (Nat.le_of_ble_eq_true rfl) (by decide) ?_
      refine c_X12_layAll M.1 (MI_HK M) h86 hc (fun I1 A1 F1x => ?_)
      refine x_iconst (v := nI 1) qX12_coarse_22 rfl ?_
      refine x_ist3 qX12_coarse_23 (by decide) rfl ?_
      exact loop 60 1 I1 (by omega) (by decide) A1 F1x hQ
    · refine x_if_ne_f (tgt := 18) qX12_coarse_13 (by omega) (by decide) ?_
      refine no ?_
      rw [hb2, Bool.and_false]
  · refine x_if_eq_t (tgt := 16) qX12_coarse_5 (by omega) (by decide) ?_
    refine no ?_
    rw [hb]; rfl
end M21
