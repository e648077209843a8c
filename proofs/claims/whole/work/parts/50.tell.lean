/-! Telling: fewest, gladdest, parts, sure -/
def FQ (I I' : cm_I) (L L' : cm_L) : Prop := (∀ b, b ≠ 23 → (b < 28 ∨ 33 < b) → I' b = I b) ∧ (∀ b, (b < 24 ∨ 27 < b) → L' b = L b)
theorem FQ_tr {I I' I'' : cm_I} {L L' L'' : cm_L} (a : FQ I I' L L') (b : FQ I' I'' L' L'') : FQ I I'' L L'' := ⟨fun c h1 h2 => (b.1 c h1 h2).trans (a.1 c h1 h2), fun c h => (b.2 c h).trans (a.2 c h)⟩
/-- a cheapest tale's cost, or its way at a reading -/
def tlA (fit nx : Nat → Nat → Bool) (W len : Nat) (c : Nat → Int) (ch : Nat → Nat → Int) (sg : Int) (o : Option Nat) : Int32 := if tal fit nx W len = true then (match o with
  | none => zI (sg * tvl (liv fit nx W len) nx c ch W len)
  | some r => nI (tlr (liv fit nx W len) nx c ch W len r)) else -5
theorem sumN_0 {f mm : Nat → Nat} : ∀ {t w : Nat}, sumN f mm 0 t w = 0 := by
  intro t
  induction t with
  | zero => intro w; rfl
  | succ t ih => intro w; simp only [sumN, Nat.zero_div, Nat.zero_mod]; exact ih
theorem ft1_lw {kd mm : Nat → Nat} {n gv : Nat} {toks : List Nat} {tot wt : Nat → Nat} {r w : Nat} (h : ft1 (opn kd mm n toks) tot wt gv r w = true) : lwf kd mm n w = true := by
  unfold ft1 opn at h
  rw [Bool.and_eq_true, Bool.and_eq_true] at h
  exact h.1.1
/-- things that are on at a reading: in all ways, or in some -/
def srb (lv : Nat → Bool) (mm : Nat → Nat) (W : Nat) (al : Bool) (t : Nat) : Bool := if al then !(exb (fun w => lv w && (dgt mm w t == 0)) W) else exb (fun w => lv w && !(dgt mm w t == 0)) W
section K25
variable {l : Launch} {g : cm_G} {I : cm_I} {L : cm_L} {n len h : Nat} {hr : Option Nat} {Q : cm_Post} {kd mm tk gl wt : Nat → Nat} {gv : Nat} {toks : List Nat}
theorem sum_zI {ta s : Nat} {f : Nat → Nat} {sg : Int} {x : Int32} (H : HI n kd mm I L) (hf : ∀ i, i < 16 → I ta i = nI (f i)) (hx : x = zI sg) (w : Nat) : x * sumS (I ta) mm s n w = zI (sg * (sumN f mm s n w : Nat)) := by
  rw [hx, sumS_nI H.2.1 H.1 hf w (Nat.le_refl _), ← zI_nat, zI_mul]
theorem c_X7_ofFewest {o : Option Nat} (hh : h < 7) (hl : len ≤ 12) (H : HI n kd mm I L) (HC : HH h tk gl gv toks I) (D : LD n kd mm tk gv toks len wt I L) (ho : ∀ r, o = some r → r < len)
  (hQ : ∀ I' L', FQ I I' L L' → Q (some (.int (tlA (ft1 (opn kd mm n toks) (sumN tk mm 15 n) wt gv) (nxt kd mm n) (wys mm n) len (fun _ => 0) (fun u v => (chI mm n 1 u v : Int)) 1 o))) I' L' (RR n hr (some (hA h))) (DD n)) : cm_Ex l g 6 0 0 mX7_ofFewest 0 [.ref 23, .int (optI o), .float 0] [] I L (RR n hr (some (hA h))) (DD n) Q := by
  obtain ⟨h13, h14, h28, h24, h25⟩ := id D
  refine x_aldn qX7_ofFewest_0 rfl trivial ?_
  refine x_cV0 (d' := 4) qX7_ofFewest_1 cX7_153 rfl ⟨_, rfl, rfl⟩ rfl rfl (Nat.le_of_ble_eq_true rfl) (Nat.le_of_ble_eq_true rfl) (by decide) ?_
  refine c_X7_reach hl h13 H h25 (fun w _ h => ft1_lw h) (fun L' ht hS hL' => ?_) (fun L' hf hL' => ?_)
  · refine x_if_ne_t (tgt := 10) qX7_ofFewest_4 (by omega) (by decide) ?_
    have H' : HI n kd mm I L' := HI_frame H (fun _ _ => rfl) (fun b hb => hL' b (by omega))
    refine x_aldn qX7_ofFewest_10 rfl trivial ?_
    refine x_getR qX7_ofFewest_11 fX7_54 rfl rfl ?_
    refine x_aldn qX7_ofFewest_14 rfl trivial ?_
    refine x_getR qX7_ofFewest_15 fX7_43 rfl rr_tl ?_
    refine x_getR qX7_ofFewest_18 fX7_76 (dd_hA hh).1 (rr_hA hh).1 ?_
    refine x_iconst (v := nI 0) qX7_ofFewest_21 rfl ?_
    refine x_iconst (v := nI 1) qX7_ofFewest_22 rfl ?_
    refine x_aldn qX7_ofFewest_23 rfl trivial ?_
    refine x_getR qX7_ofFewest_24 fX7_28 rfl rfl ?_
    refine x_cV4 (d' := 1) qX7_ofFewest_27 cX7_81 rfl ⟨_, rfl, rfl⟩ rfl rfl (Nat.le_of_ble_eq_true rfl) (Nat.le_of_ble_eq_true rfl) (by decide) ?_
    refine c_X3_sum (ta := hA h + 1) (sa := 29) (s := 0) rfl (by decide) (Or.inr rfl) (dd_hA hh).2.1 H' ?_
    generalize hI2 : (fun b i => if b = 29 ∧ i < wys mm n then nI 1 * sumS (I (hA h + 1)) mm 0 n i else I b i) = I2
    have f1 : ∀ b, b ≠ 29 → I2 b = I b := fun b h1 => by
      rw [← hI2]
      funext i
      show (if b = 29 ∧ i < wys mm n then _ else _) = _
      rw [if_neg (by omega)]
    have f2 : ∀ w, w < wys mm n → I2 29 w = zI 0 ∧ -50000 ≤ (0 : Int) ∧ (0 : Int) ≤ 50000 := fun w hw => by
      refine ⟨?_, by decide, by decide⟩
      rw [← hI2]
      show (if 29 = 29 ∧ w < wys mm n then _ else _) = _
      rw [if_pos ⟨rfl, hw⟩, sum_zI (sg := 1) H HC.1.1 (zI_nat 1).symm, sumN_0]
      rfl
    refine x_aldn qX7_ofFewest_30 rfl trivial ?_
    refine x_iconst (v := nI 1) qX7_ofFewest_31 rfl ?_
    refine x_cV1 (d' := 5) qX7_ofFewest_32 cX7_157 rfl ⟨_, rfl, rfl⟩ rfl rfl (Nat.le_of_ble_eq_true rfl) (Nat.le_of_ble_eq_true rfl) (by decide) ?_
    refine c_X7_findCheapest (cc := 1) (f := fun _ => 0) hl (by rw [f1 23 (by decide)]; exact h13) (by rw [f1 23 (by decide)]; exact h14) (HI_frame H' (fun b hb => f1 b (by omega)) (fun _ _ => rfl)) (Or.inr rfl) f2 hS ht (fun I3 L3 hr hI3 hL3 => ?_)
    have hq := hQ I3 L3 ⟨fun b h1 h2 => by rw [hI3 b (by omega) (by omega)]; exact f1 b (by omega), fun b hb => by rw [hL3 b (by omega)]; exact hL' b (by omega)⟩
    unfold tlA at hq
    rw [if_pos ht] at hq
    cases o with
    | none =>
      refine x_ist2 qX7_ofFewest_35 (by decide) rfl ?_
      refine x_ildn qX7_ofFewest_36 rfl ?_
      refine x_if_lt_t (tgt := 57) qX7_ofFewest_37 (by omega) (by decide) ?_
      refine x_ildn qX7_ofFewest_57 rfl ?_
      refine x_iret qX7_ofFewest_58 rfl rfl ?_
      rw [Int.one_mul] at hq
      exact hq
    | some r =>
      have hrl := ho r rfl
      have e : optI (some r) = nI r := rfl
      rw [e]
      refine x_ist2 qX7_ofFewest_35 (by decide) rfl ?_
      refine x_ildn qX7_ofFewest_36 rfl ?_
      refine x_if_lt_nf (tgt := 57) qX7_ofFewest_37 (by omega) (by omega) ?_
      refine x_ildn qX7_ofFewest_40 rfl ?_
      refine x_aldn qX7_ofFewest_41 rfl trivial ?_
      refine x_getIe qX7_ofFewest_42 fX7_47 rfl ((congrFun (hI3 23 (by decide) (by decide)) 13).trans ((congrFun (f1 23 (by decide)) 13).trans h13)) ?_
      refine x_icmp_ge_nf (tgt := 57) qX7_ofFewest_45 (by omega) (by omega) (by omega) (by omega) ?_
      refine x_aldn qX7_ofFewest_48 rfl trivial ?_
      refine x_getR qX7_ofFewest_49 fX7_40 rfl rfl ?_
      refine x_ildn qX7_ofFewest_52 rfl ?_
      refine x_ialde qX7_ofFewest_53 dd_33 rfl (by omega) (by decide) (hr r hrl) ?_
      refine x_goto (tgt := 58) qX7_ofFewest_54 (by omega) ?_
      refine x_iret qX7_ofFewest_58 rfl rfl ?_
      exact hq
  · refine x_if_ne_f (tgt := 10) qX7_ofFewest_4 (by omega) (by decide) ?_
    refine x_bipush (v := -5) qX7_ofFewest_7 rfl ?_
    refine x_iret qX7_ofFewest_9 rfl rfl ?_
    have := hQ I L' ⟨fun _ _ _ => rfl, fun b hb => hL' b (by omega)⟩
    unfold tlA at this
    rw [hf] at this
    exact this
theorem c_X7_ofGladdest {o : Option Nat} (hh : h < 7) (hl : len ≤ 12) (H : HI n kd mm I L) (HC : HH h tk gl gv toks I) (D : LD n kd mm tk gv toks len wt I L) (ho : ∀ r, o = some r → r < len)
  (hQ : ∀ I' L', FQ I I' L L' → Q (some (.int (tlA (ft1 (opn kd mm n toks) (sumN tk mm 15 n) wt gv) (nxt kd mm n) (wys mm n) len (fun w => -1 * (sumN gl mm 15 n w : Nat)) (fun u v => (chI mm n 0 u v : Int)) (-1) o))) I' L' (RR n hr (some (hA h))) (DD n)) : cm_Ex l g 6 0 0 mX7_ofGladdest 0 [.ref 23, .int (optI o), .float 0] [] I L (RR n hr (some (hA h))) (DD n) Q := by
  obtain ⟨h13, h14, h28, h24, h25⟩ := id D
  refine x_aldn qX7_ofGladdest_0 rfl trivial ?_
  refine x_cV0 (d' := 4) qX7_ofGladdest_1 cX7_153 rfl ⟨_, rfl, rfl⟩ rfl rfl (Nat.le_of_ble_eq_true rfl) (Nat.le_of_ble_eq_true rfl) (by decide) ?_
  refine c_X7_reach hl h13 H h25 (fun w _ h => ft1_lw h) (fun L' ht hS hL' => ?_) (fun L' hf hL' => ?_)
  · refine x_if_ne_t (tgt := 10) qX7_ofGladdest_4 (by omega) (by decide) ?_
    have H' : HI n kd mm I L' := HI_frame H (fun _ _ => rfl) (fun b hb => hL' b (by omega))
    refine x_aldn qX7_ofGladdest_10 rfl trivial ?_
    refine x_getR qX7_ofGladdest_11 fX7_54 rfl rfl ?_
    refine x_aldn qX7_ofGladdest_14 rfl trivial ?_
    refine x_getR qX7_ofGladdest_15 fX7_43 rfl rr_tl ?_
    refine x_getR qX7_ofGladdest_18 fX7_160 (dd_hA hh).1 (rr_hA hh).2.1 ?_
    refine x_bipush (v := nI 15) qX7_ofGladdest_21 rfl ?_
    refine x_iconst (v := -1) qX7_ofGladdest_23 rfl ?_
    refine x_aldn qX7_ofGladdest_24 rfl trivial ?_
    refine x_getR qX7_ofGladdest_25 fX7_28 rfl rfl ?_
    refine x_cV4 (d' := 1) qX7_ofGladdest_28 cX7_81 rfl ⟨_, rfl, rfl⟩ rfl rfl (Nat.le_of_ble_eq_true rfl) (Nat.le_of_ble_eq_true rfl) (by decide) ?_
    refine c_X3_sum (ta := hA h + 2) (sa := 29) (s := 15) rfl (by decide) (Or.inr rfl) (dd_hA hh).2.2.1 H' ?_
    generalize hI2 : (fun b i => if b = 29 ∧ i < wys mm n then -1 * sumS (I (hA h + 2)) mm 15 n i else I b i) = I2
    have f1 : ∀ b, b ≠ 29 → I2 b = I b := fun b h1 => by
      rw [← hI2]
      funext i
      show (if b = 29 ∧ i < wys mm n then _ else _) = _
      rw [if_neg (by omega)]
    have f2 : ∀ w, w < wys mm n → I2 29 w = zI (-1 * (sumN gl mm 15 n w : Nat)) ∧ -50000 ≤ (-1 * (sumN gl mm 15 n w : Nat) : Int) ∧ (-1 * (sumN gl mm 15 n w : Nat) : Int) ≤ 50000 := fun w hw => by
      have hb := sumN_le (s := 15) H.2.1 H.1 (fun i hi => (HC.2.2.2.1 i hi).2) w (Nat.le_refl n)
      have hn4 := H.1
      refine ⟨?_, by omega, by omega⟩
      rw [← hI2]
      show (if 29 = 29 ∧ w < wys mm n then _ else _) = _
      rw [if_pos ⟨rfl, hw⟩, sum_zI (x := -1) (sg := -1) H HC.1.2.1 rfl]
    refine x_aldn qX7_ofGladdest_31 rfl trivial ?_
    refine x_iconst (v := nI 0) qX7_ofGladdest_32 rfl ?_
    refine x_cV1 (d' := 5) qX7_ofGladdest_33 cX7_157 rfl ⟨_, rfl, rfl⟩ rfl rfl (Nat.le_of_ble_eq_true rfl) (Nat.le_of_ble_eq_true rfl) (by decide) ?_
    refine c_X7_findCheapest (cc := 0) (f := fun w => -1 * (sumN gl mm 15 n w : Nat)) hl (by rw [f1 23 (by decide)]; exact h13) (by rw [f1 23 (by decide)]; exact h14) (HI_frame H' (fun b hb => f1 b (by omega)) (fun _ _ => rfl)) (Or.inl rfl) f2 hS ht (fun I3 L3 hr hI3 hL3 => ?_)
    have hq := hQ I3 L3 ⟨fun b h1 h2 => by rw [hI3 b (by omega) (by omega)]; exact f1 b (by omega), fun b hb => by rw [hL3 b (by omega)]; exact hL' b (by omega)⟩
    unfold tlA at hq
    rw [if_pos ht] at hq
    cases o with
    | none =>
      refine x_ist2 qX7_ofGladdest_36 (by decide) rfl ?_
      refine x_ildn qX7_ofGladdest_37 rfl ?_
      refine x_if_lt_t (tgt := 58) qX7_ofGladdest_38 (by omega) (by decide) ?_
      refine x_ildn qX7_ofGladdest_58 rfl ?_
      refine x_ineg qX7_ofGladdest_59 ?_
      refine x_iret qX7_ofGladdest_60 rfl rfl ?_
      rw [zI_neg, ← Int.neg_one_mul]
      exact hq
    | some r =>
      have hrl := ho r rfl
      have e : optI (some r) = nI r := rfl
      rw [e]
      refine x_ist2 qX7_ofGladdest_36 (by decide) rfl ?_
      refine x_ildn qX7_ofGladdest_37 rfl ?_
      refine x_if_lt_nf (tgt := 58) qX7_ofGladdest_38 (by omega) (by omega) ?_
      refine x_ildn qX7_ofGladdest_41 rfl ?_
      refine x_aldn qX7_ofGladdest_42 rfl trivial ?_
      refine x_getIe qX7_ofGladdest_43 fX7_47 rfl ((congrFun (hI3 23 (by decide) (by decide)) 13).trans ((congrFun (f1 23 (by decide)) 13).trans h13)) ?_
      refine x_icmp_ge_nf (tgt := 58) qX7_ofGladdest_46 (by omega) (by omega) (by omega) (by omega) ?_
      refine x_aldn qX7_ofGladdest_49 rfl trivial ?_
      refine x_getR qX7_ofGladdest_50 fX7_40 rfl rfl ?_
      refine x_ildn qX7_ofGladdest_53 rfl ?_
      refine x_ialde qX7_ofGladdest_54 dd_33 rfl (by omega) (by decide) (hr r hrl) ?_
      refine x_goto (tgt := 60) qX7_ofGladdest_55 (by omega) ?_
      refine x_iret qX7_ofGladdest_60 rfl rfl ?_
      exact hq
  · refine x_if_ne_f (tgt := 10) qX7_ofGladdest_4 (by omega) (by decide) ?_
    refine x_bipush (v := -5) qX7_ofGladdest_7 rfl ?_
    refine x_iret qX7_ofGladdest_9 rfl rfl ?_
    have := hQ I L' ⟨fun _ _ _ => rfl, fun b hb => hL' b (by omega)⟩
    unfold tlA at this
    rw [hf] at this
    exact this
theorem c_X7_partOf {t b : Nat} (hh : h < 7) (ht4 : t < 4) (hb : b = 0 ∨ b = 1) (hl : len ≤ 12) (H : HI n kd mm I L) (HC : HH h tk gl gv toks I) (D : LD n kd mm tk gv toks len wt I L)
  (hQ : ∀ I' L', FQ I I' L L' → Q (some (.int (tlA (ft1 (opn kd mm n toks) (sumN tk mm 15 n) wt gv) (nxt kd mm n) (wys mm n) len (fun w => (1 - 2 * (b : Int)) * (sumN tk mm (2 ^ t) n w : Nat)) (fun u v => (chI mm n 0 u v : Int)) (1 - 2 * (b : Int)) none))) I' L' (RR n hr (some (hA h))) (DD n)) : cm_Ex l g 6 0 0 mX7_partOf 0 [.ref 23, .int (nI t), .int (nI b), .float 0] [] I L (RR n hr (some (hA h))) (DD n) Q := by
  obtain ⟨h13, h14, h28, h24, h25⟩ := id D
  have h2t : 2 ^ t < 16 := Nat.pow_lt_pow_right (show 1 < 2 by decide) ht4
  refine x_aldn qX7_partOf_0 rfl trivial ?_
  refine x_cV0 (d' := 4) qX7_partOf_1 cX7_153 rfl ⟨_, rfl, rfl⟩ rfl rfl (Nat.le_of_ble_eq_true rfl) (Nat.le_of_ble_eq_true rfl) (by decide) ?_
  refine c_X7_reach hl h13 H h25 (fun w _ h => ft1_lw h) (fun L' ht hS hL' => ?_) (fun L' hf hL' => ?_)
  · refine x_if_ne_t (tgt := 10) qX7_partOf_4 (by omega) (by decide) ?_
    have H' : HI n kd mm I L' := HI_frame H (fun _ _ => rfl) (fun b hb => hL' b (by omega))
    have main : ∀ x : Int32, x = zI (1 - 2 * (b : Int)) → cm_Ex l g 6 0 0 mX7_partOf 20 [.ref 23, .int (nI t), .int (nI b), .int x] [] I L' (RR n hr (some (hA h))) (DD n) Q := by
      intro x hx
      refine x_aldn qX7_partOf_20 rfl trivial ?_
      refine x_getR qX7_partOf_21 fX7_54 rfl rfl ?_
      refine x_aldn qX7_partOf_24 rfl trivial ?_
      refine x_getR qX7_partOf_25 fX7_43 rfl rr_tl ?_
      refine x_getR qX7_partOf_28 fX7_76 (dd_hA hh).1 (rr_hA hh).1 ?_
      refine x_iconst (v := nI 1) qX7_partOf_31 rfl ?_
      refine x_ildn qX7_partOf_32 rfl ?_
      refine x_ishl qX7_partOf_33 (x_topI (b := nI (2 ^ t)) (by rw [ib_shl (by omega) (by omega), Nat.one_mul]) ?_)
      refine x_ildn qX7_partOf_34 rfl ?_
      refine x_aldn qX7_partOf_35 rfl trivial ?_
      refine x_getR qX7_partOf_36 fX7_28 rfl rfl ?_
      refine x_cV4 (d' := 1) qX7_partOf_39 cX7_81 rfl ⟨_, rfl, rfl⟩ rfl rfl (Nat.le_of_ble_eq_true rfl) (Nat.le_of_ble_eq_true rfl) (by decide) ?_
      refine c_X3_sum (ta := hA h + 1) (sa := 29) (s := 2 ^ t) rfl h2t (Or.inr rfl) (dd_hA hh).2.1 H' ?_
      generalize hI2 : (fun b i => if b = 29 ∧ i < wys mm n then x * sumS (I (hA h + 1)) mm (2 ^ t) n i else I b i) = I2
      have f1 : ∀ b, b ≠ 29 → I2 b = I b := fun b h1 => by
        rw [← hI2]
        funext i
        show (if b = 29 ∧ i < wys mm n then _ else _) = _
        rw [if_neg (by omega)]
      have f2 : ∀ w, w < wys mm n → I2 29 w = zI ((1 - 2 * (b : Int)) * (sumN tk mm (2 ^ t) n w : Nat)) ∧ -50000 ≤ ((1 - 2 * (b : Int)) * (sumN tk mm (2 ^ t) n w : Nat) : Int) ∧ ((1 - 2 * (b : Int)) * (sumN tk mm (2 ^ t) n w : Nat) : Int) ≤ 50000 := fun w hw => by
        have hb2 := sumN_le (s := 2 ^ t) H.2.1 H.1 (fun i hi => (HC.2.2.2.1 i hi).1) w (Nat.le_refl n)
        have hn4 := H.1
        refine ⟨?_, ?_, ?_⟩
        · rw [← hI2]
          show (if 29 = 29 ∧ w < wys mm n then _ else _) = _
          rw [if_pos ⟨rfl, hw⟩, sum_zI (sg := 1 - 2 * (b : Int)) H HC.1.1 hx]
        · rcases hb with rfl | rfl <;> simp <;> omega
        · rcases hb with rfl | rfl <;> simp <;> omega
      refine x_ildn qX7_partOf_42 rfl ?_
      refine x_aldn qX7_partOf_43 rfl trivial ?_
      refine x_iconst (v := nI 0) qX7_partOf_44 rfl ?_
      refine x_cV1 (d' := 5) qX7_partOf_45 cX7_157 rfl ⟨_, rfl, rfl⟩ rfl rfl (Nat.le_of_ble_eq_true rfl) (Nat.le_of_ble_eq_true rfl) (by decide) ?_
      refine c_X7_findCheapest (cc := 0) (f := fun w => (1 - 2 * (b : Int)) * (sumN tk mm (2 ^ t) n w : Nat)) hl (by rw [f1 23 (by decide)]; exact h13) (by rw [f1 23 (by decide)]; exact h14) (HI_frame H' (fun b hb => f1 b (by omega)) (fun _ _ => rfl)) (Or.inl rfl) f2 hS ht (fun I3 L3 hr hI3 hL3 => ?_)
      have hq := hQ I3 L3 ⟨fun b h1 h2 => by rw [hI3 b (by omega) (by omega)]; exact f1 b (by omega), fun b hb => by rw [hL3 b (by omega)]; exact hL' b (by omega)⟩
      unfold tlA at hq
      rw [if_pos ht] at hq
      refine x_imul qX7_partOf_48 ?_
      refine x_iret qX7_partOf_49 rfl rfl ?_
      rw [hx, zI_mul]
      exact hq
    rcases hb with rfl | rfl
    · refine x_ildn qX7_partOf_10 rfl ?_
      refine x_if_eq_t (tgt := 18) qX7_partOf_11 (by omega) (by decide) ?_
      refine x_iconst (v := nI 1) qX7_partOf_18 rfl ?_
      refine x_ist3 qX7_partOf_19 (by decide) rfl ?_
      exact main _ rfl
    · refine x_ildn qX7_partOf_10 rfl ?_
      refine x_if_eq_f (tgt := 18) qX7_partOf_11 (by omega) (by decide) ?_
      refine x_iconst (v := -1) qX7_partOf_14 rfl ?_
      refine x_goto (tgt := 19) qX7_partOf_15 (by omega) ?_
      refine x_ist3 qX7_partOf_19 (by decide) rfl ?_
      exact main _ rfl
  · refine x_if_ne_f (tgt := 10) qX7_partOf_4 (by omega) (by decide) ?_
    refine x_bipush (v := -5) qX7_partOf_7 rfl ?_
    refine x_iret qX7_partOf_9 rfl rfl ?_
    have := hQ I L' ⟨fun _ _ _ => rfl, fun b hb => hL' b (by omega)⟩
    unfold tlA at this
    rw [hf] at this
    exact this
end K25
