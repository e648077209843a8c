/-! Telling: lay, fitsAt, howManyFit -/
/-- what some things take in a way -/
def sumN (f mm : Nat → Nat) (s : Nat) : Nat → Nat → Nat
  | 0, _ => 0
  | t + 1, w => if s / 2 ^ t % 2 = 1 then sumN f mm s t w + f (4 * t + dgt mm w t) else sumN f mm s t w
theorem sumS_nI {f mm : Nat → Nat} {F : Nat → Int32} {s n : Nat} (ho : okm mm n) (h4 : n ≤ 4) (hF : ∀ i, i < 16 → F i = nI (f i)) (w : Nat) : ∀ {t : Nat}, t ≤ n → sumS F mm s t w = nI (sumN f mm s t w) := by
  intro t
  induction t with
  | zero => intro _; rfl
  | succ t ih =>
    intro ht
    have h1 := dgt_lt ho (show t < n by omega) w
    have h2 := (ho t (by omega)).2
    simp only [sumS, sumN]
    split
    · rw [ih (by omega), hF _ (by omega), nI_add]
    · exact ih (by omega)
theorem sumN_le {f mm : Nat → Nat} {s n : Nat} (ho : okm mm n) (h4 : n ≤ 4) (hf : ∀ i, i < 16 → f i ≤ 999) (w : Nat) : ∀ {t : Nat}, t ≤ n → sumN f mm s t w ≤ 999 * t := by
  intro t
  induction t with
  | zero => intro _; exact Nat.le_refl _
  | succ t ih =>
    intro ht
    have h1 := dgt_lt ho (show t < n by omega) w
    have h2 := (ho t (by omega)).2
    have h3 := ih (by omega)
    have h4 := hf (4 * t + dgt mm w t) (by omega)
    simp only [sumN]
    split <;> omega
/-- some bar holds -/
def brd (n : Nat) (mm : Nat → Nat) (toks : List Nat) (r w : Nat) : Bool := exb (bev (tst n mm w r) toks (0, fun _ => false)).2 (bev (tst n mm w r) toks (0, fun _ => false)).1
def opn (kd mm : Nat → Nat) (n : Nat) (toks : List Nat) (r w : Nat) : Bool := lwf kd mm n w && !brd n mm toks r w
/-- what fits, readings being whole parts of so many; a secret thing may take more -/
def ftt (op : Nat → Nat → Bool) (tot wt : Nat → Nat) (gv c s r w : Nat) : Bool := op r w && (nearZ (tot w) (wt r / c * c : Nat) ((gv : Int) + c - 1) || (decide (0 < s) && nearZ (tot w + s) (wt r / c * c : Nat) ((gv : Int) + c - 1)))
def ft1 (op : Nat → Nat → Bool) (tot wt : Nat → Nat) (gv r w : Nat) : Bool := op r w && nearZ (tot w) (wt r) gv
theorem ft1_eq {op : Nat → Nat → Bool} {tot wt : Nat → Nat} {gv r w : Nat} : ftt op tot wt gv 1 0 r w = ft1 op tot wt gv r w := by
  have e : ((gv : Int) + ((1 : Nat) : Int) - 1) = gv := by omega
  simp only [ftt, ft1, e, Nat.div_one, Nat.mul_one, Nat.lt_irrefl, decide_false, Bool.false_and, Bool.or_false]
/-- a house as it stands -/
def HH (h : Nat) (tk gl : Nat → Nat) (gv : Nat) (toks : List Nat) (I : cm_I) : Prop := HC h tk gl gv toks I ∧ toks.length ≤ 100 ∧ okr toks 0 ∧ (∀ i, i < 16 → tk i ≤ 999 ∧ gl i ≤ 999) ∧ gv ≤ 999
/-- a meter -/
def MT (k len : Nat) (wt : Nat → Nat) (I : cm_I) : Prop := I k 1 = nI len ∧ len ≤ 12 ∧ ∀ i, i < len → I (k + 1) i = nI (wt i) ∧ wt i ≤ 9999
/-- the telling's table is laid -/
def LD (n : Nat) (kd mm tk : Nat → Nat) (gv : Nat) (toks : List Nat) (len : Nat) (wt : Nat → Nat) (I : cm_I) (L : cm_L) : Prop :=
  I 23 13 = nI len ∧ I 23 14 = nI (wys mm n) ∧ (∀ w, w < wys mm n → I 28 w = zI (sumN tk mm 15 n w : Nat)) ∧
  SBs 24 len (wys mm n) (opn kd mm n toks) L ∧ SBs 25 len (wys mm n) (ft1 (opn kd mm n toks) (sumN tk mm 15 n) wt gv) L
theorem HH_fr {h : Nat} {tk gl : Nat → Nat} {gv : Nat} {toks : List Nat} {I I' : cm_I} (H : HH h tk gl gv toks I) (hI : ∀ b, hA h ≤ b → b ≤ hA h + 3 → I' b = I b) : HH h tk gl gv toks I' := by
  obtain ⟨⟨a1, a2, a3, a4, a5, a6⟩, b⟩ := H
  refine ⟨⟨?_, ?_, ?_, ?_, ?_, ?_⟩, b⟩
  · rw [hI _ (by omega) (by omega)]; exact a1
  · rw [hI _ (by omega) (by omega)]; exact a2
  · rw [hI _ (by omega) (by omega)]; exact a3
  · rw [hI _ (by omega) (by omega)]; exact a4
  · rw [hI _ (by omega) (by omega)]; exact a5
  · rw [hI _ (by omega) (by omega)]; exact a6
theorem MT_fr {k len : Nat} {wt : Nat → Nat} {I I' : cm_I} (M : MT k len wt I) (h1 : I' k = I k) (h2 : I' (k + 1) = I (k + 1)) : MT k len wt I' := by
  obtain ⟨a, b, c⟩ := M
  exact ⟨by rw [h1]; exact a, b, by rw [h2]; exact c⟩
theorem hA_c {h : Nat} (hh : h < 7) : h < 6 ∧ hA h = 37 + 4 * h ∨ h = 6 ∧ hA h = 11 := by
  unfold hA
  by_cases h6 : h < 6
  · left; rw [if_pos h6]; exact ⟨h6, rfl⟩
  · right; rw [if_neg h6]; exact ⟨by omega, rfl⟩
section K24
variable {l : Launch} {g : cm_G} {I : cm_I} {L : cm_L} {n len h : Nat} {hr tl : Option Nat} {Q : cm_Post} {kd mm tk gl wt : Nat → Nat} {gv : Nat} {toks : List Nat}
theorem c_X7_lay (hh : h < 7) (H : HI n kd mm I L) (HC : HH h tk gl gv toks I) (M : MT 15 len wt I)
  (hQ : ∀ I' L', LD n kd mm tk gv toks len wt I' L' → (∀ b, b ≠ 23 → b ≠ 28 → I' b = I b) → (∀ b, b ≠ 24 → b ≠ 25 → b ≠ 27 → L' b = L b) → Q none I' L' (RR n hr (some (hA h))) (DD n)) : cm_Ex l g 5 0 0 mX7_lay 0 [.ref 23, .ref (hA h), .float 0] [] I L (RR n hr tl) (DD n) Q := by
  have hW : wys mm n ≤ 64 := H.2.2.2.1
  have hW0 := wys1 H.2.1
  have hlen : len ≤ 12 := M.2.1
  have hac := hA_c hh
  refine x_aldn qX7_lay_0 rfl trivial ?_
  refine x_aldn qX7_lay_1 rfl trivial ?_
  refine x_putR qX7_lay_2 fX7_43 (Or.inl rfl) rfl (cm_rvs _) ?_
  refine x_memR rr_u_tl ?_
  refine x_aldn qX7_lay_5 rfl trivial ?_
  refine x_aldn qX7_lay_6 rfl trivial ?_
  refine x_getR qX7_lay_7 fX7_58 rfl rfl ?_
  refine x_getIe qX7_lay_10 fX7_62 (dd_M (Or.inl rfl)).1 M.1 ?_
  refine x_bipush (v := nI 12) qX7_lay_13 rfl ?_
  refine x_mmin qX7_lay_15 cX7_67 smJ9_min mi_1 kmJ9_min (Nat.le_of_ble_eq_true rfl) (by decide) ?_
  have em : (if (nI 12 : Int32) < nI len then nI 12 else nI len) = nI len := by
    by_cases e : (nI 12 : Int32) < nI len
    · have := (nI_ltI (by decide) (by omega)).mp e; omega
    · rw [if_neg e]
  rw [em]
  refine x_putI qX7_lay_18 fX7_47 (Or.inl rfl) rfl ?_
  refine x_aldn qX7_lay_21 rfl trivial ?_
  refine x_aldn qX7_lay_22 rfl trivial ?_
  refine x_getR qX7_lay_23 fX7_54 rfl rfl ?_
  refine x_getIe qX7_lay_26 fX7_73 rfl ((congrFun (cm_u_ne (by decide)) 7).trans H.2.2.2.2.2.1) ?_
  refine x_bipush (v := nI 64) qX7_lay_29 rfl ?_
  refine x_mmin qX7_lay_31 cX7_67 smJ9_min mi_1 kmJ9_min (Nat.le_of_ble_eq_true rfl) (by decide) ?_
  have em2 : (if (nI 64 : Int32) < nI (wys mm n) then nI 64 else nI (wys mm n)) = nI (wys mm n) := by
    by_cases e : (nI 64 : Int32) < nI (wys mm n)
    · have := (nI_ltI (by decide) (by omega)).mp e; omega
    · rw [if_neg e]
  rw [em2]
  have H1 : HI n kd mm (cm_u (cm_u I 23 13 (nI len)) 23 14 (nI (wys mm n))) L := HI_frame H (fun b hb => by rw [cm_u_ne (by omega), cm_u_ne (by omega)]) (fun _ _ => rfl)
  refine x_putI qX7_lay_34 fX7_51 (Or.inl rfl) rfl ?_
  refine x_aldn qX7_lay_37 rfl trivial ?_
  refine x_getR qX7_lay_38 fX7_54 rfl rfl ?_
  refine x_aldn qX7_lay_41 rfl trivial ?_
  refine x_getR qX7_lay_42 fX7_43 rfl rr_tl ?_
  refine x_getR qX7_lay_45 fX7_76 (dd_hA hh).1 (rr_hA hh).1 ?_
  refine x_bipush (v := nI 15) qX7_lay_48 rfl ?_
  refine x_iconst (v := nI 1) qX7_lay_50 rfl ?_
  refine x_aldn qX7_lay_51 rfl trivial ?_
  refine x_getR qX7_lay_52 fX7_24 rfl rfl ?_
  refine x_cV4 (d' := 1) qX7_lay_55 cX7_81 rfl ⟨_, rfl, rfl⟩ rfl rfl (Nat.le_of_ble_eq_true rfl) (Nat.le_of_ble_eq_true rfl) (by decide) ?_
  refine c_X3_sum (ta := hA h + 1) (sa := 28) (s := 15) rfl (by decide) (Or.inl rfl) (dd_hA hh).2.1 H1 ?_
  generalize hI2 : (fun b i => if b = 28 ∧ i < wys mm n then nI 1 * sumS (cm_u (cm_u I 23 13 (nI len)) 23 14 (nI (wys mm n)) (hA h + 1)) mm 15 n i else cm_u (cm_u I 23 13 (nI len)) 23 14 (nI (wys mm n)) b i) = I2
  have f1 : ∀ b, b ≠ 23 → b ≠ 28 → I2 b = I b := fun b h1 h2 => by
    rw [← hI2]
    funext i
    show (if b = 28 ∧ i < wys mm n then _ else _) = _
    rw [if_neg (by omega), cm_u_ne h1, cm_u_ne h1]
  have f2 : I2 23 13 = nI len := by
    rw [← hI2]
    show (if 23 = 28 ∧ _ then _ else _) = _
    rw [if_neg (by omega)]
    rfl
  have f3 : I2 23 14 = nI (wys mm n) := by
    rw [← hI2]
    show (if 23 = 28 ∧ _ then _ else _) = _
    rw [if_neg (by omega)]
    rfl
  have f4 : ∀ w, w < wys mm n → I2 28 w = zI (sumN tk mm 15 n w : Nat) := fun w hw => by
    rw [← hI2]
    show (if 28 = 28 ∧ w < wys mm n then _ else _) = _
    rw [if_pos ⟨rfl, hw⟩, cm_u_ne (by omega), cm_u_ne (by omega), sumS_nI H.2.1 H.1 HC.1.1 w (Nat.le_refl _), pk_mul, Nat.one_mul, zI_nat]
  have HC2 : HH h tk gl gv toks I2 := HH_fr HC (fun b h1 h2 => f1 b (by omega) (by omega))
  have M2 : MT 15 len wt I2 := MT_fr M (f1 15 (by decide) (by decide)) (f1 16 (by decide) (by decide))
  have loop : ∀ m r L', r + m = len → SBs 24 r (wys mm n) (opn kd mm n toks) L' → SBs 25 r (wys mm n) (ft1 (opn kd mm n toks) (sumN tk mm 15 n) wt gv) L' → (∀ b, b ≠ 24 → b ≠ 25 → b ≠ 27 → L' b = L b) → cm_Ex l g 5 0 0 mX7_lay 60 [.ref 23, .ref (hA h), .int (nI r)] [] I2 L' (RR n hr (some (hA h))) (DD n) Q := by
    intro m
    induction m with
    | zero =>
      intro r L' hr0 h24 h25 hL'
      have e : r = len := by omega
      subst e
      refine x_ildn qX7_lay_60 rfl ?_
      refine x_aldn qX7_lay_61 rfl trivial ?_
      refine x_getIe qX7_lay_62 fX7_47 rfl f2 ?_
      refine x_icmp_ge_nt (tgt := 138) qX7_lay_65 (by omega) (by omega) (by omega) (by omega) ?_
      refine x_vret qX7_lay_138 rfl ?_
      exact hQ I2 L' ⟨f2, f3, f4, h24, h25⟩ f1 hL'
    | succ m ih =>
      intro r L' hr0 h24 h25 hL'
      have H' : HI n kd mm I2 L' := HI_frame H (fun b hb => f1 b (by omega) (by omega)) (fun b hb => hL' b (by omega) (by omega) (by omega))
      have hgv : I2 (hA h) 5 = zI gv := by rw [HC2.1.2.2.2.2.2, zI_nat]
      have hwt := M2.2.2 r (by omega)
      refine x_ildn qX7_lay_60 rfl ?_
      refine x_aldn qX7_lay_61 rfl trivial ?_
      refine x_getIe qX7_lay_62 fX7_47 rfl f2 ?_
      refine x_icmp_ge_nf (tgt := 138) qX7_lay_65 (by omega) (by omega) (by omega) (by omega) ?_
      refine x_aldn qX7_lay_68 rfl trivial ?_
      refine x_getR qX7_lay_69 fX7_9 rfl rfl ?_
      refine x_ildn qX7_lay_72 rfl ?_
      refine x_aldn qX7_lay_73 rfl trivial ?_
      refine x_getR qX7_lay_74 fX7_54 rfl rfl ?_
      refine x_cV0 (d' := 1) qX7_lay_77 cX7_85 rfl ⟨_, rfl, rfl⟩ rfl rfl (Nat.le_of_ble_eq_true rfl) (Nat.le_of_ble_eq_true rfl) (by decide) ?_
      refine c_X3_lawfulWays ?_
      refine x_aldn qX7_lay_80 rfl trivial ?_
      refine x_getR qX7_lay_81 fX7_43 rfl rr_tl ?_
      refine x_aldn qX7_lay_84 rfl trivial ?_
      refine x_getR qX7_lay_85 fX7_54 rfl rfl ?_
      refine x_ildn qX7_lay_88 rfl ?_
      refine x_aldn qX7_lay_89 rfl trivial ?_
      refine x_getR qX7_lay_90 fX7_21 rfl rfl ?_
      refine x_cV3 (d' := 4) qX7_lay_93 cX7_89 (dd_hA hh).1 ⟨_, rfl, rfl⟩ rfl rfl (Nat.le_of_ble_eq_true rfl) (Nat.le_of_ble_eq_true rfl) (by decide) ?_
      refine c_X1_barred ⟨rfl, rfl, rfl, rfl⟩ hh H' HC2.1.2.2.1 HC2.2.1 HC2.1.2.2.2.1 HC2.2.2.1 (by omega) (fun v L'' hv hL'' => ?_)
      have hop : SB (L' 1 5 &&& (v ^^^ -1)) (wys mm n) (opn kd mm n toks r) := SB_and (SB_law H') (fun w hw => by rw [tb_not (by omega), hv w hw]; rfl)
      have a24 : SBs 24 r (wys mm n) (opn kd mm n toks) L'' := fun i hi => by rw [hL'' 24 (by decide)]; exact h24 i hi
      have a25 : SBs 25 r (wys mm n) (ft1 (opn kd mm n toks) (sumN tk mm 15 n) wt gv) L'' := fun i hi => by rw [hL'' 25 (by decide)]; exact h25 i hi
      refine x_ldc2 qX7_lay_96 vX7_93 ?_
      refine x_lxor qX7_lay_99 ?_
      refine x_land qX7_lay_100 ?_
      refine x_last qX7_lay_101 dd_24 rfl (by omega) (by decide) ?_
      refine x_aldn qX7_lay_102 rfl trivial ?_
      refine x_getR qX7_lay_103 fX7_15 rfl rfl ?_
      refine x_ildn qX7_lay_106 rfl ?_
      refine x_aldn qX7_lay_107 rfl trivial ?_
      refine x_aldn qX7_lay_108 rfl trivial ?_
      refine x_getR qX7_lay_109 fX7_24 rfl rfl ?_
      refine x_ildn qX7_lay_112 rfl ?_
      refine x_aldn qX7_lay_113 rfl trivial ?_
      refine x_getR qX7_lay_114 fX7_58 rfl rfl ?_
      refine x_ildn qX7_lay_117 rfl ?_
      refine x_cV1 (d' := 2) qX7_lay_118 cX7_95 (dd_M (Or.inl rfl)).1 ⟨_, rfl, rfl⟩ rfl rfl (Nat.le_of_ble_eq_true rfl) (Nat.le_of_ble_eq_true rfl) (by decide) ?_
      refine c_X5_wattsAt (Or.inl rfl) M2.1 hlen (by omega) ?_
      rw [hwt.1, ← zI_nat]
      refine x_aldn qX7_lay_121 rfl trivial ?_
      refine x_getR qX7_lay_122 fX7_43 rfl rr_tl ?_
      refine x_getIe qX7_lay_125 fX7_99 (dd_hA hh).1 hgv ?_
      refine x_cV4 (d' := 2) qX7_lay_128 cX7_102 rfl ⟨_, rfl, rfl⟩ rfl rfl (Nat.le_of_ble_eq_true rfl) (Nat.le_of_ble_eq_true rfl) (by decide) ?_
      refine c_X7_near (r := r) (aim := (wt r : Nat)) (gv := (gv : Nat)) (f := fun w => (sumN tk mm 15 n w : Nat)) (Or.inl rfl) (by omega) hW f3 (fun w hw => ⟨f4 w hw, ?_⟩) (by have := hwt.2; omega) (by have := hwt.2; omega) (by have := HC2.2.2.2.2; omega) (by have := HC2.2.2.2.2; omega) (fun v2 hv2 => ?_)
      · have := sumN_le (s := 15) H.2.1 H.1 (fun i hi => (HC2.2.2.2.1 i hi).1) w (Nat.le_refl n)
        have hn4 := H.1
        omega
      · refine x_last qX7_lay_131 dd_25 rfl (by omega) (by decide) ?_
        refine x_iinc2 qX7_lay_132 (by decide) (cm_inc _) rfl ?_
        refine x_goto (tgt := 60) qX7_lay_135 (by omega) ?_
        refine ih (r + 1) _ (by omega) (SBs_ne (SBs_u a24 hop) (by decide)) (SBs_u (SBs_ne a25 (by decide)) ?_) (fun b h1 h2 h3 => by rw [cm_u_ne h2, cm_u_ne h1, hL'' b h3]; exact hL' b h1 h2 h3)
        refine SB_ext hv2 (fun w hw => ?_)
        have e : cm_u L'' 24 r (L' 1 5 &&& (v ^^^ -1)) 24 r = (L' 1 5 &&& (v ^^^ -1)) := by rw [cm_uu]; show (if r = r then _ else _) = _; rw [if_pos rfl]
        rw [e, SB_at hW hop hw]
        rfl
  refine x_iconst (v := nI 0) qX7_lay_58 rfl ?_
  refine x_ist2 qX7_lay_59 (by decide) rfl ?_
  exact loop len 0 L (by omega) (fun r hr => by omega) (fun r hr => by omega) (fun _ _ _ _ => rfl)
theorem c_X7_fitsAt {r w : Nat} {fit : Nat → Nat → Bool} (H : HI n kd mm I L) (h13 : I 23 13 = nI len) (hl : len ≤ 12) (hr0 : r < len) (hw : w < wys mm n) (F : SBs 25 len (wys mm n) fit L) (ht : fit r w = true → Q (some (.int 1)) I L (RR n hr tl) (DD n)) (hf : fit r w = false → Q (some (.int 0)) I L (RR n hr tl) (DD n)) : cm_Ex l g 2 0 0 mX7_fitsAt 0 [.ref 23, .int (nI r), .int (nI w)] [] I L (RR n hr tl) (DD n) Q := by
  have hW : wys mm n ≤ 64 := H.2.2.2.1
  have hb := SB_at hW (F r hr0) hw
  refine x_ildn qX7_fitsAt_0 rfl ?_
  refine x_if_lt_nf (tgt := 40) qX7_fitsAt_1 (by omega) (by omega) ?_
  refine x_ildn qX7_fitsAt_4 rfl ?_
  refine x_aldn qX7_fitsAt_5 rfl trivial ?_
  refine x_getIe qX7_fitsAt_6 fX7_47 rfl h13 ?_
  refine x_icmp_ge_nf (tgt := 40) qX7_fitsAt_9 (by omega) (by omega) (by omega) (by omega) ?_
  refine x_aldn qX7_fitsAt_12 rfl trivial ?_
  refine x_getR qX7_fitsAt_13 fX7_54 rfl rfl ?_
  refine x_ildn qX7_fitsAt_16 rfl ?_
  refine x_cV1 (d' := 1) qX7_fitsAt_17 cX7_113 rfl ⟨_, rfl, rfl⟩ rfl rfl (Nat.le_of_ble_eq_true rfl) (Nat.le_of_ble_eq_true rfl) (by decide) ?_
  refine c_X3_hasWay H (fun _ => ?_) (fun h => absurd (by rw [nI_toInt (by omega)]; omega) h)
  refine x_if_eq_f (tgt := 40) qX7_fitsAt_20 (by omega) (by decide) ?_
  refine x_aldn qX7_fitsAt_23 rfl trivial ?_
  refine x_getR qX7_fitsAt_24 fX7_15 rfl rfl ?_
  refine x_ildn qX7_fitsAt_27 rfl ?_
  refine x_lald qX7_fitsAt_28 rfl rfl (by omega) (by decide) ?_
  refine x_ildn qX7_fitsAt_29 rfl ?_
  refine x_cS2 (d' := 1) qX7_fitsAt_30 cX7_106 rfl rfl (Nat.le_of_ble_eq_true rfl) (Nat.le_of_ble_eq_true rfl) (by decide) ?_
  refine c_X7_isIn (by omega) (fun h30 => ?_) (fun h30 => ?_)
  · refine x_if_eq_f (tgt := 40) qX7_fitsAt_33 (by omega) (by decide) ?_
    refine x_iconst (v := nI 1) qX7_fitsAt_36 rfl ?_
    refine x_goto (tgt := 41) qX7_fitsAt_37 (by omega) ?_
    refine x_iret qX7_fitsAt_41 rfl rfl ?_
    first | exact ht (by rw [← hb]; exact h30) | exact hf (by rw [← hb]; exact h30)
  · refine x_if_eq_t (tgt := 40) qX7_fitsAt_33 (by omega) (by decide) ?_
    refine x_iconst (v := nI 0) qX7_fitsAt_40 rfl ?_
    refine x_iret qX7_fitsAt_41 rfl rfl ?_
    first | exact ht (by rw [← hb]; exact h30) | exact hf (by rw [← hb]; exact h30)
theorem cntB_SB {x : Int64} {W : Nat} {f : Nat → Bool} (hW : W ≤ 64) (h : SB x W f) : cntB (tb x) 64 = cntB f W := by
  have key : ∀ k, k ≤ 64 → cntB (tb x) k = cntB f (min k W) := by
    intro k
    induction k with
    | zero => intro _; rw [Nat.zero_min]; rfl
    | succ k ih =>
      intro hk
      show cntB (tb x) k + (if tb x k then 1 else 0) = _
      rw [ih (by omega), h k (by omega)]
      by_cases hkW : k < W
      · rw [Nat.min_eq_left (by omega), Nat.min_eq_left (by omega), decide_eq_true hkW, Bool.true_and]
        rfl
      · rw [Nat.min_eq_right (by omega), Nat.min_eq_right (by omega), decide_eq_false hkW]
        rfl
  rw [key 64 (Nat.le_refl _), Nat.min_eq_right hW]
theorem c_X7_howManyFit {r : Nat} {fit : Nat → Nat → Bool} (H : HI n kd mm I L) (h13 : I 23 13 = nI len) (hl : len ≤ 12) (hr0 : r < len) (F : SBs 25 len (wys mm n) fit L) (hQ : Q (some (.int (nI (cntB (fit r) (wys mm n))))) I L (RR n hr tl) (DD n)) : cm_Ex l g 2 0 0 mX7_howManyFit 0 [.ref 23, .int (nI r)] [] I L (RR n hr tl) (DD n) Q := by
  have hb := cntB_SB H.2.2.2.1 (F r hr0)
  refine x_ildn qX7_howManyFit_0 rfl ?_
  refine x_if_lt_nf (tgt := 24) qX7_howManyFit_1 (by omega) (by omega) ?_
  refine x_ildn qX7_howManyFit_4 rfl ?_
  refine x_aldn qX7_howManyFit_5 rfl trivial ?_
  refine x_getIe qX7_howManyFit_6 fX7_47 rfl h13 ?_
  refine x_icmp_ge_nf (tgt := 24) qX7_howManyFit_9 (by omega) (by omega) (by omega) (by omega) ?_
  refine x_aldn qX7_howManyFit_12 rfl trivial ?_
  refine x_getR qX7_howManyFit_13 fX7_15 rfl rfl ?_
  refine x_ildn qX7_howManyFit_16 rfl ?_
  refine x_lald qX7_howManyFit_17 rfl rfl (by omega) (by decide) ?_
  refine x_cS1 (d' := 1) qX7_howManyFit_18 cX7_117 rfl rfl (Nat.le_of_ble_eq_true rfl) (Nat.le_of_ble_eq_true rfl) (by decide) ?_
  refine c_J13_bitCount ?_
  refine x_goto (tgt := 25) qX7_howManyFit_21 (by omega) ?_
  refine x_iret qX7_howManyFit_25 rfl rfl ?_
  rw [hb]; exact hQ
end K24
