/-! Telling: sure, secret, wires, coarse -/
def optS : Option Nat → Int32
  | none => -5
  | some b => nI b
/-- the first from k on, m of them looked at -/
def fst1 (p : Nat → Bool) : Nat → Nat → Option Nat
  | 0, _ => none
  | m + 1, k => if p k then some k else fst1 p m (k + 1)
theorem tal_empty {fit nx : Nat → Nat → Bool} {W len r : Nat} (hr : r < len) (h : exb (fit r) W = false) : tal fit nx W len = false := by
  unfold tal
  rw [decide_eq_false (by omega), Bool.false_or]
  cases hq : exb (fwd fit nx W (len - 1)) W with
  | false => rfl
  | true =>
    have h2 := fwd_back (r := r) (k := len - 1 - r) (by rw [show r + (len - 1 - r) = len - 1 by omega]; exact hq)
    obtain ⟨w, hw, hf⟩ := exb_iff.mp h2
    have h3 := fwd_fit hf
    rw [exb_false.mp h w hw] at h3; cases h3
theorem near_sub (a b s g : Int) : nearZ a (b - s) g = nearZ (a + s) b g := by
  unfold nearZ
  congr 1
  · exact decide_eq_decide.mpr (by omega)
  · exact decide_eq_decide.mpr (by omega)
theorem SB_or {x y : Int64} {W : Nat} {f f' : Nat → Bool} (h : SB x W f) (h' : SB y W f') : SB (x ||| y) W (fun w => f w || f' w) := fun w hw => by
  rw [tb_or, h w hw, h' w hw]
  cases decide (w < W) <;> simp
theorem ftt_lw {kd mm : Nat → Nat} {n gv c s : Nat} {toks : List Nat} {tot wt : Nat → Nat} {r w : Nat} (h : ftt (opn kd mm n toks) tot wt gv c s r w = true) : lwf kd mm n w = true := by
  unfold ftt opn at h
  rw [Bool.and_eq_true, Bool.and_eq_true] at h
  exact h.1.1
def secA (op nx : Nat → Nat → Bool) (tot wt : Nat → Nat) (gv W len : Nat) : Int32 := if tal (ft1 op tot wt gv) nx W len then 0 else optS (fst1 (fun s => tal (ftt op tot wt gv 1 s) nx W len) 99 1)
def wrp (op nx : Nat → Nat → Bool) (tot wt wt2 tk mm : Nat → Nat) (gv W len n s : Nat) : Bool := tal (fun r w => ft1 op tot wt gv r w && nearZ (sumN tk mm s n w : Nat) (wt2 r) gv) nx W len
def cop (op nx : Nat → Nat → Bool) (tot wt mm : Nat → Nat) (gv W len rd t c : Nat) : Bool := tal (ftt op tot wt gv c 0) nx W len && (exb (fun w => liv (ftt op tot wt gv c 0) nx W len rd w && (dgt mm w t == 0)) W && exb (fun w => liv (ftt op tot wt gv c 0) nx W len rd w && !(dgt mm w t == 0)) W)
section K26
variable {l : Launch} {g : cm_G} {I : cm_I} {L : cm_L} {n len h : Nat} {hr : Option Nat} {Q : cm_Post} {kd mm tk gl wt : Nat → Nat} {gv : Nat} {toks : List Nat}
theorem c_X7_thingsOn {rd b : Nat} (hb : b = 0 ∨ b = 1) (hrd : rd < len) (hl : len ≤ 12) (H : HI n kd mm I L) (D : LD n kd mm tk gv toks len wt I L)
  (hQ : ∀ L', FQ I I L L' → Q (some (.int (if tal (ft1 (opn kd mm n toks) (sumN tk mm 15 n) wt gv) (nxt kd mm n) (wys mm n) len then nI (bhs (srb (liv (ft1 (opn kd mm n toks) (sumN tk mm 15 n) wt gv) (nxt kd mm n) (wys mm n) len rd) mm (wys mm n) (b == 1)) n) else 0))) I L' (RR n hr (some (hA h))) (DD n)) : cm_Ex l g 6 0 0 mX7_thingsOn 0 [.ref 23, .int (nI rd), .int (nI b), .float 0, .float 0, .float 0, .float 0, .float 0, .float 0] [] I L (RR n hr (some (hA h))) (DD n) Q := by
  obtain ⟨h13, h14, h28, h24, h25⟩ := id D
  have hW : wys mm n ≤ 64 := H.2.2.2.1
  have hn4 := H.1
  refine x_ildn qX7_thingsOn_0 rfl ?_
  refine x_if_lt_nf (tgt := 19) qX7_thingsOn_1 (by omega) (by omega) ?_
  refine x_ildn qX7_thingsOn_4 rfl ?_
  refine x_aldn qX7_thingsOn_5 rfl trivial ?_
  refine x_getIe qX7_thingsOn_6 fX7_47 rfl h13 ?_
  refine x_icmp_ge_nf (tgt := 19) qX7_thingsOn_9 (by omega) (by omega) (by omega) (by omega) ?_
  refine x_aldn qX7_thingsOn_12 rfl trivial ?_
  refine x_cV0 (d' := 4) qX7_thingsOn_13 cX7_153 rfl ⟨_, rfl, rfl⟩ rfl rfl (Nat.le_of_ble_eq_true rfl) (Nat.le_of_ble_eq_true rfl) (by decide) ?_
  refine c_X7_reach hl h13 H h25 (fun w _ h => ft1_lw h) (fun L' ht hS hL' => ?_) (fun L' hf hL' => ?_)
  · refine x_if_ne_t (tgt := 21) qX7_thingsOn_16 (by omega) (by decide) ?_
    have H' : HI n kd mm I L' := HI_frame H (fun _ _ => rfl) (fun b hb => hL' b (by omega))
    refine x_aldn qX7_thingsOn_21 rfl trivial ?_
    refine x_ildn qX7_thingsOn_22 rfl ?_
    refine x_cV1 (d' := 4) qX7_thingsOn_23 cX7_139 rfl ⟨_, rfl, rfl⟩ rfl rfl (Nat.le_of_ble_eq_true rfl) (Nat.le_of_ble_eq_true rfl) (by decide) ?_
    refine c_X7_trimBackTo (rd := rd) hl (by omega) h13 H' hS (fun L2 hLs hL2 => ?_)
    have H2 : HI n kd mm I L2 := HI_frame H' (fun _ _ => rfl) (fun b hb => hL2 b (by omega))
    have hS2 := hLs rd (Nat.le_refl _) hrd
    rw [if_pos ht] at hQ
    have hne : exb (liv (ft1 (opn kd mm n toks) (sumN tk mm 15 n) wt gv) (nxt kd mm n) (wys mm n) len rd) (wys mm n) = true := by rw [← tal_liv hrd]; exact ht
    have hfq := hQ L2 ⟨fun _ _ _ => rfl, fun b hb => by rw [hL2 b (by omega)]; exact hL' b (by omega)⟩
    generalize hLV : liv (ft1 (opn kd mm n toks) (sumN tk mm 15 n) wt gv) (nxt kd mm n) (wys mm n) len rd = LV at *
    have loop : ∀ m t a5 a6 a7 a8, t + m = n → cm_Ex l g 6 0 0 mX7_thingsOn 31 [.ref 23, .int (nI rd), .int (nI b), .int (nI (bhs (srb LV mm (wys mm n) (b == 1)) t)), .int (nI t), a5, a6, a7, a8] [] I L2 (RR n hr (some (hA h))) (DD n) Q := by
      intro m
      induction m with
      | zero =>
        intro t a5 a6 a7 a8 ht
        have e : t = n := by omega
        subst e
        refine x_ild qX7_thingsOn_31 rfl ?_
        refine x_aldn qX7_thingsOn_33 rfl trivial ?_
        refine x_getR qX7_thingsOn_34 fX7_54 rfl rfl ?_
        refine x_getIe qX7_thingsOn_37 fX7_163 rfl H2.2.2.2.2.1 ?_
        refine x_icmp_ge_nt (tgt := 112) qX7_thingsOn_40 (by omega) (by omega) (by omega) (by omega) ?_
        refine x_ildn qX7_thingsOn_112 rfl ?_
        refine x_iret qX7_thingsOn_113 rfl rfl ?_
        exact hfq
      | succ m ih =>
        intro t a5 a6 a7 a8 ht
        have htn : t < n := by omega
        have hmt := H2.2.1 t htn
        have hoff : ∀ w, w < wys mm n → tb (L2 3 (4 * t + 0)) w = (dgt mm w t == 0) := fun w hw => by
          rw [H2.2.2.2.2.2.2.2.2.1 t htn 0 (by omega) w (by omega), decide_eq_true hw, Bool.true_and]
        have c1 : lg_cmp (L2 26 rd &&& L2 3 (4 * t + 0)) 0 = 0 ↔ exb (fun w => LV w && (dgt mm w t == 0)) (wys mm n) = false := by
          rw [lg_cmp0]; exact SB_0 hW (SB_and hS2 hoff)
        have c2 : lg_cmp (L2 26 rd &&& (L2 3 (4 * t + 0) ^^^ -1)) 0 = 0 ↔ exb (fun w => LV w && !(dgt mm w t == 0)) (wys mm n) = false := by
          rw [lg_cmp0]; exact SB_0 hW (SB_and hS2 (fun w hw => by rw [tb_not (by omega), hoff w hw]))
        have hlt := bhs_lt (f := srb LV mm (wys mm n) (b == 1)) (s := t)
        have skip : ∀ a7, srb LV mm (wys mm n) (b == 1) t = false → cm_Ex l g 6 0 0 mX7_thingsOn 106 [.ref 23, .int (nI rd), .int (nI b), .int (nI (bhs (srb LV mm (wys mm n) (b == 1)) t)), .int (nI t), .long (L2 3 (4 * t + 0)), .float 0, .long a7, .float 0] [] I L2 (RR n hr (some (hA h))) (DD n) Q := by
          intro a7 e
          have := ih (t + 1) (.long (L2 3 (4 * t + 0))) (.float 0) (.long a7) (.float 0) (by omega)
          rw [show bhs (srb LV mm (wys mm n) (b == 1)) (t + 1) = bhs (srb LV mm (wys mm n) (b == 1)) t by simp only [bhs]; rw [if_neg (by rw [e]; decide)]] at this
          refine x_iinc4 qX7_thingsOn_106 (by decide) (cm_inc _) rfl ?_
          refine x_goto (tgt := 31) qX7_thingsOn_109 (by omega) ?_
          exact this
        have add : ∀ a7, srb LV mm (wys mm n) (b == 1) t = true → cm_Ex l g 6 0 0 mX7_thingsOn 99 [.ref 23, .int (nI rd), .int (nI b), .int (nI (bhs (srb LV mm (wys mm n) (b == 1)) t)), .int (nI t), .long (L2 3 (4 * t + 0)), .float 0, .long a7, .float 0] [] I L2 (RR n hr (some (hA h))) (DD n) Q := by
          intro a7 e
          have := ih (t + 1) (.long (L2 3 (4 * t + 0))) (.float 0) (.long a7) (.float 0) (by omega)
          rw [show bhs (srb LV mm (wys mm n) (b == 1)) (t + 1) = bhs (srb LV mm (wys mm n) (b == 1)) t + 2 ^ t by simp only [bhs]; rw [if_pos e]] at this
          refine x_ildn qX7_thingsOn_99 rfl ?_
          refine x_iconst (v := nI 1) qX7_thingsOn_100 rfl ?_
          refine x_ild qX7_thingsOn_101 rfl ?_
          refine x_ishl qX7_thingsOn_103 ?_
          refine x_ior qX7_thingsOn_104 ?_
          rw [or_pow t (by omega) _ hlt]
          refine x_ist3 qX7_thingsOn_105 (by decide) rfl ?_
          refine x_iinc4 qX7_thingsOn_106 (by decide) (cm_inc _) rfl ?_
          refine x_goto (tgt := 31) qX7_thingsOn_109 (by omega) ?_
          exact this
        have both : exb (fun w => LV w && (dgt mm w t == 0)) (wys mm n) = false → exb (fun w => LV w && !(dgt mm w t == 0)) (wys mm n) = true := fun e => by
          obtain ⟨w, hw, hl⟩ := exb_iff.mp hne
          have := exb_false.mp e w hw
          refine exb_iff.mpr ⟨w, hw, ?_⟩
          simp only [hl, Bool.true_and] at this ⊢
          rw [this]; rfl
        refine x_ild qX7_thingsOn_31 rfl ?_
        refine x_aldn qX7_thingsOn_33 rfl trivial ?_
        refine x_getR qX7_thingsOn_34 fX7_54 rfl rfl ?_
        refine x_getIe qX7_thingsOn_37 fX7_163 rfl H2.2.2.2.2.1 ?_
        refine x_icmp_ge_nf (tgt := 112) qX7_thingsOn_40 (by omega) (by omega) (by omega) (by omega) ?_
        refine x_aldn qX7_thingsOn_43 rfl trivial ?_
        refine x_getR qX7_thingsOn_44 fX7_54 rfl rfl ?_
        refine x_ild qX7_thingsOn_47 rfl ?_
        refine x_iconst (v := nI 0) qX7_thingsOn_49 rfl ?_
        refine x_cV2 (d' := 2) qX7_thingsOn_50 cX7_164 rfl ⟨_, rfl, rfl⟩ rfl rfl (Nat.le_of_ble_eq_true rfl) (Nat.le_of_ble_eq_true rfl) (by decide) ?_
        refine c_X3_waysWith H2 htn (by omega) ?_
        refine x_lst5 qX7_thingsOn_53 (by decide) rfl ?_
        refine x_ildn qX7_thingsOn_55 rfl ?_
        rcases hb with rfl | rfl
        · have e0 : srb LV mm (wys mm n) (0 == 1) t = exb (fun w => LV w && !(dgt mm w t == 0)) (wys mm n) := rfl
          refine x_if_eq_t (tgt := 71) qX7_thingsOn_56 (by omega) (by decide) ?_
          refine x_lconst (v := 0) qX7_thingsOn_71 rfl ?_
          refine x_lst7 qX7_thingsOn_72 (by decide) rfl ?_
          refine x_lld qX7_thingsOn_74 rfl ?_
          refine x_lconst (v := 0) qX7_thingsOn_76 rfl ?_
          refine x_lcmp qX7_thingsOn_77 ?_
          refine x_if_ne_f (tgt := 106) qX7_thingsOn_78 (by omega) (by decide) ?_
          refine x_aldn qX7_thingsOn_81 rfl trivial ?_
          refine x_getR qX7_thingsOn_82 fX7_18 rfl rfl ?_
          refine x_ildn qX7_thingsOn_85 rfl ?_
          refine x_lald qX7_thingsOn_86 rfl rfl (by omega) (by decide) ?_
          refine x_lld qX7_thingsOn_87 rfl ?_
          refine x_ldc2 qX7_thingsOn_89 vX7_93 ?_
          refine x_lxor qX7_thingsOn_92 ?_
          refine x_land qX7_thingsOn_93 ?_
          refine x_lconst (v := 0) qX7_thingsOn_94 rfl ?_
          refine x_lcmp qX7_thingsOn_95 ?_
          refine x_if_eq (tgt := 106) qX7_thingsOn_96 (by omega) (fun h96 => ?_) (fun h96 => ?_)
          · exact skip _ (by rw [e0]; exact c2.mp h96)
          · exact add _ (by rw [e0]; have := (not_congr c2).mp h96; simpa using this)
        · have e0 : srb LV mm (wys mm n) (1 == 1) t = !(exb (fun w => LV w && (dgt mm w t == 0)) (wys mm n)) := rfl
          refine x_if_eq_f (tgt := 71) qX7_thingsOn_56 (by omega) (by decide) ?_
          refine x_aldn qX7_thingsOn_59 rfl trivial ?_
          refine x_getR qX7_thingsOn_60 fX7_18 rfl rfl ?_
          refine x_ildn qX7_thingsOn_63 rfl ?_
          refine x_lald qX7_thingsOn_64 rfl rfl (by omega) (by decide) ?_
          refine x_lld qX7_thingsOn_65 rfl ?_
          refine x_land qX7_thingsOn_67 ?_
          refine x_goto (tgt := 72) qX7_thingsOn_68 (by omega) ?_
          refine x_lst7 qX7_thingsOn_72 (by decide) rfl ?_
          refine x_lld qX7_thingsOn_74 rfl ?_
          refine x_lconst (v := 0) qX7_thingsOn_76 rfl ?_
          refine x_lcmp qX7_thingsOn_77 ?_
          refine x_if_ne (tgt := 106) qX7_thingsOn_78 (by omega) (fun h78 => ?_) (fun h78 => ?_)
          · first | exact absurd ((both (c1.mp h78)).symm.trans (c2.mp h96)) (by decide) | exact skip _ (by rw [e0]; have := (not_congr c1).mp h78; simpa using this)
          · refine x_aldn qX7_thingsOn_81 rfl trivial ?_
            refine x_getR qX7_thingsOn_82 fX7_18 rfl rfl ?_
            refine x_ildn qX7_thingsOn_85 rfl ?_
            refine x_lald qX7_thingsOn_86 rfl rfl (by omega) (by decide) ?_
            refine x_lld qX7_thingsOn_87 rfl ?_
            refine x_ldc2 qX7_thingsOn_89 vX7_93 ?_
            refine x_lxor qX7_thingsOn_92 ?_
            refine x_land qX7_thingsOn_93 ?_
            refine x_lconst (v := 0) qX7_thingsOn_94 rfl ?_
            refine x_lcmp qX7_thingsOn_95 ?_
            refine x_if_eq (tgt := 106) qX7_thingsOn_96 (by omega) (fun h96 => ?_) (fun h96 => ?_)
            · first | exact absurd ((both (c1.mp h78)).symm.trans (c2.mp h96)) (by decide) | exact skip _ (by rw [e0]; have := (not_congr c1).mp h78; simpa using this)
            · exact add _ (by rw [e0, c1.mp h78]; rfl)
    refine x_iconst (v := nI 0) qX7_thingsOn_26 rfl ?_
    refine x_ist3 qX7_thingsOn_27 (by decide) rfl ?_
    refine x_iconst (v := nI 0) qX7_thingsOn_28 rfl ?_
    refine x_ist4 qX7_thingsOn_29 (by decide) rfl ?_
    exact loop n 0 _ _ _ _ (by omega)
  · refine x_if_ne_f (tgt := 21) qX7_thingsOn_16 (by omega) (by decide) ?_
    refine x_iconst (v := nI 0) qX7_thingsOn_19 rfl ?_
    refine x_iret qX7_thingsOn_20 rfl rfl ?_
    have := hQ L' ⟨fun _ _ _ => rfl, fun b hb => hL' b (by omega)⟩
    rw [hf] at this
    exact this
end K26
