/-! Telling: secret, wires, coarse -/
section K27
variable {l : Launch} {g : cm_G} {I : cm_I} {L : cm_L} {n len h : Nat} {hr : Option Nat} {Q : cm_Post} {kd mm tk gl wt : Nat → Nat} {gv : Nat} {toks : List Nat}
theorem ft1_near {op : Nat → Nat → Bool} {tot wt : Nat → Nat} {gv s r w : Nat} (hs : 0 < s) : ftt op tot wt gv 1 s r w = (op r w && nearZ (tot w) (wt r : Nat) gv || op r w && nearZ (tot w) ((wt r : Nat) - (s : Nat) : Int) gv) := by
  have e : ((gv : Int) + ((1 : Nat) : Int) - 1) = gv := by omega
  simp only [ftt, e, Nat.div_one, Nat.mul_one, decide_eq_true hs, Bool.true_and, near_sub]
  cases op r w <;> simp
theorem c_X7_leastSecret (hh : h < 7) (H : HI n kd mm I L) (HC : HH h tk gl gv toks I) (M : MT 15 len wt I) (D : LD n kd mm tk gv toks len wt I L)
  (hQ : ∀ L', FQ I I L L' → Q (some (.int (secA (opn kd mm n toks) (nxt kd mm n) (sumN tk mm 15 n) wt gv (wys mm n) len))) I L' (RR n hr (some (hA h))) (DD n)) : cm_Ex l g 6 0 0 mX7_leastSecret 0 [.ref 23, .float 0, .float 0, .float 0, .float 0] [] I L (RR n hr (some (hA h))) (DD n) Q := by
  obtain ⟨h13, h14, h28, h24, h25⟩ := id D
  have hl : len ≤ 12 := M.2.1
  have hW : wys mm n ≤ 64 := H.2.2.2.1
  have hgv : I (hA h) 5 = zI gv := by rw [HC.1.2.2.2.2.2, zI_nat]
  have hg9 := HC.2.2.2.2
  have hs28 : ∀ w, w < wys mm n → I 28 w = zI (sumN tk mm 15 n w : Nat) ∧ -100000 ≤ ((sumN tk mm 15 n w : Nat) : Int) ∧ ((sumN tk mm 15 n w : Nat) : Int) ≤ 100000 := fun w hw => by
    have hb := sumN_le (s := 15) H.2.1 H.1 (fun i hi => (HC.2.2.2.1 i hi).1) w (Nat.le_refl n)
    have hn4 := H.1
    exact ⟨h28 w hw, by omega, by omega⟩
  have outer : ∀ m k L' a2 a3 a4, k + m = 100 → 1 ≤ k → (∀ b, (b < 25 ∨ 26 < b) → L' b = L b) → (∀ L', FQ I I L L' → Q (some (.int (optS (fst1 (fun s => tal (ftt (opn kd mm n toks) (sumN tk mm 15 n) wt gv 1 s) (nxt kd mm n) (wys mm n) len) m k)))) I L' (RR n hr (some (hA h))) (DD n)) → cm_Ex l g 6 0 0 mX7_leastSecret 11 [.ref 23, .int (nI k), a2, a3, a4] [] I L' (RR n hr (some (hA h))) (DD n) Q := by
    intro m
    induction m with
    | zero =>
      intro k L' a2 a3 a4 hk h1 hL' hQ'
      refine x_ildn qX7_leastSecret_11 rfl ?_
      refine x_bipush (v := nI 99) qX7_leastSecret_12 rfl ?_
      refine x_icmp_gt_nt (tgt := 130) qX7_leastSecret_14 (by omega) (by omega) (by omega) (by omega) ?_
      refine x_bipush (v := -5) qX7_leastSecret_130 rfl ?_
      refine x_iret qX7_leastSecret_132 rfl rfl ?_
      exact hQ' L' ⟨fun _ _ _ => rfl, fun b hb => hL' b (by omega)⟩
    | succ m ih =>
      intro k L' a2 a3 a4 hk h1 hL' hQ'
      have next : ∀ L2 a2 a3 a4, tal (ftt (opn kd mm n toks) (sumN tk mm 15 n) wt gv 1 k) (nxt kd mm n) (wys mm n) len = false → (∀ b, (b < 25 ∨ 26 < b) → L2 b = L b) → cm_Ex l g 6 0 0 mX7_leastSecret 124 [.ref 23, .int (nI k), a2, a3, a4] [] I L2 (RR n hr (some (hA h))) (DD n) Q := by
        intro L2 a2 a3 a4 e hL2
        refine x_iinc1 qX7_leastSecret_124 (by decide) (cm_inc _) rfl ?_
        refine x_goto (tgt := 11) qX7_leastSecret_127 (by omega) ?_
        refine ih (k + 1) L2 _ _ _ (by omega) (by omega) hL2 (fun L3 f3 => ?_)
        have := hQ' L3 f3
        simp only [fst1, e] at this
        exact this
      have out : ∀ L2 a3 a4, SBs 25 len (wys mm n) (ftt (opn kd mm n toks) (sumN tk mm 15 n) wt gv 1 k) L2 → (∀ b, (b < 25 ∨ 26 < b) → L2 b = L b) → cm_Ex l g 6 0 0 mX7_leastSecret 111 [.ref 23, .int (nI k), .int (nI 1), a3, a4] [] I L2 (RR n hr (some (hA h))) (DD n) Q := by
        intro L2 a3 a4 hS hL2
        have H2 : HI n kd mm I L2 := HI_frame H (fun _ _ => rfl) (fun b hb => hL2 b (by omega))
        refine x_ildn qX7_leastSecret_111 rfl ?_
        refine x_if_eq_f (tgt := 124) qX7_leastSecret_112 (by omega) (by decide) ?_
        refine x_aldn qX7_leastSecret_115 rfl trivial ?_
        refine x_cV0 (d' := 4) qX7_leastSecret_116 cX7_153 rfl ⟨_, rfl, rfl⟩ rfl rfl (Nat.le_of_ble_eq_true rfl) (Nat.le_of_ble_eq_true rfl) (by decide) ?_
        refine c_X7_reach hl h13 H2 hS (fun w _ h => ftt_lw h) (fun L3 ht _ hL3 => ?_) (fun L3 hf hL3 => ?_)
        · refine x_if_eq_f (tgt := 124) qX7_leastSecret_119 (by omega) (by decide) ?_
          refine x_ildn qX7_leastSecret_122 rfl ?_
          refine x_iret qX7_leastSecret_123 rfl rfl ?_
          have := hQ' L3 ⟨fun _ _ _ => rfl, fun b hb => by rw [hL3 b (by omega)]; exact hL2 b (by omega)⟩
          simp only [fst1, ht, if_true] at this
          exact this
        · refine x_if_eq_t (tgt := 124) qX7_leastSecret_119 (by omega) (by decide) ?_
          exact next L3 _ _ _ hf (fun b hb => by rw [hL3 b (by omega)]; exact hL2 b hb)
      have inner : ∀ j r L2 a4, r + j = len → SBs 25 r (wys mm n) (ftt (opn kd mm n toks) (sumN tk mm 15 n) wt gv 1 k) L2 → (∀ b, (b < 25 ∨ 26 < b) → L2 b = L b) → cm_Ex l g 6 0 0 mX7_leastSecret 21 [.ref 23, .int (nI k), .int (nI 1), .int (nI r), a4] [] I L2 (RR n hr (some (hA h))) (DD n) Q := by
        intro j
        induction j with
        | zero =>
          intro r L2 a4 hr0 hS hL2
          have e : r = len := by omega
          subst e
          refine x_ildn qX7_leastSecret_21 rfl ?_
          refine x_aldn qX7_leastSecret_22 rfl trivial ?_
          refine x_getIe qX7_leastSecret_23 fX7_47 rfl h13 ?_
          refine x_icmp_ge_nt (tgt := 111) qX7_leastSecret_26 (by omega) (by omega) (by omega) (by omega) ?_
          exact out L2 _ _ hS hL2
        | succ j ih2 =>
          intro r L2 a4 hr0 hS hL2
          have hwt := M.2.2 r (by omega)
          have hwz : I (15 + 1) r = zI (wt r : Nat) := by rw [zI_nat]; exact hwt.1
          have hop : SB (L2 24 r) (wys mm n) (opn kd mm n toks r) := by rw [hL2 24 (by decide)]; exact h24 r (by omega)
          refine x_ildn qX7_leastSecret_21 rfl ?_
          refine x_aldn qX7_leastSecret_22 rfl trivial ?_
          refine x_getIe qX7_leastSecret_23 fX7_47 rfl h13 ?_
          refine x_icmp_ge_nf (tgt := 111) qX7_leastSecret_26 (by omega) (by omega) (by omega) (by omega) ?_
          refine x_ildn qX7_leastSecret_29 rfl ?_
          refine x_if_eq_f (tgt := 111) qX7_leastSecret_30 (by omega) (by decide) ?_
          refine x_aldn qX7_leastSecret_33 rfl trivial ?_
          refine x_getR qX7_leastSecret_34 fX7_58 rfl rfl ?_
          refine x_ildn qX7_leastSecret_37 rfl ?_
          refine x_cV1 (d' := 2) qX7_leastSecret_38 cX7_95 (dd_M (Or.inl rfl)).1 ⟨_, rfl, rfl⟩ rfl rfl (Nat.le_of_ble_eq_true rfl) (Nat.le_of_ble_eq_true rfl) (by decide) ?_
          refine c_X5_wattsAt (Or.inl rfl) M.1 hl (by omega) ?_
          refine x_topI hwz ?_
          refine x_ist4 qX7_leastSecret_41 (by decide) rfl ?_
          refine x_aldn qX7_leastSecret_43 rfl trivial ?_
          refine x_getR qX7_leastSecret_44 fX7_15 rfl rfl ?_
          refine x_ildn qX7_leastSecret_47 rfl ?_
          refine x_aldn qX7_leastSecret_48 rfl trivial ?_
          refine x_aldn qX7_leastSecret_49 rfl trivial ?_
          refine x_getR qX7_leastSecret_50 fX7_24 rfl rfl ?_
          refine x_ildn qX7_leastSecret_53 rfl ?_
          refine x_ild qX7_leastSecret_54 rfl ?_
          refine x_aldn qX7_leastSecret_56 rfl trivial ?_
          refine x_getR qX7_leastSecret_57 fX7_43 rfl rr_tl ?_
          refine x_getIe qX7_leastSecret_60 fX7_99 (dd_hA hh).1 hgv ?_
          refine x_cV4 (d' := 2) qX7_leastSecret_63 cX7_102 rfl ⟨_, rfl, rfl⟩ rfl rfl (Nat.le_of_ble_eq_true rfl) (Nat.le_of_ble_eq_true rfl) (by decide) ?_
          refine c_X7_near (r := r) (aim := (wt r : Nat)) (gv := (gv : Nat)) (f := fun w => (sumN tk mm 15 n w : Nat)) (Or.inl rfl) (by omega) hW h14 hs28 (by omega) (by omega) (by omega) (by omega) (fun v1 hv1 => ?_)
          refine x_aldn qX7_leastSecret_66 rfl trivial ?_
          refine x_aldn qX7_leastSecret_67 rfl trivial ?_
          refine x_getR qX7_leastSecret_68 fX7_24 rfl rfl ?_
          refine x_ildn qX7_leastSecret_71 rfl ?_
          refine x_ild qX7_leastSecret_72 rfl ?_
          refine x_ildn qX7_leastSecret_74 rfl ?_
          refine x_isub qX7_leastSecret_75 (x_topI (b := zI ((wt r : Nat) - (k : Nat) : Int)) (by rw [← zI_nat k, zI_sub]) ?_)
          refine x_aldn qX7_leastSecret_76 rfl trivial ?_
          refine x_getR qX7_leastSecret_77 fX7_43 rfl rr_tl ?_
          refine x_getIe qX7_leastSecret_80 fX7_99 (dd_hA hh).1 hgv ?_
          refine x_cV4 (d' := 2) qX7_leastSecret_83 cX7_102 rfl ⟨_, rfl, rfl⟩ rfl rfl (Nat.le_of_ble_eq_true rfl) (Nat.le_of_ble_eq_true rfl) (by decide) ?_
          refine c_X7_near (r := r) (aim := ((wt r : Nat) - (k : Nat) : Int)) (gv := (gv : Nat)) (f := fun w => (sumN tk mm 15 n w : Nat)) (Or.inl rfl) (by omega) hW h14 hs28 (by omega) (by omega) (by omega) (by omega) (fun v2 hv2 => ?_)
          have hv : SB (v1 ||| v2) (wys mm n) (ftt (opn kd mm n toks) (sumN tk mm 15 n) wt gv 1 k r) := SB_ext (SB_or hv1 hv2) (fun w hw => by rw [ft1_near (by omega), SB_at hW hop hw])
          refine x_lor qX7_leastSecret_86 ?_
          refine x_last qX7_leastSecret_87 dd_25 rfl (by omega) (by decide) ?_
          refine x_aldn qX7_leastSecret_88 rfl trivial ?_
          refine x_getR qX7_leastSecret_89 fX7_15 rfl rfl ?_
          refine x_ildn qX7_leastSecret_92 rfl ?_
          refine x_lald qX7_leastSecret_93 dd_25 rfl (by omega) (by decide) ?_
          have ec : cm_u L2 25 r (v1 ||| v2) 25 r = (v1 ||| v2) := by rw [cm_uu]; show (if r = r then _ else _) = _; rw [if_pos rfl]
          have hL3 : ∀ b, (b < 25 ∨ 26 < b) → cm_u L2 25 r (v1 ||| v2) b = L b := fun b hb => by rw [cm_u_ne (by omega)]; exact hL2 b hb
          rw [ec]
          refine x_lconst (v := 0) qX7_leastSecret_94 rfl ?_
          refine x_lcmp qX7_leastSecret_95 ?_
          refine x_if_eq (tgt := 103) qX7_leastSecret_96 (by omega) (fun h96 => ?_) (fun h96 => ?_)
          · refine x_iconst (v := nI 0) qX7_leastSecret_103 rfl ?_
            refine x_ist2 qX7_leastSecret_104 (by decide) rfl ?_
            refine x_iinc3 qX7_leastSecret_105 (by decide) (cm_inc _) rfl ?_
            refine x_goto (tgt := 21) qX7_leastSecret_108 (by omega) ?_
            refine x_ildn qX7_leastSecret_21 rfl ?_
            refine x_aldn qX7_leastSecret_22 rfl trivial ?_
            refine x_getIe qX7_leastSecret_23 fX7_47 rfl h13 ?_
            have e : exb (ftt (opn kd mm n toks) (sumN tk mm 15 n) wt gv 1 k r) (wys mm n) = false := (SB_0 hW hv).mp ((lg_cmp0 _).mp h96)
            have hx := tal_empty (nx := nxt kd mm n) (show r < len by omega) e
            refine x_icmp_ge_n (tgt := 111) qX7_leastSecret_26 (by omega) (by omega) (by omega) (fun _ => ?_) (fun _ => ?_)
            · refine x_ildn qX7_leastSecret_111 rfl ?_
              refine x_if_eq_t (tgt := 124) qX7_leastSecret_112 (by omega) (by decide) ?_
              exact next _ _ _ _ hx hL3
            · refine x_ildn qX7_leastSecret_29 rfl ?_
              refine x_if_eq_t (tgt := 111) qX7_leastSecret_30 (by omega) (by decide) ?_
              refine x_ildn qX7_leastSecret_111 rfl ?_
              refine x_if_eq_t (tgt := 124) qX7_leastSecret_112 (by omega) (by decide) ?_
              exact next _ _ _ _ hx hL3
          · refine x_iconst (v := nI 1) qX7_leastSecret_99 rfl ?_
            refine x_goto (tgt := 104) qX7_leastSecret_100 (by omega) ?_
            refine x_ist2 qX7_leastSecret_104 (by decide) rfl ?_
            refine x_iinc3 qX7_leastSecret_105 (by decide) (cm_inc _) rfl ?_
            refine x_goto (tgt := 21) qX7_leastSecret_108 (by omega) ?_
            exact ih2 (r + 1) _ _ (by omega) (SBs_u hS hv) hL3
      refine x_ildn qX7_leastSecret_11 rfl ?_
      refine x_bipush (v := nI 99) qX7_leastSecret_12 rfl ?_
      refine x_icmp_gt_nf (tgt := 130) qX7_leastSecret_14 (by omega) (by omega) (by omega) (by omega) ?_
      refine x_iconst (v := nI 1) qX7_leastSecret_17 rfl ?_
      refine x_ist2 qX7_leastSecret_18 (by decide) rfl ?_
      refine x_iconst (v := nI 0) qX7_leastSecret_19 rfl ?_
      refine x_ist3 qX7_leastSecret_20 (by decide) rfl ?_
      exact inner len 0 L' _ (by omega) (fun r hr => by omega) hL'
  refine x_aldn qX7_leastSecret_0 rfl trivial ?_
  refine x_cV0 (d' := 4) qX7_leastSecret_1 cX7_153 rfl ⟨_, rfl, rfl⟩ rfl rfl (Nat.le_of_ble_eq_true rfl) (Nat.le_of_ble_eq_true rfl) (by decide) ?_
  refine c_X7_reach hl h13 H h25 (fun w _ h => ft1_lw h) (fun L' ht hS hL' => ?_) (fun L' hf hL' => ?_)
  · refine x_if_eq_f (tgt := 9) qX7_leastSecret_4 (by omega) (by decide) ?_
    refine x_iconst (v := nI 0) qX7_leastSecret_7 rfl ?_
    refine x_iret qX7_leastSecret_8 rfl rfl ?_
    have := hQ L' ⟨fun _ _ _ => rfl, fun b hb => hL' b (by omega)⟩
    unfold secA at this
    rw [if_pos ht] at this
    exact this
  · refine x_if_eq_t (tgt := 9) qX7_leastSecret_4 (by omega) (by decide) ?_
    refine x_iconst (v := nI 1) qX7_leastSecret_9 rfl ?_
    refine x_ist1 qX7_leastSecret_10 (by decide) rfl ?_
    refine outer 99 1 L' _ _ _ (by omega) (by omega) (fun b hb => hL' b (by omega)) (fun L3 f3 => ?_)
    have := hQ L3 f3
    unfold secA at this
    rw [if_neg (by rw [hf]; decide)] at this
    exact this
theorem c_X7_leastCoarse {rd t : Nat} (hh : h < 7) (hrd : rd < len) (htn : t < n) (H : HI n kd mm I L) (HC : HH h tk gl gv toks I) (M : MT 15 len wt I) (D : LD n kd mm tk gv toks len wt I L)
  (hQ : ∀ L', FQ I I L L' → Q (some (.int (optS (fst1 (cop (opn kd mm n toks) (nxt kd mm n) (sumN tk mm 15 n) wt mm gv (wys mm n) len rd t) 60 1)))) I L' (RR n hr (some (hA h))) (DD n)) : cm_Ex l g 6 0 0 mX7_leastCoarse 0 [.ref 23, .int (nI rd), .int (nI t), .float 0, .float 0, .float 0, .float 0, .float 0] [] I L (RR n hr (some (hA h))) (DD n) Q := by
  obtain ⟨h13, h14, h28, h24, h25⟩ := id D
  have hl : len ≤ 12 := M.2.1
  have hn4 := H.1
  have hW : wys mm n ≤ 64 := H.2.2.2.1
  have hgv : I (hA h) 5 = nI gv := HC.1.2.2.2.2.2
  have hg9 := HC.2.2.2.2
  have hmt := H.2.1 t htn
  have hs28 : ∀ w, w < wys mm n → I 28 w = zI (sumN tk mm 15 n w : Nat) ∧ -100000 ≤ ((sumN tk mm 15 n w : Nat) : Int) ∧ ((sumN tk mm 15 n w : Nat) : Int) ≤ 100000 := fun w hw => by
    have hb := sumN_le (s := 15) H.2.1 H.1 (fun i hi => (HC.2.2.2.1 i hi).1) w (Nat.le_refl n)
    exact ⟨h28 w hw, by omega, by omega⟩
  have hoff : ∀ w, w < wys mm n → tb (L 3 (4 * t + 0)) w = (dgt mm w t == 0) := fun w hw => by
    rw [H.2.2.2.2.2.2.2.2.1 t htn 0 (by omega) w (by omega), decide_eq_true hw, Bool.true_and]
  have outer : ∀ m k L' a6 a7, k + m = 61 → 1 ≤ k → (∀ b, (b < 25 ∨ 26 < b) → L' b = L b) → (∀ L', FQ I I L L' → Q (some (.int (optS (fst1 (cop (opn kd mm n toks) (nxt kd mm n) (sumN tk mm 15 n) wt mm gv (wys mm n) len rd t) m k)))) I L' (RR n hr (some (hA h))) (DD n)) → cm_Ex l g 6 0 0 mX7_leastCoarse 28 [.ref 23, .int (nI rd), .int (nI t), .long (L 3 (4 * t + 0)), .float 0, .int (nI k), a6, a7] [] I L' (RR n hr (some (hA h))) (DD n) Q := by
    intro m
    induction m with
    | zero =>
      intro k L' a6 a7 hk h1 hL' hQ'
      refine x_ild qX7_leastCoarse_28 rfl ?_
      refine x_bipush (v := nI 60) qX7_leastCoarse_30 rfl ?_
      refine x_icmp_gt_nt (tgt := 180) qX7_leastCoarse_32 (by omega) (by omega) (by omega) (by omega) ?_
      refine x_bipush (v := -5) qX7_leastCoarse_180 rfl ?_
      refine x_iret qX7_leastCoarse_182 rfl rfl ?_
      exact hQ' L' ⟨fun _ _ _ => rfl, fun b hb => hL' b (by omega)⟩
    | succ m ih =>
      intro k L' a6 a7 hk h1 hL' hQ'
      have next : ∀ L2 a6 a7, cop (opn kd mm n toks) (nxt kd mm n) (sumN tk mm 15 n) wt mm gv (wys mm n) len rd t k = false → (∀ b, (b < 25 ∨ 26 < b) → L2 b = L b) → cm_Ex l g 6 0 0 mX7_leastCoarse 174 [.ref 23, .int (nI rd), .int (nI t), .long (L 3 (4 * t + 0)), .float 0, .int (nI k), a6, a7] [] I L2 (RR n hr (some (hA h))) (DD n) Q := by
        intro L2 a6 a7 e hL2
        refine x_iinc5 qX7_leastCoarse_174 (by decide) (cm_inc _) rfl ?_
        refine x_goto (tgt := 28) qX7_leastCoarse_177 (by omega) ?_
        refine ih (k + 1) L2 _ _ (by omega) (by omega) hL2 (fun L3 f3 => ?_)
        have := hQ' L3 f3
        simp only [fst1, e] at this
        exact this
      have none1 : tal (ftt (opn kd mm n toks) (sumN tk mm 15 n) wt gv k 0) (nxt kd mm n) (wys mm n) len = false → cop (opn kd mm n toks) (nxt kd mm n) (sumN tk mm 15 n) wt mm gv (wys mm n) len rd t k = false := fun e => by unfold cop; rw [e]; rfl
      have out : ∀ L2 a7, SBs 25 len (wys mm n) (ftt (opn kd mm n toks) (sumN tk mm 15 n) wt gv k 0) L2 → (∀ b, (b < 25 ∨ 26 < b) → L2 b = L b) → cm_Ex l g 6 0 0 mX7_leastCoarse 124 [.ref 23, .int (nI rd), .int (nI t), .long (L 3 (4 * t + 0)), .float 0, .int (nI k), .int (nI 1), a7] [] I L2 (RR n hr (some (hA h))) (DD n) Q := by
        intro L2 a7 hS hL2
        have H2 : HI n kd mm I L2 := HI_frame H (fun _ _ => rfl) (fun b hb => hL2 b (by omega))
        refine x_ild qX7_leastCoarse_124 rfl ?_
        refine x_if_eq_f (tgt := 174) qX7_leastCoarse_126 (by omega) (by decide) ?_
        refine x_aldn qX7_leastCoarse_129 rfl trivial ?_
        refine x_cV0 (d' := 4) qX7_leastCoarse_130 cX7_153 rfl ⟨_, rfl, rfl⟩ rfl rfl (Nat.le_of_ble_eq_true rfl) (Nat.le_of_ble_eq_true rfl) (by decide) ?_
        refine c_X7_reach hl h13 H2 hS (fun w _ h => ftt_lw h) (fun L3 ht hS3 hL3 => ?_) (fun L3 hf hL3 => ?_)
        · have H3 : HI n kd mm I L3 := HI_frame H2 (fun _ _ => rfl) (fun b hb => hL3 b (by omega))
          refine x_if_eq_f (tgt := 174) qX7_leastCoarse_133 (by omega) (by decide) ?_
          refine x_aldn qX7_leastCoarse_136 rfl trivial ?_
          refine x_ildn qX7_leastCoarse_137 rfl ?_
          refine x_cV1 (d' := 4) qX7_leastCoarse_138 cX7_139 rfl ⟨_, rfl, rfl⟩ rfl rfl (Nat.le_of_ble_eq_true rfl) (Nat.le_of_ble_eq_true rfl) (by decide) ?_
          refine c_X7_trimBackTo (rd := rd) hl (by omega) h13 H3 hS3 (fun L4 hLs hL4 => ?_)
          have hS4 := hLs rd (Nat.le_refl _) hrd
          have hL5 : ∀ b, (b < 25 ∨ 26 < b) → L4 b = L b := fun b hb => by rw [hL4 b (by omega), hL3 b (by omega)]; exact hL2 b hb
          have c1 : lg_cmp (L4 26 rd &&& L 3 (4 * t + 0)) 0 = 0 ↔ exb (fun w => liv (ftt (opn kd mm n toks) (sumN tk mm 15 n) wt gv k 0) (nxt kd mm n) (wys mm n) len rd w && (dgt mm w t == 0)) (wys mm n) = false := by
            rw [lg_cmp0]; exact SB_0 hW (SB_and hS4 hoff)
          have c2 : lg_cmp (L4 26 rd &&& (L 3 (4 * t + 0) ^^^ -1)) 0 = 0 ↔ exb (fun w => liv (ftt (opn kd mm n toks) (sumN tk mm 15 n) wt gv k 0) (nxt kd mm n) (wys mm n) len rd w && !(dgt mm w t == 0)) (wys mm n) = false := by
            rw [lg_cmp0]; exact SB_0 hW (SB_and hS4 (fun w hw => by rw [tb_not (by omega), hoff w hw]))
          refine x_aldn qX7_leastCoarse_141 rfl trivial ?_
          refine x_getR qX7_leastCoarse_142 fX7_18 rfl rfl ?_
          refine x_ildn qX7_leastCoarse_145 rfl ?_
          refine x_lald qX7_leastCoarse_146 dd_26 rfl (by omega) (by decide) ?_
          refine x_lldn qX7_leastCoarse_147 rfl ?_
          refine x_land qX7_leastCoarse_148 ?_
          refine x_lconst (v := 0) qX7_leastCoarse_149 rfl ?_
          refine x_lcmp qX7_leastCoarse_150 ?_
          refine x_if_eq (tgt := 174) qX7_leastCoarse_151 (by omega) (fun h151 => ?_) (fun h151 => ?_)
          · first | exact next L4 _ _ (by unfold cop; rw [c2.mp h168, Bool.and_false, Bool.and_false]) hL5 | exact next L4 _ _ (by unfold cop; rw [c1.mp h151, Bool.false_and, Bool.and_false]) hL5
          · refine x_aldn qX7_leastCoarse_154 rfl trivial ?_
            refine x_getR qX7_leastCoarse_155 fX7_18 rfl rfl ?_
            refine x_ildn qX7_leastCoarse_158 rfl ?_
            refine x_lald qX7_leastCoarse_159 dd_26 rfl (by omega) (by decide) ?_
            refine x_lldn qX7_leastCoarse_160 rfl ?_
            refine x_ldc2 qX7_leastCoarse_161 vX7_93 ?_
            refine x_lxor qX7_leastCoarse_164 ?_
            refine x_land qX7_leastCoarse_165 ?_
            refine x_lconst (v := 0) qX7_leastCoarse_166 rfl ?_
            refine x_lcmp qX7_leastCoarse_167 ?_
            refine x_if_eq (tgt := 174) qX7_leastCoarse_168 (by omega) (fun h168 => ?_) (fun h168 => ?_)
            · first | exact next L4 _ _ (by unfold cop; rw [c2.mp h168, Bool.and_false, Bool.and_false]) hL5 | exact next L4 _ _ (by unfold cop; rw [c1.mp h151, Bool.false_and, Bool.and_false]) hL5
            · refine x_ild qX7_leastCoarse_171 rfl ?_
              refine x_iret qX7_leastCoarse_173 rfl rfl ?_
              have := hQ' L4 ⟨fun _ _ _ => rfl, fun b hb => hL5 b (by omega)⟩
              have ec : cop (opn kd mm n toks) (nxt kd mm n) (sumN tk mm 15 n) wt mm gv (wys mm n) len rd t k = true := by
                have q1 := (not_congr c1).mp h151
                have q2 := (not_congr c2).mp h168
                rw [Bool.not_eq_false] at q1 q2
                unfold cop
                rw [ht, q1, q2]; rfl
              simp only [fst1, ec, if_true] at this
              exact this
        · refine x_if_eq_t (tgt := 174) qX7_leastCoarse_133 (by omega) (by decide) ?_
          exact next L3 _ _ (none1 hf) (fun b hb => by rw [hL3 b (by omega)]; exact hL2 b hb)
      have inner : ∀ j r L2, r + j = len → SBs 25 r (wys mm n) (ftt (opn kd mm n toks) (sumN tk mm 15 n) wt gv k 0) L2 → (∀ b, (b < 25 ∨ 26 < b) → L2 b = L b) → cm_Ex l g 6 0 0 mX7_leastCoarse 41 [.ref 23, .int (nI rd), .int (nI t), .long (L 3 (4 * t + 0)), .float 0, .int (nI k), .int (nI 1), .int (nI r)] [] I L2 (RR n hr (some (hA h))) (DD n) Q := by
        intro j
        induction j with
        | zero =>
          intro r L2 hr0 hS hL2
          have e : r = len := by omega
          subst e
          refine x_ild qX7_leastCoarse_41 rfl ?_
          refine x_aldn qX7_leastCoarse_43 rfl trivial ?_
          refine x_getIe qX7_leastCoarse_44 fX7_47 rfl h13 ?_
          refine x_icmp_ge_nt (tgt := 124) qX7_leastCoarse_47 (by omega) (by omega) (by omega) (by omega) ?_
          exact out L2 _ hS hL2
        | succ j ih2 =>
          intro r L2 hr0 hS hL2
          have hwt := M.2.2 r (by omega)
          have hop : SB (L2 24 r) (wys mm n) (opn kd mm n toks r) := by rw [hL2 24 (by decide)]; exact h24 r (by omega)
          have hdv : wt r / k * k ≤ wt r := Nat.div_mul_le_self _ _
          refine x_ild qX7_leastCoarse_41 rfl ?_
          refine x_aldn qX7_leastCoarse_43 rfl trivial ?_
          refine x_getIe qX7_leastCoarse_44 fX7_47 rfl h13 ?_
          refine x_icmp_ge_nf (tgt := 124) qX7_leastCoarse_47 (by omega) (by omega) (by omega) (by omega) ?_
          refine x_ild qX7_leastCoarse_50 rfl ?_
          refine x_if_eq_f (tgt := 124) qX7_leastCoarse_52 (by omega) (by decide) ?_
          refine x_aldn qX7_leastCoarse_55 rfl trivial ?_
          refine x_getR qX7_leastCoarse_56 fX7_15 rfl rfl ?_
          refine x_ild qX7_leastCoarse_59 rfl ?_
          refine x_aldn qX7_leastCoarse_61 rfl trivial ?_
          refine x_aldn qX7_leastCoarse_62 rfl trivial ?_
          refine x_getR qX7_leastCoarse_63 fX7_24 rfl rfl ?_
          refine x_ild qX7_leastCoarse_66 rfl ?_
          refine x_aldn qX7_leastCoarse_68 rfl trivial ?_
          refine x_getR qX7_leastCoarse_69 fX7_58 rfl rfl ?_
          refine x_ild qX7_leastCoarse_72 rfl ?_
          refine x_cV1 (d' := 2) qX7_leastCoarse_74 cX7_95 (dd_M (Or.inl rfl)).1 ⟨_, rfl, rfl⟩ rfl rfl (Nat.le_of_ble_eq_true rfl) (Nat.le_of_ble_eq_true rfl) (by decide) ?_
          refine c_X5_wattsAt (Or.inl rfl) M.1 hl (by omega) ?_
          refine x_topI hwt.1 ?_
          refine x_ild qX7_leastCoarse_77 rfl ?_
          refine x_idiv_n qX7_leastCoarse_79 (by omega) (by omega) (by omega) ?_
          refine x_ild qX7_leastCoarse_80 rfl ?_
          refine x_imul_n qX7_leastCoarse_82 ?_
          refine x_topI (zI_nat _).symm ?_
          refine x_aldn qX7_leastCoarse_83 rfl trivial ?_
          refine x_getR qX7_leastCoarse_84 fX7_43 rfl rr_tl ?_
          refine x_getIe qX7_leastCoarse_87 fX7_99 (dd_hA hh).1 hgv ?_
          refine x_ild qX7_leastCoarse_90 rfl ?_
          refine x_iadd_n qX7_leastCoarse_92 ?_
          refine x_iconst (v := nI 1) qX7_leastCoarse_93 rfl ?_
          refine x_isub_n qX7_leastCoarse_94 (by omega) ?_
          refine x_topI (b := zI ((gv : Int) + (k : Nat) - 1)) (by rw [← zI_nat]; congr 1; omega) ?_
          refine x_cV4 (d' := 2) qX7_leastCoarse_95 cX7_102 rfl ⟨_, rfl, rfl⟩ rfl rfl (Nat.le_of_ble_eq_true rfl) (Nat.le_of_ble_eq_true rfl) (by decide) ?_
          refine c_X7_near (r := r) (aim := (wt r / k * k : Nat)) (gv := (gv : Int) + (k : Nat) - 1) (f := fun w => (sumN tk mm 15 n w : Nat)) (Or.inl rfl) (by omega) hW h14 hs28 (by omega) (by omega) (by omega) (by omega) (fun v1 hv1 => ?_)
          have hv : SB v1 (wys mm n) (ftt (opn kd mm n toks) (sumN tk mm 15 n) wt gv k 0 r) := SB_ext hv1 (fun w hw => by rw [SB_at hW hop hw]; simp only [ftt, Nat.lt_irrefl, decide_false, Bool.false_and, Bool.or_false])
          refine x_last qX7_leastCoarse_98 dd_25 rfl (by omega) (by decide) ?_
          refine x_aldn qX7_leastCoarse_99 rfl trivial ?_
          refine x_getR qX7_leastCoarse_100 fX7_15 rfl rfl ?_
          refine x_ild qX7_leastCoarse_103 rfl ?_
          refine x_lald qX7_leastCoarse_105 dd_25 rfl (by omega) (by decide) ?_
          have ec : cm_u L2 25 r v1 25 r = v1 := by rw [cm_uu]; show (if r = r then _ else _) = _; rw [if_pos rfl]
          have hL3 : ∀ b, (b < 25 ∨ 26 < b) → cm_u L2 25 r v1 b = L b := fun b hb => by rw [cm_u_ne (by omega)]; exact hL2 b hb
          rw [ec]
          refine x_lconst (v := 0) qX7_leastCoarse_106 rfl ?_
          refine x_lcmp qX7_leastCoarse_107 ?_
          refine x_if_eq (tgt := 115) qX7_leastCoarse_108 (by omega) (fun h108 => ?_) (fun h108 => ?_)
          · refine x_iconst (v := nI 0) qX7_leastCoarse_115 rfl ?_
            refine x_ist6 qX7_leastCoarse_116 (by decide) rfl ?_
            refine x_iinc7 qX7_leastCoarse_118 (by decide) (cm_inc _) rfl ?_
            refine x_goto (tgt := 41) qX7_leastCoarse_121 (by omega) ?_
            refine x_ild qX7_leastCoarse_41 rfl ?_
            refine x_aldn qX7_leastCoarse_43 rfl trivial ?_
            refine x_getIe qX7_leastCoarse_44 fX7_47 rfl h13 ?_
            have e : exb (ftt (opn kd mm n toks) (sumN tk mm 15 n) wt gv k 0 r) (wys mm n) = false := (SB_0 hW hv).mp ((lg_cmp0 _).mp h108)
            have hx := none1 (tal_empty (nx := nxt kd mm n) (show r < len by omega) e)
            refine x_icmp_ge_n (tgt := 124) qX7_leastCoarse_47 (by omega) (by omega) (by omega) (fun _ => ?_) (fun _ => ?_)
            · refine x_ild qX7_leastCoarse_124 rfl ?_
              refine x_if_eq_t (tgt := 174) qX7_leastCoarse_126 (by omega) (by decide) ?_
              exact next _ _ _ hx hL3
            · refine x_ild qX7_leastCoarse_50 rfl ?_
              refine x_if_eq_t (tgt := 124) qX7_leastCoarse_52 (by omega) (by decide) ?_
              refine x_ild qX7_leastCoarse_124 rfl ?_
              refine x_if_eq_t (tgt := 174) qX7_leastCoarse_126 (by omega) (by decide) ?_
              exact next _ _ _ hx hL3
          · refine x_iconst (v := nI 1) qX7_leastCoarse_111 rfl ?_
            refine x_goto (tgt := 116) qX7_leastCoarse_112 (by omega) ?_
            refine x_ist6 qX7_leastCoarse_116 (by decide) rfl ?_
            refine x_iinc7 qX7_leastCoarse_118 (by decide) (cm_inc _) rfl ?_
            refine x_goto (tgt := 41) qX7_leastCoarse_121 (by omega) ?_
            exact ih2 (r + 1) _ (by omega) (SBs_u hS hv) hL3
      refine x_ild qX7_leastCoarse_28 rfl ?_
      refine x_bipush (v := nI 60) qX7_leastCoarse_30 rfl ?_
      refine x_icmp_gt_nf (tgt := 180) qX7_leastCoarse_32 (by omega) (by omega) (by omega) (by omega) ?_
      refine x_iconst (v := nI 1) qX7_leastCoarse_35 rfl ?_
      refine x_ist6 qX7_leastCoarse_36 (by decide) rfl ?_
      refine x_iconst (v := nI 0) qX7_leastCoarse_38 rfl ?_
      refine x_ist7 qX7_leastCoarse_39 (by decide) rfl ?_
      exact inner len 0 L' (by omega) (fun r hr => by omega) hL'
  refine x_ildn qX7_leastCoarse_0 rfl ?_
  refine x_if_lt_nf (tgt := 12) qX7_leastCoarse_1 (by omega) (by omega) ?_
  refine x_ildn qX7_leastCoarse_4 rfl ?_
  refine x_aldn qX7_leastCoarse_5 rfl trivial ?_
  refine x_getIe qX7_leastCoarse_6 fX7_47 rfl h13 ?_
  refine x_icmp_lt_nt (tgt := 15) qX7_leastCoarse_9 (by omega) (by omega) (by omega) (by omega) ?_
  refine x_aldn qX7_leastCoarse_15 rfl trivial ?_
  refine x_getR qX7_leastCoarse_16 fX7_54 rfl rfl ?_
  refine x_ildn qX7_leastCoarse_19 rfl ?_
  refine x_iconst (v := nI 0) qX7_leastCoarse_20 rfl ?_
  refine x_cV2 (d' := 2) qX7_leastCoarse_21 cX7_164 rfl ⟨_, rfl, rfl⟩ rfl rfl (Nat.le_of_ble_eq_true rfl) (Nat.le_of_ble_eq_true rfl) (by decide) ?_
  refine c_X3_waysWith H htn (by omega) ?_
  refine x_lst3 qX7_leastCoarse_24 (by decide) rfl ?_
  refine x_iconst (v := nI 1) qX7_leastCoarse_25 rfl ?_
  refine x_ist5 qX7_leastCoarse_26 (by decide) rfl ?_
  exact outer 60 1 L _ _ (by omega) (by omega) (fun _ _ => rfl) hQ
end K27
