/-! the law: its loop, its start -/
theorem nI_6 (a : Nat) : nI a + Int32.ofInt 6 = nI (a + 6) := by
  show nI a + zI ((6 : Nat) : Int) = _
  rw [zI_nat, nI_add]
section LM
variable {l : Launch} {g : cm_G} {Q : cm_Post}
theorem lw_loop (hN : g.2.2.2.2.1 ≤ 3072) (hQ : ∀ I L R ds, Q (some (.int 1)) I L R ds) : ∀ (m k : Nat) (n : Nat) (kd mm : Nat → Nat) (len : Nat) (tx : Nat → Nat) (hs : List (List Cls)) (hx c1 : Nat) (w1 : Nat → Nat) (c2 : Nat) (w2 : Nat → Nat) (im : IM) (s : List Nat) (tp : TP) (I : cm_I) (L : cm_L) (hr tl : Option Nat), 6 * k + 6 * m ≤ 6000 → g.2.2.2.2.1 < 6 * k + 6 * m → CI n kd mm len tx hs hx c1 w1 c2 w2 im s tp I L → MI n kd mm len tx hs hx c1 w1 c2 w2 im s tp I L → (∀ p, p < 6 → TBp (tp p)) → cm_Ex l g 40 m (3 * m) mL_law 18 [.retAddr 3, .ref 0, .ref 73, .int (nI (6 * k))] [] I L (RR n hr tl) (DD n) Q := by
  intro m
  induction m with
  | zero =>
    intro k n kd mm len tx hs hx c1 w1 c2 w2 im s tp I L hr tl hb hlt C M T
    have es : (nI g.2.2.2.2.1 - nI 6).toInt = (g.2.2.2.2.1 : Int) - 6 := by
      rw [show nI g.2.2.2.2.1 - nI 6 = zI ((g.2.2.2.2.1 : Int) - 6) from by rw [← zI_nat, ← zI_nat, zI_sub]; rfl]
      exact zI_toInt (by omega) (by omega)
    have ek : (nI (6 * k)).toInt = ((6 * k : Nat) : Int) := nI_toInt (by omega)
    refine x_ildn qL_law_18 rfl ?_
    refine x_aldn qL_law_19 rfl trivial ?_
    refine x_slenX qL_law_20 ?_
    refine x_bipush (v := nI 6) qL_law_21 rfl ?_
    refine x_isub qL_law_23 ?_
    refine x_icmp_gt_t (tgt := 1038) qL_law_24 (by omega) (by rw [Int32.lt_iff_toInt_lt, es, ek]; omega) ?_
    refine x_iconst (v := nI 1) qL_law_1038 rfl ?_
    refine x_iret qL_law_1039 rfl rfl ?_
    exact hQ _ _ _ _
  | succ m ih =>
    intro k n kd mm len tx hs hx c1 w1 c2 w2 im s tp I L hr tl hb hlt C M T
    have es : (nI g.2.2.2.2.1 - nI 6).toInt = (g.2.2.2.2.1 : Int) - 6 := by
      rw [show nI g.2.2.2.2.1 - nI 6 = zI ((g.2.2.2.2.1 : Int) - 6) from by rw [← zI_nat, ← zI_nat, zI_sub]; rfl]
      exact zI_toInt (by omega) (by omega)
    have ek : (nI (6 * k)).toInt = ((6 * k : Nat) : Int) := nI_toInt (by omega)
    have nx : LN l g m k Q := fun n kd mm len tx hs hx c1 w1 c2 w2 im s tp I L hr tl C M T => by
      refine x_iinc3 qL_law_1032 (by decide) (nI_6 _) rfl ?_
      refine x_goto (tgt := 18) qL_law_1035 (by omega) ?_
      exact ih (k + 1) n kd mm len tx hs hx c1 w1 c2 w2 im s tp I L hr tl (by omega) (by omega) C M T
    refine x_ildn qL_law_18 rfl ?_
    refine x_aldn qL_law_19 rfl trivial ?_
    refine x_slenX qL_law_20 ?_
    refine x_bipush (v := nI 6) qL_law_21 rfl ?_
    refine x_isub qL_law_23 ?_
    refine x_icmp_gt (tgt := 1038) qL_law_24 (by omega) (fun h => ?_) (fun h => ?_)
    · refine x_iconst (v := nI 1) qL_law_1038 rfl ?_
      refine x_iret qL_law_1039 rfl rfl ?_
      exact hQ _ _ _ _
    · rw [Int32.lt_iff_toInt_lt, es, ek] at h
      have h6 : 6 * k + 6 ≤ g.2.2.2.2.1 := by omega
      refine x_aldn qL_law_27 rfl trivial ?_
      refine x_ildn qL_law_28 rfl ?_
      refine x_sald qL_law_29 rfl (by omega) ?_
      refine x_bipush (v := nI 31) qL_law_30 rfl ?_
      refine x_iand qL_law_32 ?_
      obtain ⟨j, hj, ej⟩ := pk_andE (g.2.2.2.2.2 (6 * k)) (m := nI 31) 5 (by decide)
      rw [ej]
      have hj32 : j < 32 := hj
      rcases (by omega : j = 0 ∨ j = 1 ∨ j = 2 ∨ j = 3 ∨ j = 4 ∨ j = 5 ∨ j = 6 ∨ j = 7 ∨ j = 8 ∨ j = 9 ∨ j = 10 ∨ j = 11 ∨ j = 12 ∨ j = 13 ∨ j = 14 ∨ j = 15 ∨ j = 16 ∨ j = 17 ∨ j = 18 ∨ j = 19 ∨ j = 20 ∨ j = 21 ∨ j = 22 ∨ j = 23 ∨ j = 24 ∨ j = 25 ∨ j = 26 ∨ j = 27 ∨ j = 28 ∨ 29 ≤ j) with rfl | rfl | rfl | rfl | rfl | rfl | rfl | rfl | rfl | rfl | rfl | rfl | rfl | rfl | rfl | rfl | rfl | rfl | rfl | rfl | rfl | rfl | rfl | rfl | rfl | rfl | rfl | rfl | rfl | h29
      · refine x_tbl (tgt := 164) (off := 131) qL_law_33 0 rfl (by decide) rfl (by omega) ?_
        exact lc_thing h6 C M T nx
      · refine x_tbl (tgt := 197) (off := 164) qL_law_33 1 rfl (by decide) rfl (by omega) ?_
        exact lc_of h6 C M T nx
      · refine x_tbl (tgt := 230) (off := 197) qL_law_33 2 rfl (by decide) rfl (by omega) ?_
        exact lc_follows h6 C M T nx
      · refine x_tbl (tgt := 273) (off := 240) qL_law_33 3 rfl (by decide) rfl (by omega) ?_
        exact lc_feed h6 C M T nx
      · refine x_tbl (tgt := 306) (off := 273) qL_law_33 4 rfl (by decide) rfl (by omega) ?_
        exact lc_house h6 C M T nx
      · refine x_tbl (tgt := 319) (off := 286) qL_law_33 5 rfl (by decide) rfl (by omega) ?_
        exact lc_reading h6 C M T nx
      · refine x_tbl (tgt := 352) (off := 319) qL_law_33 6 rfl (by decide) rfl (by omega) ?_
        exact lc_clear h6 C M T nx
      · refine x_tbl (tgt := 375) (off := 342) qL_law_33 7 rfl (by decide) rfl (by omega) ?_
        exact lc_fits h6 C M T nx
      · refine x_tbl (tgt := 408) (off := 375) qL_law_33 8 rfl (by decide) rfl (by omega) ?_
        exact lc_tales h6 C M T nx
      · refine x_tbl (tgt := 421) (off := 388) qL_law_33 9 rfl (by decide) rfl (by omega) ?_
        exact lc_may h6 C M T nx
      · refine x_tbl (tgt := 444) (off := 411) qL_law_33 10 rfl (by decide) rfl (by omega) ?_
        exact lc_fewest h6 C M T nx
      · refine x_tbl (tgt := 467) (off := 434) qL_law_33 11 rfl (by decide) rfl (by omega) ?_
        exact lc_gladdest h6 C M T nx
      · refine x_tbl (tgt := 490) (off := 457) qL_law_33 12 rfl (by decide) rfl (by omega) ?_
        exact lc_sure h6 C M T nx
      · refine x_tbl (tgt := 523) (off := 490) qL_law_33 13 rfl (by decide) rfl (by omega) ?_
        exact lc_alike h6 C M T nx
      · refine x_tbl (tgt := 536) (off := 503) qL_law_33 14 rfl (by decide) rfl (by omega) ?_
        exact lc_secret h6 C M T nx
      · refine x_tbl (tgt := 549) (off := 516) qL_law_33 15 rfl (by decide) rfl (by omega) ?_
        exact lc_part h6 C M T nx
      · refine x_tbl (tgt := 582) (off := 549) qL_law_33 16 rfl (by decide) rfl (by omega) ?_
        exact lc_wires h6 C M T nx
      · refine x_tbl (tgt := 605) (off := 572) qL_law_33 17 rfl (by decide) rfl (by omega) ?_
        exact lc_coarse h6 C M T nx
      · refine x_tbl (tgt := 638) (off := 605) qL_law_33 18 rfl (by decide) rfl (by omega) ?_
        exact lc_judge h6 C M T nx
      · refine x_tbl (tgt := 671) (off := 638) qL_law_33 19 rfl (by decide) rfl (by omega) ?_
        exact lc_image h6 C M T nx
      · refine x_tbl (tgt := 684) (off := 651) qL_law_33 20 rfl (by decide) rfl (by omega) ?_
        exact lc_undo h6 C M T nx
      · refine x_tbl (tgt := 697) (off := 664) qL_law_33 21 rfl (by decide) rfl (by omega) ?_
        exact lc_act h6 C M T nx
      · refine x_tbl (tgt := 740) (off := 707) qL_law_33 22 rfl (by decide) rfl (by omega) ?_
        exact lc_trace h6 C M T nx
      · refine x_tbl (tgt := 763) (off := 730) qL_law_33 23 rfl (by decide) rfl (by omega) ?_
        exact lc_taken h6 C M T nx
      · refine x_tbl (tgt := 796) (off := 763) qL_law_33 24 rfl (by decide) rfl (by omega) ?_
        exact lc_count h6 C M T nx
      · refine x_tbl (tgt := 819) (off := 786) qL_law_33 25 rfl (by decide) rfl (by omega) ?_
        exact lc_tape h6 C M T nx
      · refine x_tbl (tgt := 862) (off := 829) qL_law_33 26 rfl (by decide) rfl (by omega) ?_
        exact lc_item h6 C M T nx
      · refine x_tbl (tgt := 935) (off := 902) qL_law_33 27 rfl (by decide) rfl (by omega) ?_
        exact lc_read h6 C M T nx
      · refine x_tbl (tgt := 969) (off := 936) qL_law_33 28 rfl (by decide) rfl (by omega) ?_
        exact lc_shift h6 C M T nx
      · refine x_tblOut (tgt := 1032) qL_law_33 (Or.inr (by rw [nI_toInt (by omega)]; omega)) (by omega) ?_
        exact cm_up (nx n kd mm len tx hs hx c1 w1 c2 w2 im s tp I L hr tl C M T) (Nat.le_refl _) (by omega) (by omega)
theorem lw_top (hN : g.2.2.2.2.1 ≤ 3072) (hQ : ∀ I L R ds, Q (some (.int 1)) I L R ds) : cm_Ex l g 40 706 18187 mL_law 0 [.retAddr 3, .float 0, .float 0, .float 0] [] (As 0 []) (As 0 []) (As none []) [] Q := by
  refine x_new (n := 0) qL_law_0 nL_7 rfl (x_zz (Zr_as (by decide) (by decide) (by decide)) ?_)
  refine x_dup qL_law_3 rfl ?_
  refine x_cI0 (d' := 2) (mc' := 72) (ms' := 2871) (mc2 := 633) (ms2 := 15300) qL_law_4 cL_9 rfl rfl (Nat.le_of_ble_eq_true rfl) (Nat.le_of_ble_eq_true rfl) (by decide) rfl rfl ?_
  refine c_X11_init ?_
  refine x_ast1 qL_law_7 (by decide) trivial rfl ?_
  refine x_new (n := 73) qL_law_8 nL_10 rfl (x_zz (Zr_as (by decide) (by decide) (by decide)) ?_)
  refine x_dup qL_law_11 rfl ?_
  refine x_cI0 (d' := 1) (mc' := 32) (ms' := 13455) (mc2 := 600) (ms2 := 1800) qL_law_12 cL_12 rfl rfl (Nat.le_of_ble_eq_true rfl) (Nat.le_of_ble_eq_true rfl) (by decide) rfl rfl ?_
  refine c_X12_init ?_
  refine x_ast2 qL_law_15 (by decide) trivial rfl ?_
  refine x_iconst (v := nI 0) qL_law_16 rfl ?_
  refine x_ist3 qL_law_17 (by decide) rfl ?_
  refine x_memR st_R ?_
  exact lw_loop hN hQ 600 0 0 (fun _ => 0) (fun _ => 0) 0 (fun _ => 0) [] 6 0 (fun _ => 0) 0 (fun _ => 0) none [] tp0 _ _ none none (by omega) (by omega) st_CI st_MI st_TB
end LM
