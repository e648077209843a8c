/-! Telling: reach, trimBackTo -/
/-- a row of sets, bit by bit -/
def SBs (k len W : Nat) (f : Nat → Nat → Bool) (L : cm_L) : Prop := ∀ r, r < len → SB (L k r) W (f r)
def rch (lw : Nat → Bool) (fit nx : Nat → Nat → Bool) (W : Nat) : Nat → Nat → Bool
  | 0 => lw
  | r + 1 => fwd fit nx W r
theorem SBs_ne {k len W a j : Nat} {f : Nat → Nat → Bool} {L : cm_L} {v : Int64} (h : SBs k len W f L) (hk : k ≠ a) : SBs k len W f (cm_u L a j v) := fun r hr => by
  rw [cm_u_ne hk]; exact h r hr
theorem SBs_u {k r W : Nat} {f : Nat → Nat → Bool} {L : cm_L} {v : Int64} (h : SBs k r W f L) (hv : SB v W (f r)) : SBs k (r + 1) W f (cm_u L k r v) := fun i hi => by
  rw [cm_uu]
  show SB (if i = r then v else L k i) W (f i)
  by_cases e : i = r
  · subst e; rw [if_pos rfl]; exact hv
  · rw [if_neg e]; exact h i (by omega)
section K19
variable {l : Launch} {g : cm_G} {I : cm_I} {L : cm_L} {n len : Nat} {hr tl : Option Nat} {Q : cm_Post} {kd mm : Nat → Nat} {fit : Nat → Nat → Bool}
theorem SB_law (H : HI n kd mm I L) : SB (L 1 5) (wys mm n) (lwf kd mm n) := H.2.2.2.2.2.2.2.1
theorem sb_step (H : HI n kd mm I L) {x : Int64} {f : Nat → Bool} (hx : SB x (wys mm n) f) {y : Nat} (hy : y < 64) : exb (fun w => tb x w && tb (L 4 w) y) (wys mm n) = (decide (y < wys mm n) && exb (fun w => f w && nxt kd mm n w y) (wys mm n)) := by
  by_cases hyW : y < wys mm n
  · rw [decide_eq_true hyW, Bool.true_and]
    exact exb_congr fun w hw => by
      rw [SB_at H.2.2.2.1 hx hw, H.2.2.2.2.2.2.2.2.2.1 w hw y hy, decide_eq_true hyW, Bool.true_and]
  · rw [decide_eq_false hyW, Bool.false_and]
    exact exb_false.mpr fun w hw => by rw [H.2.2.2.2.2.2.2.2.2.1 w hw y hy, decide_eq_false hyW, Bool.false_and, Bool.and_false]
theorem sb_back (H : HI n kd mm I L) {x : Int64} {f : Nat → Bool} (hx : SB x (wys mm n) f) {y : Nat} (hy : y < 64) : exb (fun w => tb x w && tb (L 5 w) y) (wys mm n) = (decide (y < wys mm n) && exb (fun v => f v && nxt kd mm n y v) (wys mm n)) := by
  by_cases hyW : y < wys mm n
  · rw [decide_eq_true hyW, Bool.true_and]
    exact exb_congr fun w hw => by
      rw [SB_at H.2.2.2.1 hx hw, H.2.2.2.2.2.2.2.2.2.2.1 w hw y hy, decide_eq_true hyW, Bool.true_and]
  · rw [decide_eq_false hyW, Bool.false_and]
    exact exb_false.mpr fun w hw => by rw [H.2.2.2.2.2.2.2.2.2.2.1 w hw y hy, decide_eq_false hyW, Bool.false_and, Bool.and_false]
theorem rch_fwd {r : Nat} (hlw : ∀ w, w < wys mm n → fit 0 w = true → lwf kd mm n w = true) {x v y : Int64} (F : SB x (wys mm n) (fit r)) (h0 : r = 0 → SB y (wys mm n) (lwf kd mm n)) (h1 : ∀ r', r = r' + 1 → SB y (wys mm n) (fun v => exb (fun w => fwd fit (nxt kd mm n) (wys mm n) r' w && nxt kd mm n w v) (wys mm n))) : SB (x &&& y) (wys mm n) (fwd fit (nxt kd mm n) (wys mm n) r) := by
  intro w hw
  rw [tb_and, F w hw]
  by_cases hwW : w < wys mm n
  · cases r with
    | zero =>
      rw [h0 rfl w hw]
      simp only [hwW, decide_true, Bool.true_and]
      show (fit 0 w && lwf kd mm n w) = fit 0 w
      cases hf : fit 0 w with
      | false => rfl
      | true => rw [hlw w hwW hf]; rfl
    | succ r =>
      rw [h1 r rfl w hw]
      simp only [hwW, decide_true, Bool.true_and]
      rfl
  · simp [hwW]
theorem c_X7_reach (hl : len ≤ 12) (h13 : I 23 13 = nI len) (H : HI n kd mm I L) (F : SBs 25 len (wys mm n) fit L) (hlw : ∀ w, w < wys mm n → fit 0 w = true → lwf kd mm n w = true)
  (ht : ∀ L', tal fit (nxt kd mm n) (wys mm n) len = true → SBs 26 len (wys mm n) (fwd fit (nxt kd mm n) (wys mm n)) L' → (∀ b, b ≠ 26 → L' b = L b) → Q (some (.int 1)) I L' (RR n hr tl) (DD n))
  (hf : ∀ L', tal fit (nxt kd mm n) (wys mm n) len = false → (∀ b, b ≠ 26 → L' b = L b) → Q (some (.int 0)) I L' (RR n hr tl) (DD n)) : cm_Ex l g 4 0 0 mX7_reach 0 [.ref 23, .float 0, .float 0, .float 0] [] I L (RR n hr tl) (DD n) Q := by
  have hW : wys mm n ≤ 64 := H.2.2.2.1
  have fin : ∀ r x L', r ≤ len → (len = r ∨ x = 0) → SB x (wys mm n) (rch (lwf kd mm n) fit (nxt kd mm n) (wys mm n) r) → SBs 26 r (wys mm n) (fwd fit (nxt kd mm n) (wys mm n)) L' → (∀ b, b ≠ 26 → L' b = L b) → cm_Ex l g 4 0 0 mX7_reach 61 [.ref 23, .long x, .float 0, .int (nI r)] [] I L' (RR n hr tl) (DD n) Q := by
    intro r x L' hr0 hend hx hS hL'
    have e0 : r = 0 → len = 0 ∨ (exb (fit 0) (wys mm n) = false ∨ True) := fun _ => Or.inr (Or.inr trivial)
    by_cases hl0 : len = 0
    · have r0 : r = 0 := by omega
      subst r0
      subst hl0
      have et : tal fit (nxt kd mm n) (wys mm n) 0 = true := rfl
      refine x_lldn qX7_reach_61 rfl ?_
      refine x_lconst (v := 0) qX7_reach_62 rfl ?_
      refine x_lcmp qX7_reach_63 ?_
      refine x_if_ne (tgt := 74) qX7_reach_64 (by omega) (fun h64 => ?_) (fun h64 => ?_)
      · refine x_iconst (v := nI 1) qX7_reach_74 rfl ?_
        refine x_goto (tgt := 79) qX7_reach_75 (by omega) ?_
        refine x_iret qX7_reach_79 rfl rfl ?_
        exact ht L' et hS hL'
      · refine x_aldn qX7_reach_67 rfl trivial ?_
        refine x_getIe qX7_reach_68 fX7_47 rfl h13 ?_
        refine x_if_ne_f (tgt := 78) qX7_reach_71 (by omega) (by decide) ?_
        refine x_iconst (v := nI 1) qX7_reach_74 rfl ?_
        refine x_goto (tgt := 79) qX7_reach_75 (by omega) ?_
        refine x_iret qX7_reach_79 rfl rfl ?_
        exact ht L' et hS hL'
    · have hxe : ∀ r', r = r' + 1 → (x = 0 ↔ exb (fwd fit (nxt kd mm n) (wys mm n) r') (wys mm n) = false) := fun r' e => by
        subst e; exact SB_0 hW hx
      have et : x = 0 → tal fit (nxt kd mm n) (wys mm n) len = false := by
        intro hx0
        unfold tal
        rw [decide_eq_false hl0, Bool.false_or]
        cases hq : exb (fwd fit (nxt kd mm n) (wys mm n) (len - 1)) (wys mm n) with
        | false => rfl
        | true =>
          cases r with
          | zero =>
            have h1 := (SB_0 hW hx).mp hx0
            have h2 := fwd_back (r := 0) (k := len - 1) (by rw [Nat.zero_add]; exact hq)
            obtain ⟨w, hw, hf⟩ := exb_iff.mp h2
            have h3 := exb_false.mp h1 w hw
            have h4 := hlw w hw hf
            rw [show rch (lwf kd mm n) fit (nxt kd mm n) (wys mm n) 0 w = lwf kd mm n w from rfl, h4] at h3
            cases h3
          | succ r' =>
            have h1 := (hxe r' rfl).mp hx0
            have h2 := fwd_back (r := r') (k := len - 1 - r') (by rw [show r' + (len - 1 - r') = len - 1 by omega]; exact hq)
            rw [h1] at h2; cases h2
      have eu : ¬ x = 0 → tal fit (nxt kd mm n) (wys mm n) len = true := by
        intro hx0
        have hr1 : r = len - 1 + 1 := by rcases hend with h | h; omega; exact absurd h hx0
        unfold tal
        rw [decide_eq_false hl0, Bool.false_or]
        cases hq : exb (fwd fit (nxt kd mm n) (wys mm n) (len - 1)) (wys mm n) with
        | true => rfl
        | false => exact absurd ((hxe _ hr1).mpr hq) hx0
      refine x_lldn qX7_reach_61 rfl ?_
      refine x_lconst (v := 0) qX7_reach_62 rfl ?_
      refine x_lcmp qX7_reach_63 ?_
      refine x_if_ne (tgt := 74) qX7_reach_64 (by omega) (fun h64 => ?_) (fun h64 => ?_)
      · refine x_iconst (v := nI 1) qX7_reach_74 rfl ?_
        refine x_goto (tgt := 79) qX7_reach_75 (by omega) ?_
        refine x_iret qX7_reach_79 rfl rfl ?_
        first | (rw [lg_cmp0] at h64; exact hf L' (et h64) hL') | (rw [lg_cmp0] at h64; exact ht L' (eu h64) (by have hr1 : r = len := (by rcases hend with h | h; exact h.symm; exact absurd h h64); subst hr1; exact hS) hL')
      · refine x_aldn qX7_reach_67 rfl trivial ?_
        refine x_getIe qX7_reach_68 fX7_47 rfl h13 ?_
        refine x_if_ne_t (tgt := 78) qX7_reach_71 (by omega) (fun e => hl0 ((cm_n0 (by omega)).mp e)) ?_
        refine x_iconst (v := nI 0) qX7_reach_78 rfl ?_
        refine x_iret qX7_reach_79 rfl rfl ?_
        first | (rw [lg_cmp0] at h64; exact hf L' (et h64) hL') | (rw [lg_cmp0] at h64; exact ht L' (eu h64) (by have hr1 : r = len := (by rcases hend with h | h; exact h.symm; exact absurd h h64); subst hr1; exact hS) hL')
  have loop : ∀ m r x L', r + m = len → SB x (wys mm n) (rch (lwf kd mm n) fit (nxt kd mm n) (wys mm n) r) → SBs 26 r (wys mm n) (fwd fit (nxt kd mm n) (wys mm n)) L' → (∀ b, b ≠ 26 → L' b = L b) → cm_Ex l g 4 0 0 mX7_reach 10 [.ref 23, .long x, .float 0, .int (nI r)] [] I L' (RR n hr tl) (DD n) Q := by
    intro m
    induction m with
    | zero =>
      intro r x L' hr0 hx hS hL'
      refine x_ildn qX7_reach_10 rfl ?_
      refine x_aldn qX7_reach_11 rfl trivial ?_
      refine x_getIe qX7_reach_12 fX7_47 rfl h13 ?_
      refine x_icmp_ge_nt (tgt := 61) qX7_reach_15 (by omega) (by omega) (by omega) (by omega) ?_
      exact fin r x L' (by omega) (Or.inl (by omega)) hx hS hL'
    | succ m ih =>
      intro r x L' hr0 hx hS hL'
      have H' : HI n kd mm I L' := HI_frame H (fun _ _ => rfl) (fun b hb => hL' b (by omega))
      have F' : SB (L' 25 r) (wys mm n) (fit r) := by rw [hL' 25 (by omega)]; exact F r (by omega)
      refine x_ildn qX7_reach_10 rfl ?_
      refine x_aldn qX7_reach_11 rfl trivial ?_
      refine x_getIe qX7_reach_12 fX7_47 rfl h13 ?_
      refine x_icmp_ge_nf (tgt := 61) qX7_reach_15 (by omega) (by omega) (by omega) (by omega) ?_
      refine x_lldn qX7_reach_18 rfl ?_
      refine x_lconst (v := 0) qX7_reach_19 rfl ?_
      refine x_lcmp qX7_reach_20 ?_
      refine x_if_eq (tgt := 61) qX7_reach_21 (by omega) (fun h21 => ?_) (fun h21 => ?_)
      · exact fin r x L' (by omega) (Or.inr ((lg_cmp0 x).mp h21)) hx hS hL'
      · refine x_aldn qX7_reach_24 rfl trivial ?_
        refine x_getR qX7_reach_25 fX7_15 rfl rfl ?_
        refine x_ildn qX7_reach_28 rfl ?_
        refine x_lald qX7_reach_29 rfl rfl (by omega) (by decide) ?_
        refine x_ildn qX7_reach_30 rfl ?_
        refine x_if_ne_n (tgt := 38) qX7_reach_31 (by omega) (by omega) (fun h31 => ?_) (fun h31 => ?_)
        · obtain ⟨r', rfl⟩ : ∃ r', r = r' + 1 := ⟨r - 1, by omega⟩
          refine x_aldn qX7_reach_38 rfl trivial ?_
          refine x_getR qX7_reach_39 fX7_54 rfl rfl ?_
          refine x_lldn qX7_reach_42 rfl ?_
          refine x_cV1 (d' := 2) qX7_reach_43 cX7_132 rfl ⟨_, rfl, rfl⟩ rfl rfl (Nat.le_of_ble_eq_true rfl) (Nat.le_of_ble_eq_true rfl) (by decide) ?_
          refine c_X3_afterAny rfl H' (fun v hv => ?_)
          refine x_land qX7_reach_46 ?_
          refine x_lst1 qX7_reach_47 (by decide) rfl ?_
          refine x_aldn qX7_reach_48 rfl trivial ?_
          refine x_getR qX7_reach_49 fX7_18 rfl rfl ?_
          refine x_ildn qX7_reach_52 rfl ?_
          refine x_lldn qX7_reach_53 rfl ?_
          refine x_last qX7_reach_54 rfl rfl (by omega) (by decide) ?_
          refine x_iinc3 qX7_reach_55 (by decide) (cm_inc _) rfl ?_
          refine x_goto (tgt := 10) qX7_reach_58 (by omega) ?_
          first | (have S2 := rch_fwd (v := 0) hlw F' (fun _ => hx) (fun r' e => by omega); exact ih _ _ _ (by omega) S2 (SBs_u hS S2) (fun b hb => by rw [cm_u_ne hb]; exact hL' b hb)) | (have S2 := rch_fwd (v := 0) hlw F' (fun e => by omega) (fun r'' e => by have e2 : r' = r'' := (by omega); subst e2; intro y hy; rw [hv y hy]; exact sb_step H' hx hy); exact ih _ _ _ (by omega) S2 (SBs_u hS S2) (fun b hb => by rw [cm_u_ne hb]; exact hL' b hb))
        · have r0 : r = 0 := by omega
          subst r0
          refine x_lldn qX7_reach_34 rfl ?_
          refine x_goto (tgt := 46) qX7_reach_35 (by omega) ?_
          refine x_land qX7_reach_46 ?_
          refine x_lst1 qX7_reach_47 (by decide) rfl ?_
          refine x_aldn qX7_reach_48 rfl trivial ?_
          refine x_getR qX7_reach_49 fX7_18 rfl rfl ?_
          refine x_ildn qX7_reach_52 rfl ?_
          refine x_lldn qX7_reach_53 rfl ?_
          refine x_last qX7_reach_54 rfl rfl (by omega) (by decide) ?_
          refine x_iinc3 qX7_reach_55 (by decide) (cm_inc _) rfl ?_
          refine x_goto (tgt := 10) qX7_reach_58 (by omega) ?_
          first | (have S2 := rch_fwd (v := 0) hlw F' (fun _ => hx) (fun r' e => by omega); exact ih _ _ _ (by omega) S2 (SBs_u hS S2) (fun b hb => by rw [cm_u_ne hb]; exact hL' b hb)) | (have S2 := rch_fwd (v := 0) hlw F' (fun e => by omega) (fun r'' e => by have e2 : r' = r'' := (by omega); subst e2; intro y hy; rw [hv y hy]; exact sb_step H' hx hy); exact ih _ _ _ (by omega) S2 (SBs_u hS S2) (fun b hb => by rw [cm_u_ne hb]; exact hL' b hb))
  refine x_aldn qX7_reach_0 rfl trivial ?_
  refine x_getR qX7_reach_1 fX7_54 rfl rfl ?_
  refine x_cV0 (d' := 1) qX7_reach_4 cX7_85 rfl ⟨_, rfl, rfl⟩ rfl rfl (Nat.le_of_ble_eq_true rfl) (Nat.le_of_ble_eq_true rfl) (by decide) ?_
  refine c_X3_lawfulWays ?_
  refine x_lst1 qX7_reach_7 (by decide) rfl ?_
  refine x_iconst (v := nI 0) qX7_reach_8 rfl ?_
  refine x_ist3 qX7_reach_9 (by decide) rfl ?_
  exact loop len 0 _ L (by omega) (SB_law H) (fun r hr => by omega) (fun _ _ => rfl)
theorem c_X7_trimBackTo {rd : Nat} (hl : len ≤ 12) (hrd : rd < 100) (h13 : I 23 13 = nI len) (H : HI n kd mm I L) (F : SBs 26 len (wys mm n) (fwd fit (nxt kd mm n) (wys mm n)) L)
  (hQ : ∀ L', (∀ r, rd ≤ r → r < len → SB (L' 26 r) (wys mm n) (liv fit (nxt kd mm n) (wys mm n) len r)) → (∀ b, b ≠ 26 → L' b = L b) → Q none I L' (RR n hr tl) (DD n)) : cm_Ex l g 4 0 0 mX7_trimBackTo 0 [.ref 23, .int (nI rd), .float 0] [] I L (RR n hr tl) (DD n) Q := by
  have loop : ∀ k L', k + 1 ≤ len → (∀ r, k ≤ r → r < len → SB (L' 26 r) (wys mm n) (liv fit (nxt kd mm n) (wys mm n) len r)) → (∀ r, r < k → SB (L' 26 r) (wys mm n) (fwd fit (nxt kd mm n) (wys mm n) r)) → (∀ b, b ≠ 26 → L' b = L b) → cm_Ex l g 4 0 0 mX7_trimBackTo 7 [.ref 23, .int (nI rd), .int (nI k + Int32.ofInt (-1))] [] I L' (RR n hr tl) (DD n) Q := by
    intro k
    induction k with
    | zero =>
      intro L' hk hA hB hL'
      refine x_ildn qX7_trimBackTo_7 rfl ?_
      refine x_if_lt_t (tgt := 46) qX7_trimBackTo_8 (by omega) (by decide) ?_
      refine x_vret qX7_trimBackTo_46 rfl ?_
      exact hQ L' (fun r _ hr => hA r (Nat.zero_le _) hr) hL'
    | succ k ih =>
      intro L' hk hA hB hL'
      have H' : HI n kd mm I L' := HI_frame H (fun _ _ => rfl) (fun b hb => hL' b (by omega))
      rw [cm_dec]
      refine x_ildn qX7_trimBackTo_7 rfl ?_
      refine x_if_lt_nf (tgt := 46) qX7_trimBackTo_8 (by omega) (by omega) ?_
      refine x_ildn qX7_trimBackTo_11 rfl ?_
      refine x_ildn qX7_trimBackTo_12 rfl ?_
      refine x_icmp_lt_n (tgt := 46) qX7_trimBackTo_13 (by omega) (by omega) (by omega) (fun h13 => ?_) (fun h13 => ?_)
      · refine x_vret qX7_trimBackTo_46 rfl ?_
        exact hQ L' (fun r h1 hr => hA r (by omega) hr) hL'
      · refine x_aldn qX7_trimBackTo_16 rfl trivial ?_
        refine x_getR qX7_trimBackTo_17 fX7_18 rfl rfl ?_
        refine x_ildn qX7_trimBackTo_20 rfl ?_
        refine x_dup2 qX7_trimBackTo_21 rfl rfl ?_
        refine x_lald qX7_trimBackTo_22 rfl rfl (by omega) (by decide) ?_
        refine x_aldn qX7_trimBackTo_23 rfl trivial ?_
        refine x_getR qX7_trimBackTo_24 fX7_54 rfl rfl ?_
        refine x_aldn qX7_trimBackTo_27 rfl trivial ?_
        refine x_getR qX7_trimBackTo_28 fX7_18 rfl rfl ?_
        refine x_ildn qX7_trimBackTo_31 rfl ?_
        refine x_iconst (v := nI 1) qX7_trimBackTo_32 rfl ?_
        refine x_iadd_n qX7_trimBackTo_33 ?_
        refine x_lald qX7_trimBackTo_34 rfl rfl (by omega) (by decide) ?_
        refine x_cV1 (d' := 2) qX7_trimBackTo_35 cX7_136 rfl ⟨_, rfl, rfl⟩ rfl rfl (Nat.le_of_ble_eq_true rfl) (Nat.le_of_ble_eq_true rfl) (by decide) ?_
        refine c_X3_beforeAny rfl H' (fun v hv => ?_)
        refine x_land qX7_trimBackTo_38 ?_
        refine x_last qX7_trimBackTo_39 rfl rfl (by omega) (by decide) ?_
        refine x_iinc2 qX7_trimBackTo_40 (by decide) rfl rfl ?_
        refine x_goto (tgt := 7) qX7_trimBackTo_43 (by omega) ?_
        refine ih _ (by omega) (fun r h1 hr => ?_) (fun r hr => ?_) (fun b hb => by rw [cm_u_ne hb]; exact hL' b hb)
        · rw [cm_uu]
          show SB (if r = k then _ else _) _ _
          by_cases e : r = k
          · subst e
            rw [if_pos rfl]
            intro w hw
            rw [tb_and, hB r (by omega) w hw, hv w hw, sb_back H' (hA (r + 1) (by omega) (by omega)) hw]
            by_cases hwW : w < wys mm n
            · simp only [hwW, decide_true, Bool.true_and]
              rw [liv_succ (by omega)]
            · simp [hwW]
          · rw [if_neg e]; exact hA r (by omega) hr
        · rw [cm_uu]
          show SB (if r = k then _ else _) _ _
          rw [if_neg (by omega)]
          exact hB r (by omega)
  have start : ∀ r, len - 1 ≤ r → r < len → SB (L 26 r) (wys mm n) (liv fit (nxt kd mm n) (wys mm n) len r) := fun r h1 h2 => by
    have e : r = len - 1 := by omega
    subst e
    exact SB_ext (F _ h2) fun w _ => liv_last.symm
  by_cases h0 : len = 0
  · subst h0
    refine x_aldn qX7_trimBackTo_0 rfl trivial ?_
    refine x_getIe qX7_trimBackTo_1 fX7_47 rfl h13 ?_
    refine x_iconst (v := nI 2) qX7_trimBackTo_4 rfl ?_
    refine x_isub qX7_trimBackTo_5 ?_
    refine x_ist2 qX7_trimBackTo_6 (by decide) rfl ?_
    refine x_ildn qX7_trimBackTo_7 rfl ?_
    refine x_if_lt_t (tgt := 46) qX7_trimBackTo_8 (by omega) (by decide) ?_
    refine x_vret qX7_trimBackTo_46 rfl ?_
    exact hQ L (fun r _ hr => by omega) (fun _ _ => rfl)
  · refine x_aldn qX7_trimBackTo_0 rfl trivial ?_
    refine x_getIe qX7_trimBackTo_1 fX7_47 rfl h13 ?_
    refine x_iconst (v := nI 2) qX7_trimBackTo_4 rfl ?_
    refine x_isub qX7_trimBackTo_5 ?_
    refine x_ist2 qX7_trimBackTo_6 (by decide) rfl ?_
    have e : nI len - nI 2 = nI (len - 1) + Int32.ofInt (-1) := by
      obtain ⟨k, rfl⟩ : ∃ k, len = k + 1 := ⟨len - 1, by omega⟩
      cases k with
      | zero => decide
      | succ k => rw [Nat.add_sub_cancel, cm_dec, pk_sub (by omega)]; rfl
    rw [e]
    exact loop (len - 1) L (by omega) start (fun r hr => F r (by omega)) (fun _ _ => rfl)
end K19
