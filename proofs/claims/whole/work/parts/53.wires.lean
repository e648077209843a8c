/-! Telling: wires, judging -/
/-- a way that an item tells; 64: none -/
def iwy (v : Int64) : Nat := if 0 ≤ v.toInt ∧ v.toInt < 64 then v.toInt.toNat else 64
/-- judging: m readings left from r on, the way before -/
def jdg (fit nx : Nat → Nat → Bool) (W : Nat) (it : Nat → Option Nat) : Nat → Nat → Option Nat → Int32
  | 0, _, _ => -5
  | m + 1, r, pr => match it r with
    | none => nI (100 + r)
    | some w => if w < W ∧ fit r w = true ∧ (∀ u, pr = some u → nx u w = true) then jdg fit nx W it m (r + 1) (some w) else nI r
/-- the items from a place on -/
def itm (sz : Nat) (x : Nat → Int64) (i : Int) (r : Nat) : Option Nat := if 0 ≤ i ∧ i + r < sz then some (iwy (x (i + r).toNat)) else none
section K28
variable {l : Launch} {g : cm_G} {I : cm_I} {L : cm_L} {n len h : Nat} {hr : Option Nat} {Q : cm_Post} {kd mm tk gl wt wt2 : Nat → Nat} {gv : Nat} {toks : List Nat}
theorem ft1w_lw {n' gv : Nat} {toks : List Nat} {tot wt : Nat → Nat} {r w : Nat} {b : Bool} (h : (ft1 (opn kd mm n' toks) tot wt gv r w && b) = true) : lwf kd mm n' w = true := by
  rw [Bool.and_eq_true] at h
  exact ft1_lw h.1
theorem c_X7_wiredSets {b : Nat} (hb : b = 0 ∨ b = 1) (hh : h < 7) (H : HI n kd mm I L) (HC : HH h tk gl gv toks I) (M : MT 15 len wt I) (M2 : MT 17 len wt2 I) (D : LD n kd mm tk gv toks len wt I L)
  (hQ : ∀ I' L', FQ I I' L L' → Q (some (.int (if b = 1 then optS (fst1 (wrp (opn kd mm n toks) (nxt kd mm n) (sumN tk mm 15 n) wt wt2 tk mm gv (wys mm n) len n) (2 ^ n) 0) else nI (cntB (wrp (opn kd mm n toks) (nxt kd mm n) (sumN tk mm 15 n) wt wt2 tk mm gv (wys mm n) len n) (2 ^ n))))) I' L' (RR n hr (some (hA h))) (DD n)) : cm_Ex l g 6 0 0 mX7_wiredSets 0 [.ref 23, .ref 17, .int (nI b), .float 0, .float 0, .float 0, .float 0] [] I L (RR n hr (some (hA h))) (DD n) Q := by
  obtain ⟨h13, h14, h28, h24, h25⟩ := id D
  have hl : len ≤ 12 := M.2.1
  have hW : wys mm n ≤ 64 := H.2.2.2.1
  have hn4 : n ≤ 4 := H.1
  have hac := hA_c hh
  have h2n : 2 ^ n ≤ 16 := Nat.pow_le_pow_right (show 2 > 0 by decide) hn4
  have hg9 := HC.2.2.2.2
  generalize hWR : wrp (opn kd mm n toks) (nxt kd mm n) (sumN tk mm 15 n) wt wt2 tk mm gv (wys mm n) len n = WR at hQ
  have outer : ∀ m s fd I' L' a5 a6, s + m = 2 ^ n → (b = 0 → fd = cntB WR s) → (b = 1 → fst1 WR (2 ^ n) 0 = fst1 WR m s) → fd ≤ 16 → (∀ c, c ≠ 29 → I' c = I c) → SBs 24 len (wys mm n) (ft1 (opn kd mm n toks) (sumN tk mm 15 n) wt gv) L' → (∀ c, (c < 24 ∨ 27 < c) → L' c = L c) → cm_Ex l g 6 0 0 mX7_wiredSets 33 [.ref 23, .ref 17, .int (nI b), .int (nI fd), .int (nI s), a5, a6] [] I' L' (RR n hr (some (hA h))) (DD n) Q := by
    intro m
    induction m with
    | zero =>
      intro s fd I' L' a5 a6 hs h0 h1 hfd hI hS hL'
      have hq := hQ I' L' ⟨fun c h1 h2 => hI c (by omega), hL'⟩
      refine x_ild qX7_wiredSets_33 rfl ?_
      refine x_iconst (v := nI 1) qX7_wiredSets_35 rfl ?_
      refine x_aldn qX7_wiredSets_36 rfl trivial ?_
      refine x_getR qX7_wiredSets_37 fX7_54 rfl rfl ?_
      refine x_getIe qX7_wiredSets_40 fX7_163 rfl ((congrFun (hI 1 (by decide)) 6).trans H.2.2.2.2.1) ?_
      refine x_ishl qX7_wiredSets_43 (x_topI (b := nI (2 ^ n)) (by rw [ib_shl (by omega) (by omega), Nat.one_mul]) ?_)
      refine x_icmp_ge_nt (tgt := 171) qX7_wiredSets_44 (by omega) (by omega) (by omega) (by omega) ?_
      rcases hb with rfl | rfl
      · refine x_ildn qX7_wiredSets_171 rfl ?_
        refine x_if_eq_t (tgt := 180) qX7_wiredSets_172 (by omega) (by decide) ?_
        refine x_ildn qX7_wiredSets_180 rfl ?_
        refine x_iret qX7_wiredSets_181 rfl rfl ?_
        rw [if_neg (by decide)] at hq
        rw [h0 rfl, show s = 2 ^ n by omega]
        exact hq
      · refine x_ildn qX7_wiredSets_171 rfl ?_
        refine x_if_eq_f (tgt := 180) qX7_wiredSets_172 (by omega) (by decide) ?_
        refine x_bipush (v := -5) qX7_wiredSets_175 rfl ?_
        refine x_goto (tgt := 181) qX7_wiredSets_177 (by omega) ?_
        refine x_iret qX7_wiredSets_181 rfl rfl ?_
        rw [if_pos rfl, h1 rfl] at hq
        exact hq
    | succ m ih =>
      intro s fd I' L' a5 a6 hs h0 h1 hfd hI hS hL'
      have HI' : HI n kd mm I' L' := HI_frame H (fun c hc => hI c (by omega)) (fun c hc => hL' c (by omega))
      have HC' : HH h tk gl gv toks I' := HH_fr HC (fun c h1 h2 => hI c (by omega))
      refine x_ild qX7_wiredSets_33 rfl ?_
      refine x_iconst (v := nI 1) qX7_wiredSets_35 rfl ?_
      refine x_aldn qX7_wiredSets_36 rfl trivial ?_
      refine x_getR qX7_wiredSets_37 fX7_54 rfl rfl ?_
      refine x_getIe qX7_wiredSets_40 fX7_163 rfl ((congrFun (hI 1 (by decide)) 6).trans H.2.2.2.2.1) ?_
      refine x_ishl qX7_wiredSets_43 (x_topI (b := nI (2 ^ n)) (by rw [ib_shl (by omega) (by omega), Nat.one_mul]) ?_)
      refine x_icmp_ge_nf (tgt := 171) qX7_wiredSets_44 (by omega) (by omega) (by omega) (by omega) ?_
      refine x_aldn qX7_wiredSets_47 rfl trivial ?_
      refine x_getR qX7_wiredSets_48 fX7_54 rfl rfl ?_
      refine x_aldn qX7_wiredSets_51 rfl trivial ?_
      refine x_getR qX7_wiredSets_52 fX7_43 rfl rr_tl ?_
      refine x_getR qX7_wiredSets_55 fX7_76 (dd_hA hh).1 (rr_hA hh).1 ?_
      refine x_ild qX7_wiredSets_58 rfl ?_
      refine x_iconst (v := nI 1) qX7_wiredSets_60 rfl ?_
      refine x_aldn qX7_wiredSets_61 rfl trivial ?_
      refine x_getR qX7_wiredSets_62 fX7_28 rfl rfl ?_
      refine x_cV4 (d' := 1) qX7_wiredSets_65 cX7_81 rfl ⟨_, rfl, rfl⟩ rfl rfl (Nat.le_of_ble_eq_true rfl) (Nat.le_of_ble_eq_true rfl) (by decide) ?_
      refine c_X3_sum (ta := hA h + 1) (sa := 29) (s := s) rfl (by omega) (Or.inr rfl) (dd_hA hh).2.1 HI' ?_
      generalize hI2 : (fun b i => if b = 29 ∧ i < wys mm n then nI 1 * sumS (I' (hA h + 1)) mm s n i else I' b i) = I2
      have f1 : ∀ c, c ≠ 29 → I2 c = I c := fun c hc => by
        rw [← hI2]
        funext i
        show (if c = 29 ∧ i < wys mm n then _ else _) = _
        rw [if_neg (by omega), hI c hc]
      have f2 : ∀ w, w < wys mm n → I2 29 w = zI (sumN tk mm s n w : Nat) ∧ -100000 ≤ ((sumN tk mm s n w : Nat) : Int) ∧ ((sumN tk mm s n w : Nat) : Int) ≤ 100000 := fun w hw => by
        have hb2 := sumN_le (s := s) H.2.1 H.1 (fun i hi => (HC.2.2.2.1 i hi).1) w (Nat.le_refl n)
        refine ⟨?_, by omega, by omega⟩
        rw [← hI2]
        show (if 29 = 29 ∧ w < wys mm n then _ else _) = _
        rw [if_pos ⟨rfl, hw⟩, sum_zI (sg := 1) HI' HC'.1.1 (zI_nat 1).symm, Int.one_mul]
      have h13' : I2 23 13 = nI len := by rw [f1 23 (by decide)]; exact h13
      have h14' : I2 23 14 = nI (wys mm n) := by rw [f1 23 (by decide)]; exact h14
      have MM2 : MT 17 len wt2 I2 := MT_fr M2 (f1 17 (by decide)) (f1 18 (by decide))
      have hgv : I2 (hA h) 5 = zI gv := by rw [f1 (hA h) (by omega), HC.1.2.2.2.2.2, zI_nat]
      have hWs : WR s = tal (fun r w => ft1 (opn kd mm n toks) (sumN tk mm 15 n) wt gv r w && nearZ (sumN tk mm s n w : Nat) (wt2 r) gv) (nxt kd mm n) (wys mm n) len := by rw [← hWR]; rfl
      generalize hFT : (fun r w => ft1 (opn kd mm n toks) (sumN tk mm 15 n) wt gv r w && nearZ (sumN tk mm s n w : Nat) (wt2 r) gv) = FT at hWs
      have next : ∀ fd' L2 a5 a6, (b = 0 → fd' = cntB WR (s + 1)) → (b = 1 → WR s = false) → fd' ≤ 16 → SBs 24 len (wys mm n) (ft1 (opn kd mm n toks) (sumN tk mm 15 n) wt gv) L2 → (∀ c, (c < 24 ∨ 27 < c) → L2 c = L c) → cm_Ex l g 6 0 0 mX7_wiredSets 165 [.ref 23, .ref 17, .int (nI b), .int (nI fd'), .int (nI s), a5, a6] [] I2 L2 (RR n hr (some (hA h))) (DD n) Q := by
        intro fd' L2 a5 a6 e0 e1 e2 e3 e4
        refine x_iinc4 qX7_wiredSets_165 (by decide) (cm_inc _) rfl ?_
        refine x_goto (tgt := 33) qX7_wiredSets_168 (by omega) ?_
        refine ih (s + 1) fd' I2 L2 _ _ (by omega) e0 (fun e => ?_) e2 f1 e3 e4
        rw [h1 e]
        simp only [fst1, e1 e]
        rfl
      have no : WR s = false → ∀ L2 a5 a6, SBs 24 len (wys mm n) (ft1 (opn kd mm n toks) (sumN tk mm 15 n) wt gv) L2 → (∀ c, (c < 24 ∨ 27 < c) → L2 c = L c) → cm_Ex l g 6 0 0 mX7_wiredSets 165 [.ref 23, .ref 17, .int (nI b), .int (nI fd), .int (nI s), a5, a6] [] I2 L2 (RR n hr (some (hA h))) (DD n) Q := by
        intro e L2 a5 a6 e3 e4
        refine next fd L2 _ _ (fun hb0 => ?_) (fun _ => e) hfd e3 e4
        rw [h0 hb0]
        show _ = cntB WR s + (if WR s = true then 1 else 0)
        rw [e]
        rfl
      have out : ∀ L2 a6, SBs 24 len (wys mm n) (ft1 (opn kd mm n toks) (sumN tk mm 15 n) wt gv) L2 → SBs 25 len (wys mm n) FT L2 → (∀ c, (c < 24 ∨ 27 < c) → L2 c = L c) → cm_Ex l g 6 0 0 mX7_wiredSets 143 [.ref 23, .ref 17, .int (nI b), .int (nI fd), .int (nI s), .int (nI 1), a6] [] I2 L2 (RR n hr (some (hA h))) (DD n) Q := by
        intro L2 a6 hS2 hF hL2
        have H2 : HI n kd mm I2 L2 := HI_frame H (fun c hc => f1 c (by omega)) (fun c hc => hL2 c (by omega))
        refine x_ild qX7_wiredSets_143 rfl ?_
        refine x_if_eq_f (tgt := 165) qX7_wiredSets_145 (by omega) (by decide) ?_
        refine x_aldn qX7_wiredSets_148 rfl trivial ?_
        refine x_cV0 (d' := 4) qX7_wiredSets_149 cX7_153 rfl ⟨_, rfl, rfl⟩ rfl rfl (Nat.le_of_ble_eq_true rfl) (Nat.le_of_ble_eq_true rfl) (by decide) ?_
        refine c_X7_reach hl h13' H2 hF (fun w _ h => by rw [← hFT] at h; exact ft1w_lw h) (fun L3 ht _ hL3 => ?_) (fun L3 hf hL3 => ?_)
        · rw [← hWs] at ht
          have e4 : ∀ c, (c < 24 ∨ 27 < c) → L3 c = L c := fun c hc => by rw [hL3 c (by omega)]; exact hL2 c hc
          have e3 : SBs 24 len (wys mm n) (ft1 (opn kd mm n toks) (sumN tk mm 15 n) wt gv) L3 := fun r hr => by rw [hL3 24 (by decide)]; exact hS2 r hr
          refine x_if_eq_f (tgt := 165) qX7_wiredSets_152 (by omega) (by decide) ?_
          rcases hb with rfl | rfl
          · refine x_ildn qX7_wiredSets_155 rfl ?_
            refine x_if_eq_t (tgt := 162) qX7_wiredSets_156 (by omega) (by decide) ?_
            refine x_iinc3 qX7_wiredSets_162 (by decide) (cm_inc _) rfl ?_
            refine next (fd + 1) L3 _ _ (fun _ => ?_) (fun e => by cases e) ?_ e3 e4
            · rw [h0 rfl]
              show _ = cntB WR s + (if WR s = true then 1 else 0)
              rw [ht]
              rfl
            · have hc : ∀ k, cntB WR k ≤ k := by
                intro k
                induction k with
                | zero => exact Nat.le_refl _
                | succ k ihk =>
                  show cntB WR k + (if WR k = true then 1 else 0) ≤ k + 1
                  split <;> omega
              have := hc s
              have := h0 rfl
              omega
          · refine x_ildn qX7_wiredSets_155 rfl ?_
            refine x_if_eq_f (tgt := 162) qX7_wiredSets_156 (by omega) (by decide) ?_
            refine x_ild qX7_wiredSets_159 rfl ?_
            refine x_iret qX7_wiredSets_161 rfl rfl ?_
            have hq := hQ I2 L3 ⟨fun c h1 h2 => f1 c (by omega), e4⟩
            rw [if_pos rfl, h1 rfl] at hq
            simp only [fst1, ht, if_true] at hq
            exact hq
        · rw [← hWs] at hf
          refine x_if_eq_t (tgt := 165) qX7_wiredSets_152 (by omega) (by decide) ?_
          exact no hf L3 _ _ (fun r hr => by rw [hL3 24 (by decide)]; exact hS2 r hr) (fun c hc => by rw [hL3 c (by omega)]; exact hL2 c hc)
      have inner : ∀ j r L2, r + j = len → SBs 24 len (wys mm n) (ft1 (opn kd mm n toks) (sumN tk mm 15 n) wt gv) L2 → SBs 25 r (wys mm n) FT L2 → (∀ c, (c < 24 ∨ 27 < c) → L2 c = L c) → cm_Ex l g 6 0 0 mX7_wiredSets 74 [.ref 23, .ref 17, .int (nI b), .int (nI fd), .int (nI s), .int (nI 1), .int (nI r)] [] I2 L2 (RR n hr (some (hA h))) (DD n) Q := by
        intro j
        induction j with
        | zero =>
          intro r L2 hr0 hS2 hF hL2
          have e : r = len := by omega
          subst e
          refine x_ild qX7_wiredSets_74 rfl ?_
          refine x_aldn qX7_wiredSets_76 rfl trivial ?_
          refine x_getIe qX7_wiredSets_77 fX7_47 rfl h13' ?_
          refine x_icmp_ge_nt (tgt := 143) qX7_wiredSets_80 (by omega) (by omega) (by omega) (by omega) ?_
          exact out L2 _ hS2 hF hL2
        | succ j ih2 =>
          intro r L2 hr0 hS2 hF hL2
          have hwt := MM2.2.2 r (by omega)
          have hwz : I2 (17 + 1) r = zI (wt2 r : Nat) := by rw [zI_nat]; exact hwt.1
          have hop := hS2 r (by omega)
          refine x_ild qX7_wiredSets_74 rfl ?_
          refine x_aldn qX7_wiredSets_76 rfl trivial ?_
          refine x_getIe qX7_wiredSets_77 fX7_47 rfl h13' ?_
          refine x_icmp_ge_nf (tgt := 143) qX7_wiredSets_80 (by omega) (by omega) (by omega) (by omega) ?_
          refine x_ild qX7_wiredSets_83 rfl ?_
          refine x_if_eq_f (tgt := 143) qX7_wiredSets_85 (by omega) (by decide) ?_
          refine x_aldn qX7_wiredSets_88 rfl trivial ?_
          refine x_getR qX7_wiredSets_89 fX7_15 rfl rfl ?_
          refine x_ild qX7_wiredSets_92 rfl ?_
          refine x_aldn qX7_wiredSets_94 rfl trivial ?_
          refine x_aldn qX7_wiredSets_95 rfl trivial ?_
          refine x_getR qX7_wiredSets_96 fX7_28 rfl rfl ?_
          refine x_ild qX7_wiredSets_99 rfl ?_
          refine x_aldn qX7_wiredSets_101 rfl trivial ?_
          refine x_ild qX7_wiredSets_102 rfl ?_
          refine x_cV1 (d' := 2) qX7_wiredSets_104 cX7_95 (dd_M (Or.inr (Or.inl rfl))).1 ⟨_, rfl, rfl⟩ rfl rfl (Nat.le_of_ble_eq_true rfl) (Nat.le_of_ble_eq_true rfl) (by decide) ?_
          refine c_X5_wattsAt (Or.inr (Or.inl rfl)) MM2.1 hl (by omega) ?_
          refine x_topI hwz ?_
          refine x_aldn qX7_wiredSets_107 rfl trivial ?_
          refine x_getR qX7_wiredSets_108 fX7_43 rfl rr_tl ?_
          refine x_getIe qX7_wiredSets_111 fX7_99 (dd_hA hh).1 hgv ?_
          refine x_cV4 (d' := 2) qX7_wiredSets_114 cX7_102 rfl ⟨_, rfl, rfl⟩ rfl rfl (Nat.le_of_ble_eq_true rfl) (Nat.le_of_ble_eq_true rfl) (by decide) ?_
          refine c_X7_near (r := r) (aim := (wt2 r : Nat)) (gv := (gv : Nat)) (f := fun w => (sumN tk mm s n w : Nat)) (Or.inr rfl) (by omega) hW h14' f2 (by omega) (by omega) (by omega) (by omega) (fun v1 hv1 => ?_)
          have hv : SB v1 (wys mm n) (FT r) := SB_ext hv1 (fun w hw => by rw [SB_at hW hop hw, ← hFT])
          refine x_last qX7_wiredSets_117 dd_25 rfl (by omega) (by decide) ?_
          refine x_aldn qX7_wiredSets_118 rfl trivial ?_
          refine x_getR qX7_wiredSets_119 fX7_15 rfl rfl ?_
          refine x_ild qX7_wiredSets_122 rfl ?_
          refine x_lald qX7_wiredSets_124 dd_25 rfl (by omega) (by decide) ?_
          have ec : cm_u L2 25 r v1 25 r = v1 := by rw [cm_uu]; show (if r = r then _ else _) = _; rw [if_pos rfl]
          have hL3 : ∀ c, (c < 24 ∨ 27 < c) → cm_u L2 25 r v1 c = L c := fun c hc => by rw [cm_u_ne (by omega)]; exact hL2 c hc
          have hS3 : SBs 24 len (wys mm n) (ft1 (opn kd mm n toks) (sumN tk mm 15 n) wt gv) (cm_u L2 25 r v1) := SBs_ne hS2 (by decide)
          rw [ec]
          refine x_lconst (v := 0) qX7_wiredSets_125 rfl ?_
          refine x_lcmp qX7_wiredSets_126 ?_
          refine x_if_eq (tgt := 134) qX7_wiredSets_127 (by omega) (fun h127 => ?_) (fun h127 => ?_)
          · refine x_iconst (v := nI 0) qX7_wiredSets_134 rfl ?_
            refine x_ist5 qX7_wiredSets_135 (by decide) rfl ?_
            refine x_iinc6 qX7_wiredSets_137 (by decide) (cm_inc _) rfl ?_
            refine x_goto (tgt := 74) qX7_wiredSets_140 (by omega) ?_
            refine x_ild qX7_wiredSets_74 rfl ?_
            refine x_aldn qX7_wiredSets_76 rfl trivial ?_
            refine x_getIe qX7_wiredSets_77 fX7_47 rfl h13' ?_
            have e : exb (FT r) (wys mm n) = false := (SB_0 hW hv).mp ((lg_cmp0 _).mp h127)
            have hx := tal_empty (nx := nxt kd mm n) (show r < len by omega) e
            rw [← hWs] at hx
            refine x_icmp_ge_n (tgt := 143) qX7_wiredSets_80 (by omega) (by omega) (by omega) (fun _ => ?_) (fun _ => ?_)
            · refine x_ild qX7_wiredSets_143 rfl ?_
              refine x_if_eq_t (tgt := 165) qX7_wiredSets_145 (by omega) (by decide) ?_
              exact no hx _ _ _ hS3 hL3
            · refine x_ild qX7_wiredSets_83 rfl ?_
              refine x_if_eq_t (tgt := 143) qX7_wiredSets_85 (by omega) (by decide) ?_
              refine x_ild qX7_wiredSets_143 rfl ?_
              refine x_if_eq_t (tgt := 165) qX7_wiredSets_145 (by omega) (by decide) ?_
              exact no hx _ _ _ hS3 hL3
          · refine x_iconst (v := nI 1) qX7_wiredSets_130 rfl ?_
            refine x_goto (tgt := 135) qX7_wiredSets_131 (by omega) ?_
            refine x_ist5 qX7_wiredSets_135 (by decide) rfl ?_
            refine x_iinc6 qX7_wiredSets_137 (by decide) (cm_inc _) rfl ?_
            refine x_goto (tgt := 74) qX7_wiredSets_140 (by omega) ?_
            exact ih2 (r + 1) _ (by omega) hS3 (SBs_u hF hv) hL3
      refine x_iconst (v := nI 1) qX7_wiredSets_68 rfl ?_
      refine x_ist5 qX7_wiredSets_69 (by decide) rfl ?_
      refine x_iconst (v := nI 0) qX7_wiredSets_71 rfl ?_
      refine x_ist6 qX7_wiredSets_72 (by decide) rfl ?_
      exact inner len 0 L' (by omega) hS (fun r hr => by omega) hL'
  have init : ∀ m r L', r + m = len → SBs 24 r (wys mm n) (ft1 (opn kd mm n toks) (sumN tk mm 15 n) wt gv) L' → (∀ c, c ≠ 24 → L' c = L c) → cm_Ex l g 6 0 0 mX7_wiredSets 2 [.ref 23, .ref 17, .int (nI b), .int (nI r), .float 0, .float 0, .float 0] [] I L' (RR n hr (some (hA h))) (DD n) Q := by
    intro m
    induction m with
    | zero =>
      intro r L' hr0 hS hL'
      have e : r = len := by omega
      subst e
      refine x_ildn qX7_wiredSets_2 rfl ?_
      refine x_aldn qX7_wiredSets_3 rfl trivial ?_
      refine x_getIe qX7_wiredSets_4 fX7_47 rfl h13 ?_
      refine x_icmp_ge_nt (tgt := 28) qX7_wiredSets_7 (by omega) (by omega) (by omega) (by omega) ?_
      refine x_iconst (v := nI 0) qX7_wiredSets_28 rfl ?_
      refine x_ist3 qX7_wiredSets_29 (by decide) rfl ?_
      refine x_iconst (v := nI 0) qX7_wiredSets_30 rfl ?_
      refine x_ist4 qX7_wiredSets_31 (by decide) rfl ?_
      exact outer (2 ^ n) 0 0 I L' _ _ (by omega) (fun _ => rfl) (fun _ => rfl) (by omega) (fun _ _ => rfl) hS (fun c hc => hL' c (by omega))
    | succ m ih =>
      intro r L' hr0 hS hL'
      refine x_ildn qX7_wiredSets_2 rfl ?_
      refine x_aldn qX7_wiredSets_3 rfl trivial ?_
      refine x_getIe qX7_wiredSets_4 fX7_47 rfl h13 ?_
      refine x_icmp_ge_nf (tgt := 28) qX7_wiredSets_7 (by omega) (by omega) (by omega) (by omega) ?_
      refine x_aldn qX7_wiredSets_10 rfl trivial ?_
      refine x_getR qX7_wiredSets_11 fX7_9 rfl rfl ?_
      refine x_ildn qX7_wiredSets_14 rfl ?_
      refine x_aldn qX7_wiredSets_15 rfl trivial ?_
      refine x_getR qX7_wiredSets_16 fX7_15 rfl rfl ?_
      refine x_ildn qX7_wiredSets_19 rfl ?_
      refine x_lald qX7_wiredSets_20 rfl rfl (by omega) (by decide) ?_
      refine x_last qX7_wiredSets_21 rfl rfl (by omega) (by decide) ?_
      refine x_iinc3 qX7_wiredSets_22 (by decide) (cm_inc _) rfl ?_
      refine x_goto (tgt := 2) qX7_wiredSets_25 (by omega) ?_
      exact ih (r + 1) _ (by omega) (SBs_u hS (by rw [hL' 25 (by decide)]; exact h25 r (by omega))) (fun c hc => by rw [cm_u_ne hc]; exact hL' c hc)
  refine x_iconst (v := nI 0) qX7_wiredSets_0 rfl ?_
  refine x_ist3 qX7_wiredSets_1 (by decide) rfl ?_
  exact init len 0 L (by omega) (fun r hr => by omega) (fun _ _ => rfl)
end K28
