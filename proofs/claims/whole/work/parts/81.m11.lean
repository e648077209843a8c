/-! the reference: tapes -/
theorem MTP_u {tp : TP} {I I' : cm_I} {L L' : cm_L} {p : Nat} {v : Nat × Nat × (Nat → Int64)} (T : MTP tp I L) (hp : p < 6) (h1 : v.1 ≤ 5) (h2 : v.2.1 ≤ 60) (h3 : v.1 = 0 → v.2.1 = 0) (h4 : I' 102 p = tsI v.1) (h5 : I' 103 p = nI v.2.1) (h6 : ∀ j, j < 60 → L' 104 (60 * p + j) = v.2.2 j) (hI : ∀ q, q ≠ p → I' 102 q = I 102 q ∧ I' 103 q = I 103 q) (hL : ∀ q, q < 60 * p ∨ 60 * p + 60 ≤ q → L' 104 q = L 104 q) : MTP (fuT tp p v) I' L' := by
  intro q hq
  unfold fuT
  by_cases e : q = p
  · subst e
    rw [if_pos rfl]
    exact ⟨h1, h2, h3, h4, h5, h6⟩
  · rw [if_neg e, (hI q e).1, (hI q e).2]
    obtain ⟨t1, t2, t3, t4, t5, t6⟩ := T q hq
    exact ⟨t1, t2, t3, t4, t5, fun j hj => by rw [hL (60 * q + j) (by omega)]; exact t6 j hj⟩
theorem tsI_lt {k : Nat} (h : k ≤ 5) : (tsI k).toInt = (k : Int) - 1 := by
  unfold tsI
  split
  · subst_vars; decide
  · rw [nI_toInt (by omega)]; omega
section M11
variable {l : Launch} {g : cm_G} {I : cm_I} {L : cm_L} {hr tl : Option Nat} {Q : cm_Post} {u : Nat} {n : Nat} {kd mm : Nat → Nat} {len : Nat} {tx : Nat → Nat} {hs : List (List Cls)} {hx c1 : Nat} {w1 : Nat → Nat} {c2 : Nat} {w2 : Nat → Nat} {im : IM} {s : List Nat} {tp : TP}
theorem MI_tp {I' : cm_I} {L' : cm_L} {tp' : TP} (M : MI n kd mm len tx hs hx c1 w1 c2 w2 im s tp I L) (T : MTP tp' I' L') (hI : ∀ b, b ≠ 102 → b ≠ 103 → I' b = I b) : MI n kd mm len tx hs hx c1 w1 c2 w2 im s tp' I' L' := by
  obtain ⟨a1, a2, ⟨b1, b2, b3⟩, ⟨d1, d2⟩, e1, e2, f, ⟨g1, g2⟩, kk⟩ := M
  have h73 := hI 73 (by decide) (by decide)
  refine ⟨MH_fr a1 (by rw [h73]) (by rw [h73]) (hI 74 (by decide) (by decide)) (hI 75 (by decide) (by decide)), MX_fr a2 (by rw [h73]) (hI 76 (by decide) (by decide)), ⟨by rw [h73]; exact b1, b2, fun h cs hh => MHS_fr (b3 h cs hh) (fun b h1 h2 => hI b (by omega) (by omega))⟩, ⟨d1, by rw [h73]; exact d2⟩, ?_, ?_, ?_, ⟨?_, g2⟩, T⟩
  · exact MMT_fr e1 (by rw [hI 86 (by decide) (by decide)]) (hI 85 (by decide) (by decide))
  · exact MMT_fr e2 (by rw [hI 86 (by decide) (by decide)]) (hI 85 (by decide) (by decide))
  · exact MIMG_fr f (by rw [h73]) (by rw [h73]) (hI 99 (by decide) (by decide)) (hI 100 (by decide) (by decide))
  · exact MTR_fr g1 (by rw [h73]) (hI 101 (by decide) (by decide))
theorem c_X12_isTape {R : cm_R} {ds : cm_Ds} {t : Int32} (hd : ds[73]? = some (.inr 10)) (ht : inB t 6 = true → Q (some (.int 1)) I L R ds) (hf : inB t 6 = false → Q (some (.int 0)) I L R ds) : cm_Ex l g 2 0 0 mX12_isTape 0 [.ref 73, .int t] [] I L R ds Q := by
  have z0 : (nI 0).toInt = 0 := by decide
  have z5 : (nI 5).toInt = 5 := by decide
  refine x_aldn qX12_isTape_0 rfl trivial ?_
  refine x_ildn qX12_isTape_1 rfl ?_
  refine x_iconst (v := nI 0) qX12_isTape_2 rfl ?_
  refine x_iconst (v := nI 5) qX12_isTape_3 rfl ?_
  refine x_cV3 (d' := 1) qX12_isTape_4 cX12_149 hd ⟨_, rfl, rfl⟩ rfl rfl (Nat.le_of_ble_eq_true rfl) (Nat.le_of_ble_eq_true rfl) (by decide) ?_
  refine c_X12_in (fun h => ?_) (fun h => ?_)
  · rw [z0, z5] at h
    refine x_iret qX12_isTape_7 rfl rfl ?_
    exact ht (inB_iff.mpr (by omega))
  · rw [z0, z5] at h
    refine x_iret qX12_isTape_7 rfl rfl ?_
    exact hf (inF (fun e => by have := inB_iff.mp e; omega))
theorem c_X12_tape {t sr m : Int32} (M : MI n kd mm len tx hs hx c1 w1 c2 w2 im s tp I L) (hok : tapC t sr m = true → KMQ Q (.int 1) u hr tl (MI n kd mm len tx hs hx c1 w1 c2 w2 im s (fuT tp (ix t) (tapV sr m))) I L) (hno : tapC t sr m = false → KMQ Q (.int (tapA t sr m)) u hr tl (MI n kd mm len tx hs hx c1 w1 c2 w2 im s tp) I L) : cm_Ex l g 3 0 0 mX12_tape 0 [.ref 73, .int t, .int sr, .int m, .float 0] [] I L (RR u hr tl) (DD u) Q := by
  have T := M.2.2.2.2.2.2.2.2
  have z4 : (nI 4).toInt = 4 := by decide
  have zm : (-1 : Int32).toInt = -1 := by decide
  have z60 : (nI 60).toInt = 60 := by decide
  have z0 : (0 : Int32).toInt = 0 := by decide
  refine x_aldn qX12_tape_0 rfl trivial ?_
  refine x_ildn qX12_tape_1 rfl ?_
  refine x_cV1 (d' := 2) qX12_tape_2 cX12_275 rfl ⟨_, rfl, rfl⟩ rfl rfl (Nat.le_of_ble_eq_true rfl) (Nat.le_of_ble_eq_true rfl) (by decide) ?_
  refine c_X12_isTape rfl (fun hb => ?_) (fun hb => ?_)
  · obtain ⟨et, lt⟩ := inB_ix hb
    obtain ⟨t1, t2, t3, t4, t5, t6⟩ := T (ix t) lt
    refine x_if_ne_t (tgt := 10) qX12_tape_5 (by omega) (by decide) ?_
    have two : inB sr 5 = false ∨ (inB sr 5 = true ∧ 60 < m.toInt) → ¬ sr = -1 → cm_Ex l g 3 0 0 mX12_tape 30 [.ref 73, .int t, .int sr, .int m, .float 0] [] I L (RR u hr tl) (DD u) Q := fun h h1 => by
      have hc : tapC t sr m = false := by
        unfold tapC
        rw [hb, decide_eq_false h1]
        rcases h with e | e
        · rw [e]; rfl
        · rw [decide_eq_false (show ¬ m.toInt ≤ 60 by omega)]; simp
      have hq := hno hc I L M KC_rfl
      unfold tapA at hq
      rw [if_pos hb, if_neg (fun e => by rcases h with q | q; rw [q] at e; exact absurd e.1 (by decide); omega)] at hq
      refine x_bipush (v := -2) qX12_tape_30 rfl ?_
      refine x_iret qX12_tape_32 rfl rfl ?_
      exact hq
    have good : (sr = -1 ∨ (inB sr 5 = true ∧ 0 ≤ m.toInt ∧ m.toInt ≤ 60)) → cm_Ex l g 3 0 0 mX12_tape 44 [.ref 73, .int t, .int sr, .int m, .float 0] [] I L (RR u hr tl) (DD u) Q := fun h => by
      have hc : tapC t sr m = true := by
        unfold tapC
        rw [hb]
        rcases h with e | e
        · rw [decide_eq_true e]; rfl
        · rw [e.1, decide_eq_true e.2.1, decide_eq_true e.2.2]; simp
      have hq := hok hc
      have v4 : sr = tsI (tapV sr m).1 := by
        unfold tapV
        by_cases e : sr = -1
        · rw [if_pos e]; exact e
        · rw [if_neg e]
          have e2 := (h.resolve_left e).1
          show sr = (if ix sr + 1 = 0 then -1 else nI (ix sr + 1 - 1))
          rw [if_neg (by omega)]
          exact (inB_ix e2).1
      have v1 : (tapV sr m).1 ≤ 5 := by
        unfold tapV
        split
        · show 0 ≤ 5; omega
        · rename_i e
          have := (inB_ix (h.resolve_left e).1).2
          show ix sr + 1 ≤ 5; omega
      have v2 : (tapV sr m).2.1 ≤ 60 := by
        unfold tapV
        split
        · show 0 ≤ 60; omega
        · rename_i e
          have := (h.resolve_left e).2
          show ix m ≤ 60
          unfold ix; omega
      have v3 : (tapV sr m).1 = 0 → (tapV sr m).2.1 = 0 := by
        unfold tapV
        split
        · intro _; rfl
        · intro e; exact absurd (show ix sr + 1 = 0 from e) (by omega)
      have v6 : ∀ j, (tapV sr m).2.2 j = 0 := by
        intro j
        unfold tapV
        split <;> rfl
      have loop : ∀ k c L', c + k = 60 → (∀ j, j < c → L' 104 (60 * ix t + j) = 0) → (∀ q, q < 60 * ix t ∨ 60 * ix t + 60 ≤ q → L' 104 q = L 104 q) → (∀ b, b ≠ 104 → L' b = L b) → cm_Ex l g 3 0 0 mX12_tape 69 [.ref 73, .int t, .int sr, .int m, .int (nI c)] [] (cm_u (cm_u I 102 (ix t) sr) 103 (ix t) (nI (tapV sr m).2.1)) L' (RR u hr tl) (DD u) Q := by
        intro k
        induction k with
        | zero =>
          intro c L' hc hz hL hB
          refine x_ild qX12_tape_69 rfl ?_
          refine x_bipush (v := nI 60) qX12_tape_71 rfl ?_
          refine x_icmp_ge_nt (tgt := 95) qX12_tape_73 (by omega) (by omega) (by omega) (by omega) ?_
          refine x_iconst (v := nI 1) qX12_tape_95 rfl ?_
          refine x_iret qX12_tape_96 rfl rfl ?_
          refine hq _ L' (MI_tp M (MTP_u T lt v1 v2 v3 ?_ rdE (fun j hj => by rw [v6]; exact hz j (by omega)) (fun q hq => ⟨by rw [rdB (by decide), rdK hq], by rw [rdK hq, rdB (by decide)]⟩) hL) (fun b h1 h2 => by rw [cm_u_ne h2, cm_u_ne h1])) (fun b hb2 => ⟨by rw [cm_u_ne (by omega), cm_u_ne (by omega)], hB b (by omega)⟩)
          rw [rdB (by decide), rdE]; exact v4
        | succ k ih =>
          intro c L' hc hz hL hB
          refine x_ild qX12_tape_69 rfl ?_
          refine x_bipush (v := nI 60) qX12_tape_71 rfl ?_
          refine x_icmp_ge_nf (tgt := 95) qX12_tape_73 (by omega) (by omega) (by omega) (by omega) ?_
          refine x_aldn qX12_tape_76 rfl trivial ?_
          refine x_getR qX12_tape_77 fX12_142 rfl rfl ?_
          refine x_bipush (v := nI 60) qX12_tape_80 rfl ?_
          refine x_ildn qX12_tape_82 rfl ?_
          refine x_topI et ?_
          refine x_imul_n qX12_tape_83 ?_
          refine x_ild qX12_tape_84 rfl ?_
          refine x_iadd_n qX12_tape_86 ?_
          refine x_lconst (v := 0) qX12_tape_87 rfl ?_
          refine x_last qX12_tape_88 dd_104 rfl (by omega) (by decide) ?_
          refine x_iinc4 qX12_tape_89 (by decide) (cm_inc _) rfl ?_
          refine x_goto (tgt := 69) qX12_tape_92 (by omega) ?_
          refine ih (c + 1) _ (by omega) (fun j hj => ?_) (fun q hq => by rw [rdK (by omega)]; exact hL q hq) (fun b h1 => by rw [cm_u_ne h1]; exact hB b h1)
          by_cases e : j = c
          · subst e; exact rdE
          · rw [rdK (by omega)]; exact hz j (by omega)
      refine x_aldn qX12_tape_44 rfl trivial ?_
      refine x_getR qX12_tape_45 fX12_136 rfl rfl ?_
      refine x_ildn qX12_tape_48 rfl ?_
      refine x_ildn qX12_tape_49 rfl ?_
      refine x_iast qX12_tape_50 dd_102 et (by omega) (by decide) ?_
      refine x_aldn qX12_tape_51 rfl trivial ?_
      refine x_getR qX12_tape_52 fX12_139 rfl rfl ?_
      refine x_ildn qX12_tape_55 rfl ?_
      refine x_ildn qX12_tape_56 rfl ?_
      refine x_if_ge (tgt := 64) qX12_tape_57 (by omega) (fun hg => ?_) (fun hg => ?_)
      · rw [Int32.le_iff_toInt_le, z0] at hg
        have e : ¬ sr = -1 := fun e => by rw [e, zm] at hg; omega
        have h3 := h.resolve_left e
        have em := nI_ix (x := m) h3.2.1
        have ev : m = nI (tapV sr m).2.1 := by unfold tapV; rw [if_neg e]; exact em
        refine x_ildn qX12_tape_64 rfl ?_
        refine x_topI ev ?_
        refine x_iast qX12_tape_65 dd_103 et (by omega) (by decide) ?_
        refine x_iconst (v := nI 0) qX12_tape_66 rfl ?_
        refine x_ist4 qX12_tape_67 (by decide) rfl ?_
        exact loop 60 0 L (by omega) (fun j hj => absurd hj (by omega)) (fun _ _ => rfl) (fun _ _ => rfl)
      · rw [Int32.le_iff_toInt_le, z0] at hg
        have e : sr = -1 := by
          rcases h with e | e
          · exact e
          · exact absurd (inB_iff.mp e.1).1 hg
        have ev : (tapV sr m).2.1 = 0 := by unfold tapV; rw [if_pos e]
        rw [ev] at loop
        refine x_iconst (v := nI 0) qX12_tape_60 rfl ?_
        refine x_goto (tgt := 65) qX12_tape_61 (by omega) ?_
        refine x_iast qX12_tape_65 dd_103 et (by omega) (by decide) ?_
        refine x_iconst (v := nI 0) qX12_tape_66 rfl ?_
        refine x_ist4 qX12_tape_67 (by decide) rfl ?_
        exact loop 60 0 L (by omega) (fun j hj => absurd hj (by omega)) (fun _ _ => rfl) (fun _ _ => rfl)
    refine x_aldn qX12_tape_10 rfl trivial ?_
    refine x_ildn qX12_tape_11 rfl ?_
    refine x_iconst (v := -1) qX12_tape_12 rfl ?_
    refine x_iconst (v := nI 4) qX12_tape_13 rfl ?_
    refine x_cV3 (d' := 1) qX12_tape_14 cX12_149 rfl ⟨_, rfl, rfl⟩ rfl rfl (Nat.le_of_ble_eq_true rfl) (Nat.le_of_ble_eq_true rfl) (by decide) ?_
    refine c_X12_in (fun h => ?_) (fun h => ?_)
    · rw [zm, z4] at h
      refine x_if_eq_f (tgt := 30) qX12_tape_17 (by omega) (by decide) ?_
      have k33 : (¬ sr = -1 → m.toInt ≤ 60) → cm_Ex l g 3 0 0 mX12_tape 33 [.ref 73, .int t, .int sr, .int m, .float 0] [] I L (RR u hr tl) (DD u) Q := fun h60 => by
        refine x_ildn qX12_tape_33 rfl ?_
        refine x_if_lt (tgt := 44) qX12_tape_34 (by omega) (fun hs => ?_) (fun hs => ?_)
        · rw [Int32.lt_iff_toInt_lt, z0] at hs
          exact good (Or.inl (Int32.toInt_inj.mp (by rw [zm]; omega)))
        · rw [Int32.lt_iff_toInt_lt, z0] at hs
          have e : ¬ sr = -1 := fun e => by rw [e, zm] at hs; omega
          refine x_ildn qX12_tape_37 rfl ?_
          refine x_if_ge (tgt := 44) qX12_tape_38 (by omega) (fun h2 => ?_) (fun h2 => ?_)
          · rw [Int32.le_iff_toInt_le, z0] at h2
            exact good (Or.inr ⟨inB_iff.mpr (by omega), h2, h60 e⟩)
          · rw [Int32.le_iff_toInt_le, z0] at h2
            have hs5 : inB sr 5 = true := inB_iff.mpr (by omega)
            have hc : tapC t sr m = false := by
              unfold tapC
              rw [hb, decide_eq_false e, decide_eq_false h2]; simp
            have hq := hno hc I L M KC_rfl
            unfold tapA at hq
            rw [if_pos hb, if_pos ⟨hs5, h60 e⟩] at hq
            refine x_bipush (v := -14) qX12_tape_41 rfl ?_
            refine x_iret qX12_tape_43 rfl rfl ?_
            exact hq
      refine x_ildn qX12_tape_20 rfl ?_
      refine x_if_lt (tgt := 33) qX12_tape_21 (by omega) (fun hs => ?_) (fun hs => ?_)
      · rw [Int32.lt_iff_toInt_lt, z0] at hs
        exact k33 (fun e => absurd (Int32.toInt_inj.mp (by rw [zm]; omega)) e)
      · rw [Int32.lt_iff_toInt_lt, z0] at hs
        have e : ¬ sr = -1 := fun e => by rw [e, zm] at hs; omega
        refine x_ildn qX12_tape_24 rfl ?_
        refine x_bipush (v := nI 60) qX12_tape_25 rfl ?_
        refine x_icmp_le (tgt := 33) qX12_tape_27 (by omega) (fun h2 => ?_) (fun h2 => ?_)
        · rw [Int32.le_iff_toInt_le, z60] at h2
          exact k33 (fun _ => h2)
        · rw [Int32.le_iff_toInt_le, z60] at h2
          exact two (Or.inr ⟨inB_iff.mpr (by omega), by omega⟩) e
    · rw [zm, z4] at h
      refine x_if_eq_t (tgt := 30) qX12_tape_17 (by omega) (by decide) ?_
      exact two (Or.inl (inF (fun e => by have := inB_iff.mp e; omega))) (fun e => by rw [e, zm] at h; omega)
  · have hc : tapC t sr m = false := by unfold tapC; rw [hb]; rfl
    have hq := hno hc I L M KC_rfl
    unfold tapA at hq
    rw [if_neg (by rw [hb]; decide)] at hq
    refine x_if_ne_f (tgt := 10) qX12_tape_5 (by omega) (by decide) ?_
    refine x_iconst (v := -1) qX12_tape_8 rfl ?_
    refine x_iret qX12_tape_9 rfl rfl ?_
    exact hq
theorem c_X12_narrow {R : cm_R} {ds : cm_Ds} {k : Nat} {v : Int64} (hk : k < 5) (hQ : Q (some (.long (cutf k v))) I L R ds) : cm_Ex l g 1 0 0 mX12_narrow 0 [.ref 73, .int (nI k), .long v, .float 0] [] I L R ds Q := by
  rcases (by omega : k = 0 ∨ k = 1 ∨ k = 2 ∨ k = 3 ∨ k = 4) with rfl | rfl | rfl | rfl | rfl
  · refine x_ildn qX12_narrow_0 rfl ?_
    refine x_if_ne_f (tgt := 11) qX12_narrow_1 (by omega) (by decide) ?_
    refine x_lldn qX12_narrow_4 rfl ?_
    refine x_l2i qX12_narrow_5 ?_
    refine x_i2b qX12_narrow_6 ?_
    refine x_i2l qX12_narrow_7 ?_
    refine x_goto (tgt := 54) qX12_narrow_8 (by omega) ?_
    refine x_lret qX12_narrow_54 rfl ?_
    exact hQ
  · refine x_ildn qX12_narrow_0 rfl ?_
    refine x_if_ne_t (tgt := 11) qX12_narrow_1 (by omega) (by decide) ?_
    refine x_ildn qX12_narrow_11 rfl ?_
    refine x_iconst (v := nI 1) qX12_narrow_12 rfl ?_
    refine x_icmp_ne_f (tgt := 23) qX12_narrow_13 (by omega) (by decide) ?_
    refine x_lldn qX12_narrow_16 rfl ?_
    refine x_l2i qX12_narrow_17 ?_
    refine x_i2s qX12_narrow_18 ?_
    refine x_i2l qX12_narrow_19 ?_
    refine x_goto (tgt := 54) qX12_narrow_20 (by omega) ?_
    refine x_lret qX12_narrow_54 rfl ?_
    exact hQ
  · refine x_ildn qX12_narrow_0 rfl ?_
    refine x_if_ne_t (tgt := 11) qX12_narrow_1 (by omega) (by decide) ?_
    refine x_ildn qX12_narrow_11 rfl ?_
    refine x_iconst (v := nI 1) qX12_narrow_12 rfl ?_
    refine x_icmp_ne_t (tgt := 23) qX12_narrow_13 (by omega) (by decide) ?_
    refine x_ildn qX12_narrow_23 rfl ?_
    refine x_iconst (v := nI 2) qX12_narrow_24 rfl ?_
    refine x_icmp_ne_f (tgt := 34) qX12_narrow_25 (by omega) (by decide) ?_
    refine x_lldn qX12_narrow_28 rfl ?_
    refine x_l2i qX12_narrow_29 ?_
    refine x_i2l qX12_narrow_30 ?_
    refine x_goto (tgt := 54) qX12_narrow_31 (by omega) ?_
    refine x_lret qX12_narrow_54 rfl ?_
    exact hQ
  · refine x_ildn qX12_narrow_0 rfl ?_
    refine x_if_ne_t (tgt := 11) qX12_narrow_1 (by omega) (by decide) ?_
    refine x_ildn qX12_narrow_11 rfl ?_
    refine x_iconst (v := nI 1) qX12_narrow_12 rfl ?_
    refine x_icmp_ne_t (tgt := 23) qX12_narrow_13 (by omega) (by decide) ?_
    refine x_ildn qX12_narrow_23 rfl ?_
    refine x_iconst (v := nI 2) qX12_narrow_24 rfl ?_
    refine x_icmp_ne_t (tgt := 34) qX12_narrow_25 (by omega) (by decide) ?_
    refine x_ildn qX12_narrow_34 rfl ?_
    refine x_iconst (v := nI 4) qX12_narrow_35 rfl ?_
    refine x_icmp_ne_t (tgt := 53) qX12_narrow_36 (by omega) (by decide) ?_
    refine x_lldn qX12_narrow_53 rfl ?_
    refine x_lret qX12_narrow_54 rfl ?_
    exact hQ
  · refine x_ildn qX12_narrow_0 rfl ?_
    refine x_if_ne_t (tgt := 11) qX12_narrow_1 (by omega) (by decide) ?_
    refine x_ildn qX12_narrow_11 rfl ?_
    refine x_iconst (v := nI 1) qX12_narrow_12 rfl ?_
    refine x_icmp_ne_t (tgt := 23) qX12_narrow_13 (by omega) (by decide) ?_
    refine x_ildn qX12_narrow_23 rfl ?_
    refine x_iconst (v := nI 2) qX12_narrow_24 rfl ?_
    refine x_icmp_ne_t (tgt := 34) qX12_narrow_25 (by omega) (by decide) ?_
    refine x_ildn qX12_narrow_34 rfl ?_
    refine x_iconst (v := nI 4) qX12_narrow_35 rfl ?_
    refine x_icmp_ne_f (tgt := 53) qX12_narrow_36 (by omega) (by decide) ?_
    refine x_lldn qX12_narrow_39 rfl ?_
    refine x_lconst (v := 0) qX12_narrow_40 rfl ?_
    refine x_lcmp qX12_narrow_41 ?_
    refine x_if_eq (tgt := 49) qX12_narrow_42 (by omega) (fun h => ?_) (fun h => ?_)
    · rw [show cutf 4 v = 0 by unfold cutf; rw [if_pos ((lg_cmp0 v).mp h)]; rfl] at hQ
      refine x_lconst (v := 0) qX12_narrow_49 rfl ?_
      refine x_goto (tgt := 54) qX12_narrow_50 (by omega) ?_
      refine x_lret qX12_narrow_54 rfl ?_
      exact hQ
    · rw [show cutf 4 v = 1 by unfold cutf; rw [if_neg (fun e => h ((lg_cmp0 v).mpr e))]; rfl] at hQ
      refine x_lconst (v := 1) qX12_narrow_45 rfl ?_
      refine x_goto (tgt := 54) qX12_narrow_46 (by omega) ?_
      refine x_lret qX12_narrow_54 rfl ?_
      exact hQ
theorem c_X12_item {t i : Int32} {x : Int64} (M : MI n kd mm len tx hs hx c1 w1 c2 w2 im s tp I L) (hok : iteC tp t i = true → KMQ Q (.int 1) u hr tl (MI n kd mm len tx hs hx c1 w1 c2 w2 im s (fuT tp (ix t) (iteV (tp (ix t)) (ix i) x))) I L) (hno : iteC tp t i = false → KMQ Q (.int (iteA tp t)) u hr tl (MI n kd mm len tx hs hx c1 w1 c2 w2 im s tp) I L) : cm_Ex l g 3 0 0 mX12_item 0 [.ref 73, .int t, .int i, .long x, .float 0] [] I L (RR u hr tl) (DD u) Q := by
  have T := M.2.2.2.2.2.2.2.2
  have z0 : (0 : Int32).toInt = 0 := by decide
  have z0' : (nI 0).toInt = 0 := by decide
  refine x_aldn qX12_item_0 rfl trivial ?_
  refine x_ildn qX12_item_1 rfl ?_
  refine x_cV1 (d' := 2) qX12_item_2 cX12_275 rfl ⟨_, rfl, rfl⟩ rfl rfl (Nat.le_of_ble_eq_true rfl) (Nat.le_of_ble_eq_true rfl) (by decide) ?_
  refine c_X12_isTape rfl (fun hb => ?_) (fun hb => ?_)
  · obtain ⟨et, lt⟩ := inB_ix hb
    obtain ⟨t1, t2, t3, t4, t5, t6⟩ := T (ix t) lt
    have ts := tsI_lt t1
    refine x_if_ne_t (tgt := 10) qX12_item_5 (by omega) (by decide) ?_
    refine x_aldn qX12_item_10 rfl trivial ?_
    refine x_getR qX12_item_11 fX12_136 rfl rfl ?_
    refine x_ildn qX12_item_14 rfl ?_
    refine x_ialde qX12_item_15 dd_102 et (by omega) (by decide) t4 ?_
    refine x_if_ge (tgt := 22) qX12_item_16 (by omega) (fun h => ?_) (fun h => ?_)
    · rw [Int32.le_iff_toInt_le, z0, ts] at h
      refine x_aldn qX12_item_22 rfl trivial ?_
      refine x_ildn qX12_item_23 rfl ?_
      refine x_iconst (v := nI 0) qX12_item_24 rfl ?_
      refine x_aldn qX12_item_25 rfl trivial ?_
      refine x_getR qX12_item_26 fX12_139 rfl rfl ?_
      refine x_ildn qX12_item_29 rfl ?_
      refine x_ialde qX12_item_30 dd_103 et (by omega) (by decide) t5 ?_
      refine x_iconst (v := nI 1) qX12_item_31 rfl ?_
      refine x_isub qX12_item_32 ?_
      refine x_cV3 (d' := 1) qX12_item_33 cX12_149 rfl ⟨_, rfl, rfl⟩ rfl rfl (Nat.le_of_ble_eq_true rfl) (Nat.le_of_ble_eq_true rfl) (by decide) ?_
      refine c_X12_in (fun h2 => ?_) (fun h2 => ?_)
      · rw [z0', n1_toInt (by omega)] at h2
        have hi : inB i (tp (ix t)).2.1 = true := inB_iff.mpr (by omega)
        obtain ⟨ei, li⟩ := inB_ix hi
        have hc : iteC tp t i = true := by
          unfold iteC
          rw [hb, hi, show ((tp (ix t)).1 == 0) = false by rw [beq_eq_false_iff_ne]; omega]; rfl
        have hq := hok hc
        have sk : tsI (tp (ix t)).1 = nI ((tp (ix t)).1 - 1) := by unfold tsI; rw [if_neg (by omega)]
        refine x_if_ne_t (tgt := 42) qX12_item_36 (by omega) (by decide) ?_
        refine x_aldn qX12_item_42 rfl trivial ?_
        refine x_getR qX12_item_43 fX12_142 rfl rfl ?_
        refine x_bipush (v := nI 60) qX12_item_46 rfl ?_
        refine x_ildn qX12_item_48 rfl ?_
        refine x_topI et ?_
        refine x_imul_n qX12_item_49 ?_
        refine x_ildn qX12_item_50 rfl ?_
        refine x_topI ei ?_
        refine x_iadd_n qX12_item_51 ?_
        refine x_aldn qX12_item_52 rfl trivial ?_
        refine x_aldn qX12_item_53 rfl trivial ?_
        refine x_getR qX12_item_54 fX12_136 rfl rfl ?_
        refine x_ildn qX12_item_57 rfl ?_
        refine x_ialde qX12_item_58 dd_102 et (by omega) (by decide) t4 ?_
        refine x_topI sk ?_
        refine x_lldn qX12_item_59 rfl ?_
        refine x_cV2 (d' := 1) qX12_item_60 cX12_302 rfl ⟨_, rfl, rfl⟩ rfl rfl (Nat.le_of_ble_eq_true rfl) (Nat.le_of_ble_eq_true rfl) (by decide) ?_
        refine c_X12_narrow (by omega) ?_
        refine x_last qX12_item_63 dd_104 rfl (by omega) (by decide) ?_
        refine x_iconst (v := nI 1) qX12_item_64 rfl ?_
        refine x_iret qX12_item_65 rfl rfl ?_
        refine hq I _ (MI_tp M (MTP_u T lt t1 t2 t3 t4 t5 (fun j hj => ?_) (fun q hq => ⟨rfl, rfl⟩) (fun q hq => rdK (by omega))) (fun b h1 h2 => rfl)) (fun b hb2 => ⟨rfl, cm_u_ne (by omega)⟩)
        show _ = (if j = ix i then cutf ((tp (ix t)).1 - 1) x else (tp (ix t)).2.2 j)
        by_cases e : j = ix i
        · rw [if_pos e, e, rdE]
        · rw [if_neg e, rdK (by omega)]; exact t6 j hj
      · rw [z0', n1_toInt (by omega)] at h2
        have hi : inB i (tp (ix t)).2.1 = false := inF (fun e => by have := inB_iff.mp e; omega)
        have hc : iteC tp t i = false := by
          unfold iteC
          rw [hi]; simp
        have hq := hno hc I L M KC_rfl
        unfold iteA at hq
        rw [if_pos hb, if_neg (by omega)] at hq
        refine x_if_ne_f (tgt := 42) qX12_item_36 (by omega) (by decide) ?_
        refine x_bipush (v := -13) qX12_item_39 rfl ?_
        refine x_iret qX12_item_41 rfl rfl ?_
        exact hq
    · rw [Int32.le_iff_toInt_le, z0, ts] at h
      have hc : iteC tp t i = false := by
        unfold iteC
        rw [show ((tp (ix t)).1 == 0) = true by rw [beq_iff_eq]; omega]; simp
      have hq := hno hc I L M KC_rfl
      unfold iteA at hq
      rw [if_pos hb, if_pos (by omega)] at hq
      refine x_bipush (v := -11) qX12_item_19 rfl ?_
      refine x_iret qX12_item_21 rfl rfl ?_
      exact hq
  · have hc : iteC tp t i = false := by unfold iteC; rw [hb]; rfl
    have hq := hno hc I L M KC_rfl
    unfold iteA at hq
    rw [if_neg (by rw [hb]; decide)] at hq
    refine x_if_ne_f (tgt := 10) qX12_item_5 (by omega) (by decide) ?_
    refine x_iconst (v := -1) qX12_item_8 rfl ?_
    refine x_iret qX12_item_9 rfl rfl ?_
    exact hq
theorem c_X12_read {t i : Int32} (M : MI n kd mm len tx hs hx c1 w1 c2 w2 im s tp I L) (hQ : KMQ Q (.long (reaA tp t i)) u hr tl (MI n kd mm len tx hs hx c1 w1 c2 w2 im s tp) I L) : cm_Ex l g 3 0 0 mX12_read 0 [.ref 73, .int t, .int i] [] I L (RR u hr tl) (DD u) Q := by
  have hq := hQ I L M KC_rfl
  have T := M.2.2.2.2.2.2.2.2
  have z0 : (0 : Int32).toInt = 0 := by decide
  have z0' : (nI 0).toInt = 0 := by decide
  have no : (inB t 6 && inB i (tp (ix t)).2.1) = false → cm_Ex l g 3 0 0 mX12_read 34 [.ref 73, .int t, .int i] [] I L (RR u hr tl) (DD u) Q := fun e => by
    have ev : reaA tp t i = -9223372036854775808 := by unfold reaA; rw [e]; rfl
    rw [ev] at hq
    refine x_ldc2 qX12_read_34 vX12_306 ?_
    refine x_goto (tgt := 51) qX12_read_37 (by omega) ?_
    refine x_lret qX12_read_51 rfl ?_
    exact hq
  refine x_aldn qX12_read_0 rfl trivial ?_
  refine x_ildn qX12_read_1 rfl ?_
  refine x_cV1 (d' := 2) qX12_read_2 cX12_275 rfl ⟨_, rfl, rfl⟩ rfl rfl (Nat.le_of_ble_eq_true rfl) (Nat.le_of_ble_eq_true rfl) (by decide) ?_
  refine c_X12_isTape rfl (fun hb => ?_) (fun hb => ?_)
  · obtain ⟨et, lt⟩ := inB_ix hb
    obtain ⟨t1, t2, t3, t4, t5, t6⟩ := T (ix t) lt
    have ts := tsI_lt t1
    refine x_if_eq_f (tgt := 34) qX12_read_5 (by omega) (by decide) ?_
    refine x_aldn qX12_read_8 rfl trivial ?_
    refine x_getR qX12_read_9 fX12_136 rfl rfl ?_
    refine x_ildn qX12_read_12 rfl ?_
    refine x_ialde qX12_read_13 dd_102 et (by omega) (by decide) t4 ?_
    refine x_if_lt (tgt := 34) qX12_read_14 (by omega) (fun h => ?_) (fun h => ?_)
    · rw [Int32.lt_iff_toInt_lt, z0, ts] at h
      refine no ?_
      rw [hb, t3 (by omega), inF (x := i) (k := 0) (fun e => by have := inB_iff.mp e; omega)]; rfl
    · rw [Int32.lt_iff_toInt_lt, z0, ts] at h
      refine x_aldn qX12_read_17 rfl trivial ?_
      refine x_ildn qX12_read_18 rfl ?_
      refine x_iconst (v := nI 0) qX12_read_19 rfl ?_
      refine x_aldn qX12_read_20 rfl trivial ?_
      refine x_getR qX12_read_21 fX12_139 rfl rfl ?_
      refine x_ildn qX12_read_24 rfl ?_
      refine x_ialde qX12_read_25 dd_103 et (by omega) (by decide) t5 ?_
      refine x_iconst (v := nI 1) qX12_read_26 rfl ?_
      refine x_isub qX12_read_27 ?_
      refine x_cV3 (d' := 1) qX12_read_28 cX12_149 rfl ⟨_, rfl, rfl⟩ rfl rfl (Nat.le_of_ble_eq_true rfl) (Nat.le_of_ble_eq_true rfl) (by decide) ?_
      refine c_X12_in (fun h2 => ?_) (fun h2 => ?_)
      · rw [z0', n1_toInt (by omega)] at h2
        have hi : inB i (tp (ix t)).2.1 = true := inB_iff.mpr (by omega)
        obtain ⟨ei, li⟩ := inB_ix hi
        have ev : reaA tp t i = (tp (ix t)).2.2 (ix i) := by unfold reaA; rw [hb, hi]; rfl
        rw [ev] at hq
        refine x_if_ne_t (tgt := 40) qX12_read_31 (by omega) (by decide) ?_
        refine x_aldn qX12_read_40 rfl trivial ?_
        refine x_getR qX12_read_41 fX12_142 rfl rfl ?_
        refine x_bipush (v := nI 60) qX12_read_44 rfl ?_
        refine x_ildn qX12_read_46 rfl ?_
        refine x_topI et ?_
        refine x_imul_n qX12_read_47 ?_
        refine x_ildn qX12_read_48 rfl ?_
        refine x_topI ei ?_
        refine x_iadd_n qX12_read_49 ?_
        refine x_lalde qX12_read_50 dd_104 rfl (by omega) (by decide) (t6 (ix i) (by omega)) ?_
        refine x_lret qX12_read_51 rfl ?_
        exact hq
      · rw [z0', n1_toInt (by omega)] at h2
        refine x_if_ne_f (tgt := 40) qX12_read_31 (by omega) (by decide) ?_
        refine no ?_
        rw [inF (x := i) (k := (tp (ix t)).2.1) (fun e => by have := inB_iff.mp e; omega), Bool.and_false]
  · refine x_if_eq_t (tgt := 34) qX12_read_5 (by omega) (by decide) ?_
    refine no ?_
    rw [hb]; rfl
end M11
