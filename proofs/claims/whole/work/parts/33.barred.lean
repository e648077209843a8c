/-! House.barred -/
theorem HI_frame {n : Nat} {kd mm : Nat → Nat} {I I' : cm_I} {L L' : cm_L} (H : HI n kd mm I L) (hI : ∀ b, (b = 1 ∨ b = 6 ∨ 106 ≤ b) → I' b = I b) (hL : ∀ b, (b = 1 ∨ b = 3 ∨ b = 4 ∨ b = 5) → L' b = L b) : HI n kd mm I' L' := by
  obtain ⟨h1, h2, h3, h4, h5, h6, h7, h8, h9, h10, h11, h12⟩ := H
  refine ⟨h1, h2, h3, h4, ?_, ?_, ?_, ?_, ?_, ?_, ?_, ?_⟩
  · rw [hI 1 (by omega)]; exact h5
  · rw [hI 1 (by omega)]; exact h6
  · intro i hi; rw [hI (106 + i) (by omega)]; exact h7 i hi
  · rw [hL 1 (by omega)]; exact h8
  · rw [hL 3 (by omega)]; exact h9
  · rw [hL 4 (by omega)]; exact h10
  · rw [hL 5 (by omega)]; exact h11
  · rw [hI 6 (by omega)]; exact h12
section K10
variable {l : Launch} {g : cm_G} {I : cm_I} {L : cm_L} {n h : Nat} {hr tl : Option Nat} {Q : cm_Post} {kd mm : Nat → Nat}
theorem c_X1_barred {toks : List Nat} {r : Nat} {f4 f5 f6 f7 : Value} (hf : f4 = .float 0 ∧ f5 = .float 0 ∧ f6 = .float 0 ∧ f7 = .float 0) (hh : h < 7) (H : HI n kd mm I L) (h3 : I (hA h) 3 = nI toks.length) (hlen : toks.length ≤ 100) (hst : ∀ i t, toks[i]? = some t → I (hA h + 3) i = ctk t) (hok : okr toks 0) (hr0 : r < 12) (hQ : ∀ v L', (∀ w, w < wys mm n → tb v w = exb (bev (tst n mm w r) toks (0, fun _ => false)).2 (bev (tst n mm w r) toks (0, fun _ => false)).1) → (∀ b, b ≠ 27 → L' b = L b) → Q (some (.long v)) I L' (RR n hr tl) (DD n)) : cm_Ex l g 4 0 0 mX1_barred 0 [.ref (hA h), .ref 1, .int (nI r), .ref 27, f4, f5, f6, f7] [] I L (RR n hr tl) (DD n) Q := by
  obtain ⟨rfl, rfl, rfl, rfl⟩ := hf
  have hW : wys mm n ≤ 64 := H.2.2.2.1
  have tail : ∀ (L' : cm_L) c (F : Nat → Nat → Bool), (∀ b, b ≠ 27 → L' b = L b) → c ≤ 24 → (∀ w, w < wys mm n → ∀ j, j < c → tb (L' 27 j) w = F w j) → (∀ v, (∀ w, w < wys mm n → tb v w = exb (F w) c) → Q (some (.long v)) I L' (RR n hr tl) (DD n)) → ∀ m k (v : Int64), k + m = c → (∀ w, w < wys mm n → tb v w = exb (F w) k) → cm_Ex l g 4 0 0 mX1_barred 106 [.ref (hA h), .ref 1, .int (nI r), .ref 27, .int (nI c), .long v, .float 0, .int (nI k)] [] I L' (RR n hr tl) (DD n) Q := by
    intro L' c F hL' hc hF hQ' m
    induction m with
    | zero =>
      intro k v hk hv
      have e : k = c := by omega
      subst e
      refine x_ild qX1_barred_106 rfl ?_
      refine x_ild qX1_barred_108 rfl ?_
      refine x_icmp_ge_nt (tgt := 135) qX1_barred_110 (by omega) (by omega) (by omega) (by omega) ?_
      refine x_lld qX1_barred_135 rfl ?_
      refine x_lret qX1_barred_137 rfl ?_
      exact hQ' v hv
    | succ m ih =>
      intro k v hk hv
      refine x_ild qX1_barred_106 rfl ?_
      refine x_ild qX1_barred_108 rfl ?_
      refine x_icmp_ge_nf (tgt := 135) qX1_barred_110 (by omega) (by omega) (by omega) (by omega) ?_
      refine x_ild qX1_barred_113 rfl ?_
      refine x_aldn qX1_barred_115 rfl trivial ?_
      refine x_alen qX1_barred_116 rfl (by decide) rfl ?_
      refine x_icmp_ge_nf (tgt := 135) qX1_barred_117 (by omega) (by omega) (by omega) (by omega) ?_
      refine x_lld qX1_barred_120 rfl ?_
      refine x_aldn qX1_barred_122 rfl trivial ?_
      refine x_ild qX1_barred_123 rfl ?_
      refine x_lald qX1_barred_125 rfl rfl (by omega) (by decide) ?_
      refine x_lor qX1_barred_126 ?_
      refine x_lst5 qX1_barred_127 (by decide) rfl ?_
      refine x_iinc7 qX1_barred_129 (by decide) (cm_inc _) rfl ?_
      refine x_goto (tgt := 106) qX1_barred_132 (by omega) ?_
      refine ih (k + 1) _ (by omega) (fun w hw => ?_)
      rw [tb_or, hv w hw, hF w hw k (by omega)]
      rfl
  have loop : ∀ (rest : List Nat) i c (L' : cm_L) (F : Nat → Nat → Bool) a6, i + rest.length = toks.length → (∀ j t, rest[j]? = some t → I (hA h + 3) (i + j) = ctk t) → okr rest c → c ≤ 24 → (∀ b, b ≠ 27 → L' b = L b) → (∀ w, w < wys mm n → ∀ j, j < c → tb (L' 27 j) w = F w j) → (∀ v L', (∀ w, w < wys mm n → tb v w = exb (bev (tst n mm w r) rest (c, F w)).2 (bev (tst n mm w r) rest (c, F w)).1) → (∀ b, b ≠ 27 → L' b = L b) → Q (some (.long v)) I L' (RR n hr tl) (DD n)) → cm_Ex l g 4 0 0 mX1_barred 6 [.ref (hA h), .ref 1, .int (nI r), .ref 27, .int (nI c), .int (nI i), a6, .float 0] [] I L' (RR n hr tl) (DD n) Q := by
    intro rest
    induction rest with
    | nil =>
      intro i c L' F a6 hi hs ho hc hL' hF hQ'
      have e : i = toks.length := by simpa using hi
      refine x_ild qX1_barred_6 rfl ?_
      refine x_aldn qX1_barred_8 rfl trivial ?_
      refine x_getIe qX1_barred_9 fX1_21 (dd_hA hh).1 h3 ?_
      refine x_icmp_ge_nt (tgt := 100) qX1_barred_12 (by omega) (by omega) (by omega) (by omega) ?_
      refine x_lconst (v := 0) qX1_barred_100 rfl ?_
      refine x_lst5 qX1_barred_101 (by decide) rfl ?_
      refine x_iconst (v := nI 0) qX1_barred_103 rfl ?_
      refine x_ist7 qX1_barred_104 (by decide) rfl ?_
      exact tail L' c F hL' hc hF (fun v hv => hQ' v L' hv hL') c 0 _ (by omega) (fun w _ => tb_0 w)
    | cons tok rest ih =>
      intro i c L' F a6 hi hs ho hc hL' hF hQ'
      simp only [List.length_cons] at hi
      have ht : I (hA h + 3) i = ctk tok := hs 0 tok rfl
      have hs' : ∀ j t, rest[j]? = some t → I (hA h + 3) (i + 1 + j) = ctk t := fun j t hj => by
        rw [show i + 1 + j = i + (j + 1) by omega]; exact hs (j + 1) t hj
      have H' : HI n kd mm I L' := HI_frame H (fun _ _ => rfl) (fun b hb => hL' b (by omega))
      by_cases t1 : tok = 5033
      · subst t1
        have o1 : 1 ≤ c ∧ okr rest c := ho
        obtain ⟨c, rfl⟩ : ∃ c', c = c' + 1 := ⟨c - 1, by omega⟩
        refine x_ild qX1_barred_6 rfl ?_
        refine x_aldn qX1_barred_8 rfl trivial ?_
        refine x_getIe qX1_barred_9 fX1_21 (dd_hA hh).1 h3 ?_
        refine x_icmp_ge_nf (tgt := 100) qX1_barred_12 (by omega) (by omega) (by omega) (by omega) ?_
        refine x_ild qX1_barred_15 rfl ?_
        refine x_aldn qX1_barred_17 rfl trivial ?_
        refine x_getR qX1_barred_18 fX1_18 (dd_hA hh).1 (rr_hA hh).2.2 ?_
        refine x_alen qX1_barred_21 (dd_hA hh).2.2.2 (by decide) rfl ?_
        refine x_icmp_ge_nf (tgt := 100) qX1_barred_22 (by omega) (by omega) (by omega) (by omega) ?_
        refine x_aldn qX1_barred_25 rfl trivial ?_
        refine x_getR qX1_barred_26 fX1_18 (dd_hA hh).1 (rr_hA hh).2.2 ?_
        refine x_ild qX1_barred_29 rfl ?_
        refine x_ialde qX1_barred_31 (dd_hA hh).2.2.2 rfl (by omega) (by decide) ht ?_
        refine x_ist6 qX1_barred_32 (by decide) rfl ?_
        refine x_ild qX1_barred_34 rfl ?_
        refine x_if_lt_t (tgt := 57) qX1_barred_36 (by omega) (by decide) ?_
        refine x_ild qX1_barred_57 rfl ?_
        refine x_iconst (v := -1) qX1_barred_59 rfl ?_
        refine x_icmp_ne_f (tgt := 74) qX1_barred_60 (by omega) (by decide) ?_
        refine x_aldn qX1_barred_63 rfl trivial ?_
        refine x_ild qX1_barred_64 rfl ?_
        refine x_cS2 (d' := 1) qX1_barred_66 cX1_47 rfl rfl (Nat.le_of_ble_eq_true rfl) (Nat.le_of_ble_eq_true rfl) (by decide) ?_
        refine c_X1_negate (by omega) ?_
        refine x_ist4 qX1_barred_69 (by decide) rfl ?_
        refine x_goto (tgt := 94) qX1_barred_71 (by omega) ?_
        refine x_iinc5 qX1_barred_94 (by decide) (cm_inc _) rfl ?_
        refine x_goto (tgt := 6) qX1_barred_97 (by omega) ?_
        refine ih (i + 1) (c + 1) _ (fun w j => if j + 1 = c + 1 then !F w j else F w j) _ (by omega) hs' o1.2 hc (fun b hb => by rw [cm_u_ne hb]; exact hL' b hb) (fun w hw j hj => ?_) hQ'
        rw [cm_uu]
        show tb (if j = c then _ else _) w = _
        by_cases hjc : j = c
        · subst hjc
          simp only [if_true]
          rw [tb_not (by omega), hF w hw j (by omega)]
        · rw [if_neg hjc, if_neg (by omega)]
          exact hF w hw j hj
      · by_cases t2 : tok = 5038 ∨ tok = 5124
        · have o1 : 2 ≤ c ∧ okr rest (c - 1) := by
            have ho2 := ho
            unfold okr at ho2
            rw [if_neg t1, if_pos t2] at ho2
            exact ho2
          obtain ⟨c, rfl⟩ : ∃ c', c = c' + 2 := ⟨c - 2, by omega⟩
          rcases t2 with t2 | t2
          · subst t2
            refine x_ild qX1_barred_6 rfl ?_
            refine x_aldn qX1_barred_8 rfl trivial ?_
            refine x_getIe qX1_barred_9 fX1_21 (dd_hA hh).1 h3 ?_
            refine x_icmp_ge_nf (tgt := 100) qX1_barred_12 (by omega) (by omega) (by omega) (by omega) ?_
            refine x_ild qX1_barred_15 rfl ?_
            refine x_aldn qX1_barred_17 rfl trivial ?_
            refine x_getR qX1_barred_18 fX1_18 (dd_hA hh).1 (rr_hA hh).2.2 ?_
            refine x_alen qX1_barred_21 (dd_hA hh).2.2.2 (by decide) rfl ?_
            refine x_icmp_ge_nf (tgt := 100) qX1_barred_22 (by omega) (by omega) (by omega) (by omega) ?_
            refine x_aldn qX1_barred_25 rfl trivial ?_
            refine x_getR qX1_barred_26 fX1_18 (dd_hA hh).1 (rr_hA hh).2.2 ?_
            refine x_ild qX1_barred_29 rfl ?_
            refine x_ialde qX1_barred_31 (dd_hA hh).2.2.2 rfl (by omega) (by decide) ht ?_
            refine x_ist6 qX1_barred_32 (by decide) rfl ?_
            refine x_ild qX1_barred_34 rfl ?_
            refine x_if_lt_t (tgt := 57) qX1_barred_36 (by omega) (by decide) ?_
            refine x_ild qX1_barred_57 rfl ?_
            refine x_iconst (v := -1) qX1_barred_59 rfl ?_
            refine x_icmp_ne_t (tgt := 74) qX1_barred_60 (by omega) (by decide) ?_
            refine x_aldn qX1_barred_74 rfl trivial ?_
            refine x_ild qX1_barred_75 rfl ?_
            refine x_ild qX1_barred_77 rfl ?_
            refine x_bipush (v := -2) qX1_barred_79 rfl ?_
            refine x_icmp_ne_f (tgt := 88) qX1_barred_81 (by omega) (by decide) ?_
            refine x_iconst (v := nI 1) qX1_barred_84 rfl ?_
            refine x_goto (tgt := 89) qX1_barred_85 (by omega) ?_
            refine x_cS3 (d' := 1) qX1_barred_89 cX1_51 rfl rfl (Nat.le_of_ble_eq_true rfl) (Nat.le_of_ble_eq_true rfl) (by decide) ?_
            refine c_X1_join (by omega) ?_
            refine x_ist4 qX1_barred_92 (by decide) rfl ?_
            refine x_iinc5 qX1_barred_94 (by decide) (cm_inc _) rfl ?_
            refine x_goto (tgt := 6) qX1_barred_97 (by omega) ?_
            refine ih (i + 1) (c + 1) _ (fun w j => if j + 2 = c + 2 then F w j && F w (j + 1) else F w j) _ (by omega) hs' o1.2 (by omega) (fun b hb => by rw [cm_u_ne hb]; exact hL' b hb) (fun w hw j hj => ?_) hQ'
            rw [cm_uu]
            show tb (if j = c then _ else _) w = _
            by_cases hjc : j = c
            · subst hjc
              simp only [if_true]
              rw [if_neg (by decide), tb_and, hF w hw j (by omega), hF w hw (j + 1) (by omega)]
            · rw [if_neg hjc, if_neg (by omega)]
              exact hF w hw j (by omega)
          · subst t2
            refine x_ild qX1_barred_6 rfl ?_
            refine x_aldn qX1_barred_8 rfl trivial ?_
            refine x_getIe qX1_barred_9 fX1_21 (dd_hA hh).1 h3 ?_
            refine x_icmp_ge_nf (tgt := 100) qX1_barred_12 (by omega) (by omega) (by omega) (by omega) ?_
            refine x_ild qX1_barred_15 rfl ?_
            refine x_aldn qX1_barred_17 rfl trivial ?_
            refine x_getR qX1_barred_18 fX1_18 (dd_hA hh).1 (rr_hA hh).2.2 ?_
            refine x_alen qX1_barred_21 (dd_hA hh).2.2.2 (by decide) rfl ?_
            refine x_icmp_ge_nf (tgt := 100) qX1_barred_22 (by omega) (by omega) (by omega) (by omega) ?_
            refine x_aldn qX1_barred_25 rfl trivial ?_
            refine x_getR qX1_barred_26 fX1_18 (dd_hA hh).1 (rr_hA hh).2.2 ?_
            refine x_ild qX1_barred_29 rfl ?_
            refine x_ialde qX1_barred_31 (dd_hA hh).2.2.2 rfl (by omega) (by decide) ht ?_
            refine x_ist6 qX1_barred_32 (by decide) rfl ?_
            refine x_ild qX1_barred_34 rfl ?_
            refine x_if_lt_t (tgt := 57) qX1_barred_36 (by omega) (by decide) ?_
            refine x_ild qX1_barred_57 rfl ?_
            refine x_iconst (v := -1) qX1_barred_59 rfl ?_
            refine x_icmp_ne_t (tgt := 74) qX1_barred_60 (by omega) (by decide) ?_
            refine x_aldn qX1_barred_74 rfl trivial ?_
            refine x_ild qX1_barred_75 rfl ?_
            refine x_ild qX1_barred_77 rfl ?_
            refine x_bipush (v := -2) qX1_barred_79 rfl ?_
            refine x_icmp_ne_t (tgt := 88) qX1_barred_81 (by omega) (by decide) ?_
            refine x_iconst (v := nI 0) qX1_barred_88 rfl ?_
            refine x_cS3 (d' := 1) qX1_barred_89 cX1_51 rfl rfl (Nat.le_of_ble_eq_true rfl) (Nat.le_of_ble_eq_true rfl) (by decide) ?_
            refine c_X1_join (by omega) ?_
            refine x_ist4 qX1_barred_92 (by decide) rfl ?_
            refine x_iinc5 qX1_barred_94 (by decide) (cm_inc _) rfl ?_
            refine x_goto (tgt := 6) qX1_barred_97 (by omega) ?_
            refine ih (i + 1) (c + 1) _ (fun w j => if j + 2 = c + 2 then F w j || F w (j + 1) else F w j) _ (by omega) hs' o1.2 (by omega) (fun b hb => by rw [cm_u_ne hb]; exact hL' b hb) (fun w hw j hj => ?_) hQ'
            rw [cm_uu]
            show tb (if j = c then _ else _) w = _
            by_cases hjc : j = c
            · subst hjc
              simp only [if_true]
              rw [if_pos (by decide), tb_or, hF w hw j (by omega), hF w hw (j + 1) (by omega)]
            · rw [if_neg hjc, if_neg (by omega)]
              exact hF w hw j (by omega)
        · have t3 : ¬ tok = 5038 := fun e => t2 (Or.inl e)
          have t4 : ¬ tok = 5124 := fun e => t2 (Or.inr e)
          have o1 : (tok / 1000 < 5 ∧ tok / 100 % 10 < 3 ∧ c < 24) ∧ okr rest (c + 1) := by
            have ho2 := ho
            unfold okr at ho2
            rw [if_neg t1, if_neg t2] at ho2
            exact ho2
          have ht' : I (hA h + 3) i = nI ((tok % 100 * 3 + tok / 100 % 10) * 5 + tok / 1000) := by
            rw [ht]; unfold ctk; rw [if_neg t1, if_neg t3, if_neg t4]; rfl
          have eb : ∀ w, bev (tst n mm w r) (tok :: rest) (c, F w) = bev (tst n mm w r) rest (c + 1, fun j => if j = c then tst n mm w r tok else F w j) := fun w => by
            show bev _ rest (bstp _ _ _) = _
            unfold bstp
            rw [if_neg t1, if_neg t3, if_neg t4]
          refine x_ild qX1_barred_6 rfl ?_
          refine x_aldn qX1_barred_8 rfl trivial ?_
          refine x_getIe qX1_barred_9 fX1_21 (dd_hA hh).1 h3 ?_
          refine x_icmp_ge_nf (tgt := 100) qX1_barred_12 (by omega) (by omega) (by omega) (by omega) ?_
          refine x_ild qX1_barred_15 rfl ?_
          refine x_aldn qX1_barred_17 rfl trivial ?_
          refine x_getR qX1_barred_18 fX1_18 (dd_hA hh).1 (rr_hA hh).2.2 ?_
          refine x_alen qX1_barred_21 (dd_hA hh).2.2.2 (by decide) rfl ?_
          refine x_icmp_ge_nf (tgt := 100) qX1_barred_22 (by omega) (by omega) (by omega) (by omega) ?_
          refine x_aldn qX1_barred_25 rfl trivial ?_
          refine x_getR qX1_barred_26 fX1_18 (dd_hA hh).1 (rr_hA hh).2.2 ?_
          refine x_ild qX1_barred_29 rfl ?_
          refine x_ialde qX1_barred_31 (dd_hA hh).2.2.2 rfl (by omega) (by decide) ht' ?_
          refine x_ist6 qX1_barred_32 (by decide) rfl ?_
          refine x_ild qX1_barred_34 rfl ?_
          refine x_if_lt_nf (tgt := 57) qX1_barred_36 (by omega) (by omega) ?_
          refine x_aldn qX1_barred_39 rfl trivial ?_
          refine x_ild qX1_barred_40 rfl ?_
          refine x_ild qX1_barred_42 rfl ?_
          refine x_aldn qX1_barred_44 rfl trivial ?_
          refine x_ildn qX1_barred_45 rfl ?_
          refine x_cS3 (d' := 3) qX1_barred_46 cX1_39 rfl rfl (Nat.le_of_ble_eq_true rfl) (Nat.le_of_ble_eq_true rfl) (by decide) ?_
          refine c_X1_tested o1.1.1 o1.1.2.1 (Nat.mod_lt _ (by decide)) hr0 H' (fun v hv => ?_)
          refine x_cS3 (d' := 1) qX1_barred_49 cX1_43 rfl rfl (Nat.le_of_ble_eq_true rfl) (Nat.le_of_ble_eq_true rfl) (by decide) ?_
          refine c_X1_push o1.1.2.2 ?_
          refine x_ist4 qX1_barred_52 (by decide) rfl ?_
          refine x_goto (tgt := 94) qX1_barred_54 (by omega) ?_
          refine x_iinc5 qX1_barred_94 (by decide) (cm_inc _) rfl ?_
          refine x_goto (tgt := 6) qX1_barred_97 (by omega) ?_
          refine ih (i + 1) (c + 1) _ (fun w j => if j = c then tst n mm w r tok else F w j) _ (by omega) hs' o1.2 (by omega) (fun b hb => by rw [cm_u_ne hb]; exact hL' b hb) (fun w hw j hj => ?_) (fun v' L'' hv' hL'' => hQ' v' L'' (fun w hw => by rw [eb]; exact hv' w hw) hL'')
          rw [cm_uu]
          show tb (if j = c then _ else _) w = _
          by_cases hjc : j = c
          · subst hjc
            simp only [if_true]
            exact hv w hw
          · rw [if_neg hjc, if_neg hjc]
            exact hF w hw j (by omega)
  refine x_iconst (v := nI 0) qX1_barred_0 rfl ?_
  refine x_ist4 qX1_barred_1 (by decide) rfl ?_
  refine x_iconst (v := nI 0) qX1_barred_3 rfl ?_
  refine x_ist5 qX1_barred_4 (by decide) rfl ?_
  exact loop toks 0 0 L (fun _ _ => false) _ (by omega) (fun j t hj => by rw [Nat.zero_add]; exact hst j t hj) hok (by omega) (fun _ _ => rfl) (fun w _ j hj => absurd hj (by omega)) hQ
end K10
