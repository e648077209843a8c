/-! the reference: wires, judge -/
theorem cntB_s {p : Nat → Bool} {k : Nat} : cntB p (k + 1) = cntB p k + (if p k then 1 else 0) := rfl
def TBp (v : Nat × Nat × (Nat → Int64)) : Prop := v.1 = 1 → ∀ j, j < 60 → -128 ≤ (v.2.2 j).toInt ∧ (v.2.2 j).toInt ≤ 127
theorem l2i_byte {v : Int64} (h : -128 ≤ v.toInt ∧ v.toInt ≤ 127) : v.toInt32.toInt = v.toInt := by
  rw [Int64.toInt_toInt32]
  exact Int.bmod_eq_of_le (by omega) (by omega)
section M22
variable {l : Launch} {g : cm_G} {I : cm_I} {L : cm_L} {hr tl : Option Nat} {Q : cm_Post} {u : Nat} {n : Nat} {kd mm : Nat → Nat} {len : Nat} {tx : Nat → Nat} {hs : List (List Cls)} {hx c1 : Nat} {w1 : Nat → Nat} {c2 : Nat} {w2 : Nat → Nat} {im : IM} {s : List Nat} {tp : TP}
theorem c_X12_wireSum {cs : List Cls} {w st : Nat} (H : MH n kd mm I) (T : T91 cs I) (S : S87 n mm w I) (hw : w < 64) (hst : st < 16) (hQ : Q (some (.int (nI (sumN (fun i => lst 0 i cs) mm st n w)))) I L (RR u hr tl) (DD u)) : cm_Ex l g 1 0 0 mX12_wireSum 0 [.ref 73, .int (nI w), .int (nI st), .float 0, .float 0] [] I L (RR u hr tl) (DD u) Q := by
  obtain ⟨h4, ho, hk, h64, h0, h1, hi⟩ := id H
  have loop : ∀ m t, t + m = n → cm_Ex l g 1 0 0 mX12_wireSum 5 [.ref 73, .int (nI w), .int (nI st), .int (nI (sumN (fun i => lst 0 i cs) mm st t w)), .int (nI t)] [] I L (RR u hr tl) (DD u) Q := by
    intro m
    induction m with
    | zero =>
      intro t ht
      have e : t = n := by omega
      rw [e]
      refine x_ild qX12_wireSum_5 rfl ?_
      refine x_aldn qX12_wireSum_7 rfl trivial ?_
      refine x_getIe qX12_wireSum_8 fX12_7 rfl h0 ?_
      refine x_icmp_ge_nt (tgt := 58) qX12_wireSum_11 (by omega) (by omega) (by omega) (by omega) ?_
      refine x_ildn qX12_wireSum_58 rfl ?_
      refine x_iret qX12_wireSum_59 rfl rfl ?_
      exact hQ
    | succ m ih =>
      intro t ht
      have es : sumN (fun i => lst 0 i cs) mm st (t + 1) w = if st / 2 ^ t % 2 = 1 then sumN (fun i => lst 0 i cs) mm st t w + lst 0 (4 * t + dgt mm w t) cs else sumN (fun i => lst 0 i cs) mm st t w := rfl
      have nx := ih (t + 1) (by omega)
      rw [es] at nx
      have hdl := dgt_lt ho (show t < n by omega) w
      have hm := ho t (by omega)
      have e87 : I 87 (4 * w + t) = nI (dgt mm w t) := by rw [S t (by omega), if_pos (by omega)]
      refine x_ild qX12_wireSum_5 rfl ?_
      refine x_aldn qX12_wireSum_7 rfl trivial ?_
      refine x_getIe qX12_wireSum_8 fX12_7 rfl h0 ?_
      refine x_icmp_ge_nf (tgt := 58) qX12_wireSum_11 (by omega) (by omega) (by omega) (by omega) ?_
      refine x_ildn qX12_wireSum_14 rfl ?_
      refine x_ildn qX12_wireSum_15 rfl ?_
      refine x_ild qX12_wireSum_16 rfl ?_
      refine x_ishr qX12_wireSum_18 ?_
      refine x_iconst (v := nI 1) qX12_wireSum_19 rfl ?_
      refine x_iand qX12_wireSum_20 ?_
      rw [ib_in (by omega) (by omega)]
      have h2 := Nat.mod_lt (st / 2 ^ t) (show 2 > 0 by decide)
      refine x_iconst (v := nI 1) qX12_wireSum_21 rfl ?_
      refine x_icmp_ne_n (tgt := 49) qX12_wireSum_22 (by omega) (by omega) (by omega) (fun e => ?_) (fun e => ?_)
      · rw [if_neg e] at nx
        refine x_iconst (v := nI 0) qX12_wireSum_49 rfl ?_
        refine x_iadd_n qX12_wireSum_50 ?_
        refine x_ist3 qX12_wireSum_51 (by decide) rfl ?_
        refine x_iinc4 qX12_wireSum_52 (by decide) (cm_inc _) rfl ?_
        refine x_goto (tgt := 5) qX12_wireSum_55 (by omega) ?_
        exact nx
      · rw [if_pos e] at nx
        refine x_aldn qX12_wireSum_25 rfl trivial ?_
        refine x_getR qX12_wireSum_26 fX12_92 rfl rfl ?_
        refine x_iconst (v := nI 4) qX12_wireSum_29 rfl ?_
        refine x_ild qX12_wireSum_30 rfl ?_
        refine x_imul_n qX12_wireSum_32 ?_
        refine x_aldn qX12_wireSum_33 rfl trivial ?_
        refine x_getR qX12_wireSum_34 fX12_80 rfl rfl ?_
        refine x_iconst (v := nI 4) qX12_wireSum_37 rfl ?_
        refine x_ildn qX12_wireSum_38 rfl ?_
        refine x_imul_n qX12_wireSum_39 ?_
        refine x_ild qX12_wireSum_40 rfl ?_
        refine x_iadd_n qX12_wireSum_42 ?_
        refine x_ialde qX12_wireSum_43 dd_87 rfl (by omega) (by decide) e87 ?_
        refine x_iadd_n qX12_wireSum_44 ?_
        refine x_ialde qX12_wireSum_45 dd_91 rfl (by omega) (by decide) (T _ (by omega)) ?_
        refine x_goto (tgt := 50) qX12_wireSum_46 (by omega) ?_
        refine x_iadd_n qX12_wireSum_50 ?_
        refine x_ist3 qX12_wireSum_51 (by decide) rfl ?_
        refine x_iinc4 qX12_wireSum_52 (by decide) (cm_inc _) rfl ?_
        refine x_goto (tgt := 5) qX12_wireSum_55 (by omega) ?_
        exact nx
  refine x_iconst (v := nI 0) qX12_wireSum_0 rfl ?_
  refine x_ist3 qX12_wireSum_1 (by decide) rfl ?_
  refine x_iconst (v := nI 0) qX12_wireSum_2 rfl ?_
  refine x_ist4 qX12_wireSum_3 (by decide) rfl ?_
  exact loop n 0 (by omega)
theorem wi_fit {W wh fdn gv st : Nat} {fd : Int32} {cs : List Cls} (M : MI n kd mm len tx hs hx c1 w1 c2 w2 im s tp I L) (A : LL n kd mm cs c1 I) (hcs2 : c2 = c1) (hW : W = wys mm n) (hgv : gv = lst 3 0 cs) (hgl : gv ≤ 999) (hst : st < 16) (h9 : ∀ cl, cl ∈ cs → cl.2.2.1 ≤ 999) (h95 : ∀ r, r < c1 → ∀ w, w < W → I 95 (64 * r + w) = b2I (F1 n kd mm cs w1 r w))
  (hk : ∀ I' (a6 a7 : Value), (∀ r, r < c1 → ∀ w, w < W → I' 95 (64 * r + w) = b2I (F1 n kd mm cs w1 r w && nearZ (sumN (fun i => lst 0 i cs) mm st n w : Nat) (w2 r) gv)) → (∀ b, b ≠ 95 → I' b = I b) → cm_Ex l g 6 0 0 mX12_wires 167 [.ref 73, .int (nI wh), .int (nI fdn), .int fd, .int (nI gv), .int (nI st), a6, a7] [] I' L (RR u hr tl) (DD u) Q) : ∀ m r (a7 : Value) I', r + m = c1 → (∀ r', r' < r → ∀ w, w < W → I' 95 (64 * r' + w) = b2I (F1 n kd mm cs w1 r' w && nearZ (sumN (fun i => lst 0 i cs) mm st n w : Nat) (w2 r') gv)) → (∀ r', r ≤ r' → r' < c1 → ∀ w, w < W → I' 95 (64 * r' + w) = b2I (F1 n kd mm cs w1 r' w)) → (∀ b, b ≠ 95 → I' b = I b) → cm_Ex l g 6 0 0 mX12_wires 71 [.ref 73, .int (nI wh), .int (nI fdn), .int fd, .int (nI gv), .int (nI st), .int (nI r), a7] [] I' L (RR u hr tl) (DD u) Q := by
  subst hW
  obtain ⟨h86, hc⟩ := MI_86 M
  obtain ⟨h4, ho, hkk, h64, h0, h1, hi⟩ := id M.1
  have M2 := M.2.2.2.2.2.1
  intro m
  induction m with
  | zero =>
    intro r a7 I' hre hD hN hI
    have e : r = c1 := by omega
    rw [e] at hD ⊢
    refine x_ild qX12_wires_71 rfl ?_
    refine x_aldn qX12_wires_73 rfl trivial ?_
    refine x_getR qX12_wires_74 fX12_77 rfl rfl ?_
    refine x_iconst (v := nI 0) qX12_wires_77 rfl ?_
    refine x_ialde qX12_wires_78 dd_86 rfl (by omega) (by decide) (show _ = nI c1 from by rw [hI 86 (by decide)]; exact h86) ?_
    refine x_icmp_ge_nt (tgt := 167) qX12_wires_79 (by omega) (by omega) (by omega) (by omega) ?_
    exact hk I' _ _ hD hI
  | succ m ih =>
    intro r a7 I' hre hD hN hI
    obtain ⟨q1, q2⟩ := M2.2.2 r (by omega)
    have q1' : I 85 (12 + r) = nI (w2 r) := q1
    have mid : ∀ k w I', w + k = wys mm n → (∀ r', r' < r → ∀ w, w < wys mm n → I' 95 (64 * r' + w) = b2I (F1 n kd mm cs w1 r' w && nearZ (sumN (fun i => lst 0 i cs) mm st n w : Nat) (w2 r') gv)) → (∀ w', w' < w → I' 95 (64 * r + w') = b2I (F1 n kd mm cs w1 r w' && nearZ (sumN (fun i => lst 0 i cs) mm st n w' : Nat) (w2 r) gv)) → (∀ w', w ≤ w' → w' < wys mm n → I' 95 (64 * r + w') = b2I (F1 n kd mm cs w1 r w')) → (∀ r', r + 1 ≤ r' → r' < c1 → ∀ w, w < wys mm n → I' 95 (64 * r' + w) = b2I (F1 n kd mm cs w1 r' w)) → (∀ b, b ≠ 95 → I' b = I b) → cm_Ex l g 6 0 0 mX12_wires 85 [.ref 73, .int (nI wh), .int (nI fdn), .int fd, .int (nI gv), .int (nI st), .int (nI r), .int (nI w)] [] I' L (RR u hr tl) (DD u) Q := by
      intro k
      induction k with
      | zero =>
        intro w I' hw hD hP hR hN hI
        have k1 : I' 73 1 = nI (wys mm n) := by rw [hI 73 (by decide)]; exact h1
        refine x_ild qX12_wires_85 rfl ?_
        refine x_aldn qX12_wires_87 rfl trivial ?_
        refine x_getIe qX12_wires_88 fX12_13 rfl k1 ?_
        refine x_icmp_ge_nt (tgt := 161) qX12_wires_91 (by omega) (by omega) (by omega) (by omega) ?_
        refine x_iinc6 qX12_wires_161 (by decide) (cm_inc _) rfl ?_
        refine x_goto (tgt := 71) qX12_wires_164 (by omega) ?_
        refine ih (r + 1) _ I' (by omega) (fun r' hr' => ?_) (fun r' h1 h2 => hN r' (by omega) h2) hI
        by_cases e : r' = r
        · subst e; exact fun w' hw' => hP w' (by omega)
        · exact hD r' (by omega)
      | succ k ih2 =>
        intro w I' hw hD hP hR hN hI
        have k1 : I' 73 1 = nI (wys mm n) := by rw [hI 73 (by decide)]; exact h1
        have k95 := hR w (Nat.le_refl _) (by omega)
        have hsm : sumN (fun i => lst 0 i cs) mm st n w ≤ 999 * n := sumN_le ho h4 (fun i _ => lst_le h9) w (Nat.le_refl n)
        have fin : ∀ b, b = (F1 n kd mm cs w1 r w && nearZ (sumN (fun i => lst 0 i cs) mm st n w : Nat) (w2 r) gv) → cm_Ex l g 6 0 0 mX12_wires 154 [.ref 73, .int (nI wh), .int (nI fdn), .int fd, .int (nI gv), .int (nI st), .int (nI r), .int (nI w)] [.int (b2I b), .int (nI (64 * r + w)), .ref 95] I' L (RR u hr tl) (DD u) Q := fun b hb => by
          rw [hb]
          refine x_zast qX12_wires_154 dd_95 rfl (by omega) (by decide) (nar_b _) ?_
          refine x_iinc7 qX12_wires_155 (by decide) (cm_inc _) rfl ?_
          refine x_goto (tgt := 85) qX12_wires_158 (by omega) ?_
          refine ih2 (w + 1) _ (by omega) (fun r' h1 w' hw' => by rw [rdK (by omega)]; exact hD r' h1 w' hw') (fun w' hw' => ?_) (fun w' h1 h2 => by rw [rdK (by omega)]; exact hR w' (by omega) h2) (fun r' h1 h2 w' hw' => by rw [rdK (by omega)]; exact hN r' h1 h2 w' hw') (fun b g1 => by rw [cm_u_ne g1]; exact hI b g1)
          by_cases e : w' = w
          · subst e; exact rdE
          · rw [rdK (by omega)]; exact hP w' (by omega)
        refine x_ild qX12_wires_85 rfl ?_
        refine x_aldn qX12_wires_87 rfl trivial ?_
        refine x_getIe qX12_wires_88 fX12_13 rfl k1 ?_
        refine x_icmp_ge_nf (tgt := 161) qX12_wires_91 (by omega) (by omega) (by omega) (by omega) ?_
        refine x_aldn qX12_wires_94 rfl trivial ?_
        refine x_getR qX12_wires_95 fX12_105 rfl rfl ?_
        refine x_bipush (v := nI 64) qX12_wires_98 rfl ?_
        refine x_ild qX12_wires_100 rfl ?_
        refine x_imul_n qX12_wires_102 ?_
        refine x_ild qX12_wires_103 rfl ?_
        refine x_iadd_n qX12_wires_105 ?_
        refine x_aldn qX12_wires_106 rfl trivial ?_
        refine x_getR qX12_wires_107 fX12_105 rfl rfl ?_
        refine x_bipush (v := nI 64) qX12_wires_110 rfl ?_
        refine x_ild qX12_wires_112 rfl ?_
        refine x_imul_n qX12_wires_114 ?_
        refine x_ild qX12_wires_115 rfl ?_
        refine x_iadd_n qX12_wires_117 ?_
        refine x_zalde qX12_wires_118 dd_95 rfl (by omega) (by decide) k95 ?_
        cases hf : F1 n kd mm cs w1 r w with
        | false =>
          refine x_if_eq_t (tgt := 153) qX12_wires_119 (by omega) (by decide) ?_
          refine x_iconst (v := nI 0) qX12_wires_153 rfl ?_
          exact fin false (by rw [hf]; rfl)
        | true =>
          refine x_if_eq_f (tgt := 153) qX12_wires_119 (by omega) (by decide) ?_
          refine x_aldn qX12_wires_122 rfl trivial ?_
          refine x_aldn qX12_wires_123 rfl trivial ?_
          refine x_ild qX12_wires_124 rfl ?_
          refine x_ild qX12_wires_126 rfl ?_
          refine x_cV2 (d' := 1) qX12_wires_128 cX12_272 rfl ⟨_, rfl, rfl⟩ rfl rfl (Nat.le_of_ble_eq_true rfl) (Nat.le_of_ble_eq_true rfl) (by decide) ?_
          refine c_X12_wireSum (cs := cs) (kd := kd) (MH_fr M.1 (by rw [hI 73 (by decide)]) (by rw [hI 73 (by decide)]) (hI 74 (by decide)) (hI 75 (by decide))) (T91_fr A.1 (hI 91 (by decide))) (S87_fr (A.2.1 w (by omega)).1 (hI 87 (by decide))) (by omega) hst ?_
          refine x_aldn qX12_wires_131 rfl trivial ?_
          refine x_getR qX12_wires_132 fX12_74 rfl rfl ?_
          refine x_bipush (v := nI 12) qX12_wires_135 rfl ?_
          refine x_ild qX12_wires_137 rfl ?_
          refine x_iadd_n qX12_wires_139 ?_
          refine x_ialde qX12_wires_140 dd_85 rfl (by omega) (by decide) (show _ = nI (w2 r) from by rw [hI 85 (by decide)]; exact q1') ?_
          refine x_ild qX12_wires_141 rfl ?_
          refine x_cV3 (d' := 1) qX12_wires_143 cX12_233 rfl ⟨_, rfl, rfl⟩ rfl rfl (Nat.le_of_ble_eq_true rfl) (Nat.le_of_ble_eq_true rfl) (by decide) ?_
          refine c_X12_isNear (zI_nat _).symm (zI_nat _).symm (zI_nat _).symm (by omega) (by omega) (by omega) (by omega) (by omega) (by omega) ?_
          cases hn : nearZ (sumN (fun i => lst 0 i cs) mm st n w : Nat) (w2 r) gv with
          | false =>
            refine x_if_eq_t (tgt := 153) qX12_wires_146 (by omega) (by decide) ?_
            refine x_iconst (v := nI 0) qX12_wires_153 rfl ?_
            exact fin false (by rw [hf, hn]; rfl)
          | true =>
            refine x_if_eq_f (tgt := 153) qX12_wires_146 (by omega) (by decide) ?_
            refine x_iconst (v := nI 1) qX12_wires_149 rfl ?_
            refine x_goto (tgt := 154) qX12_wires_150 (by omega) ?_
            exact fin true (by rw [hf, hn]; rfl)
    refine x_ild qX12_wires_71 rfl ?_
    refine x_aldn qX12_wires_73 rfl trivial ?_
    refine x_getR qX12_wires_74 fX12_77 rfl rfl ?_
    refine x_iconst (v := nI 0) qX12_wires_77 rfl ?_
    refine x_ialde qX12_wires_78 dd_86 rfl (by omega) (by decide) (show _ = nI c1 from by rw [hI 86 (by decide)]; exact h86) ?_
    refine x_icmp_ge_nf (tgt := 167) qX12_wires_79 (by omega) (by omega) (by omega) (by omega) ?_
    refine x_iconst (v := nI 0) qX12_wires_82 rfl ?_
    refine x_ist7 qX12_wires_83 (by decide) rfl ?_
    exact mid (wys mm n) 0 I' (by omega) hD (fun w' hw' => absurd hw' (by omega)) (fun w' _ h2 => hN r (Nat.le_refl _) (by omega) w' h2) (fun r' h1 h2 => hN r' (by omega) h2) hI
theorem c_X12_wires {w : Int32} (M : MI n kd mm len tx hs hx c1 w1 c2 w2 im s tp I L) (hQ : KMQ Q (.int (wirA n kd mm (hcs hs hx) c1 w1 c2 w2 w)) u hr tl (MI n kd mm len tx hs hx c1 w1 c2 w2 im s tp) I L) : cm_Ex l g 6 0 0 mX12_wires 0 [.ref 73, .int w, .float 0, .float 0, .float 0, .float 0, .float 0, .float 0] [] I L (RR u hr tl) (DD u) Q := by
  obtain ⟨h86, hc⟩ := MI_86 M
  obtain ⟨h4, ho, hkk, h64, h0, h1, hi⟩ := id M.1
  have M2 := M.2.2.2.2.2.1
  have c22 := M2.2.1
  have p16 : 2 ^ n ≤ 16 := Nat.pow_le_pow_right (show 2 > 0 by decide) h4
  have h9 := HK_999 (MI_HK M)
  have hg9 : lst 3 0 (hcs hs hx) ≤ 999 := lst_le h9
  unfold wirA at hQ
  refine x_aldn qX12_wires_0 rfl trivial ?_
  refine x_ildn qX12_wires_1 rfl ?_
  refine x_iconst (v := nI 0) qX12_wires_2 rfl ?_
  refine x_iconst (v := nI 1) qX12_wires_3 rfl ?_
  refine x_cV3 (d' := 1) qX12_wires_4 cX12_149 rfl ⟨_, rfl, rfl⟩ rfl rfl (Nat.le_of_ble_eq_true rfl) (Nat.le_of_ble_eq_true rfl) (by decide) ?_
  refine c_X12_in (fun h => ?_) (fun h => ?_)
  · have hw := i01.mp h
    obtain ⟨ew, lw⟩ := inB_ix hw
    rw [if_pos hw] at hQ
    generalize ix w = b at *
    subst ew
    refine x_if_ne_t (tgt := 12) qX12_wires_7 (by omega) (by decide) ?_
    refine x_aldn qX12_wires_12 rfl trivial ?_
    refine x_getR qX12_wires_13 fX12_77 rfl rfl ?_
    refine x_iconst (v := nI 0) qX12_wires_16 rfl ?_
    refine x_ialde qX12_wires_17 dd_86 rfl (by omega) (by decide) h86 ?_
    refine x_aldn qX12_wires_18 rfl trivial ?_
    refine x_getR qX12_wires_19 fX12_77 rfl rfl ?_
    refine x_iconst (v := nI 1) qX12_wires_22 rfl ?_
    refine x_ialde qX12_wires_23 dd_86 rfl (by omega) (by decide) M2.1 ?_
    refine x_icmp_eq_n (tgt := 30) qX12_wires_24 (by omega) (by omega) (by omega) (fun ec => ?_) (fun ec => ?_)
    · rw [if_pos ec.symm] at hQ
      have ep : ∀ st, wrp (opn kd mm n (btk (hcs hs hx))) (nxt kd mm n) (sumN (fun i => lst 0 i (hcs hs hx)) mm 15 n) w1 w2 (fun i => lst 0 i (hcs hs hx)) mm (lst 3 0 (hcs hs hx)) (wys mm n) c1 n st = tal (fun r w => F1 n kd mm (hcs hs hx) w1 r w && nearZ (sumN (fun i => lst 0 i (hcs hs hx)) mm st n w : Nat) (w2 r) (lst 3 0 (hcs hs hx))) (nxt kd mm n) (wys mm n) c1 := fun st => rfl
      generalize wrp (opn kd mm n (btk (hcs hs hx))) (nxt kd mm n) (sumN (fun i => lst 0 i (hcs hs hx)) mm 15 n) w1 w2 (fun i => lst 0 i (hcs hs hx)) mm (lst 3 0 (hcs hs hx)) (wys mm n) c1 n = P at *
      have cb : ∀ k, cntB P k ≤ k := fun k => by
        induction k with
        | zero => exact Nat.le_refl _
        | succ k ih => rw [cntB_s]; split <;> omega
      have loop : ∀ j x fo (a6 a7 : Value) I', j ≤ 2 ^ n → cntB P j + x = cntB P (2 ^ n) → fo = fst1 P (2 ^ n - j) j → LL n kd mm (hcs hs hx) c1 I' → FX I I' → cm_Ex l g 6 0 0 mX12_wires 57 [.ref 73, .int (nI b), .int (nI x), .int (optS fo), .int (nI (lst 3 0 (hcs hs hx))), .int (nI j + Int32.ofInt (-1)), a6, a7] [] I' L (RR u hr tl) (DD u) Q := by
        intro j
        induction j with
        | zero =>
          intro x fo a6 a7 I' hj hx2 hfo A F
          have hq := hQ I' L (MI_FX M F) (KC_FX F)
          have e0 : cntB P 0 = 0 := rfl
          refine x_ild qX12_wires_57 rfl ?_
          refine x_if_lt_t (tgt := 189) qX12_wires_59 (by omega) (by decide) ?_
          refine x_ildn qX12_wires_189 rfl ?_
          refine x_if_ne_n (tgt := 197) qX12_wires_190 (by omega) (by omega) (fun e => ?_) (fun e => ?_)
          · rw [if_pos (by omega)] at hq
            rw [hfo, Nat.sub_zero]
            refine x_ildn qX12_wires_197 rfl ?_
            refine x_iret qX12_wires_198 rfl rfl ?_
            exact hq
          · rw [if_neg (by omega), ← hx2, e0, Nat.zero_add] at hq
            refine x_ildn qX12_wires_193 rfl ?_
            refine x_goto (tgt := 198) qX12_wires_194 (by omega) ?_
            refine x_iret qX12_wires_198 rfl rfl ?_
            exact hq
        | succ j ih =>
          intro x fo a6 a7 I' hj hx2 hfo A F
          have M1 := MI_FX M F
          rw [cm_dec]
          rw [cntB_s] at hx2
          have cbn := cb (2 ^ n)
          have ef : fst1 P (2 ^ n - j) j = if P j then some j else fst1 P (2 ^ n - (j + 1)) (j + 1) := by
            rw [show 2 ^ n - j = 2 ^ n - (j + 1) + 1 by omega]; rfl
          refine x_ild qX12_wires_57 rfl ?_
          refine x_if_lt_nf (tgt := 189) qX12_wires_59 (by omega) (by omega) ?_
          refine x_aldn qX12_wires_62 rfl trivial ?_
          refine x_iconst (v := nI 1) qX12_wires_63 rfl ?_
          refine x_iconst (v := nI 0) qX12_wires_64 rfl ?_
          refine x_cV2 (d' := 4) qX12_wires_65 cX12_239 rfl ⟨_, rfl, rfl⟩ rfl rfl (Nat.le_of_ble_eq_true rfl) (Nat.le_of_ble_eq_true rfl) (by decide) ?_
          refine c_X12_layFits (c := 1) (s := 0) M1.1 (MI_HK M1) M1.2.2.2.2.1 A (by decide) (by decide) (by decide) (fun I3 h95 hI3 => ?_)
          have F3 : FX I I3 := FX_tr F (fun b hb => hI3 b (by omega))
          have M3 := MI_FX M F3
          have A3 : LL n kd mm (hcs hs hx) c1 I3 := LL_fr A (fun b g1 g2 => hI3 b (by omega))
          refine x_iconst (v := nI 0) qX12_wires_68 rfl ?_
          refine x_ist6 qX12_wires_69 (by decide) rfl ?_
          refine wi_fit (cs := hcs hs hx) (gv := lst 3 0 (hcs hs hx)) (st := j) M3 A3 ec.symm rfl rfl hg9 (by omega) h9 (fun r hr2 w hw => by rw [h95 r hr2 w hw, F2_1]) (fun I4 a6 a7 h95' hI4 => ?_) c1 0 _ I3 (by omega) (fun r' hr' => absurd hr' (by omega)) (fun r' _ h2 w hw => by rw [h95 r' h2 w hw, F2_1]) (fun _ _ => rfl)
          have F4 : FX I I4 := FX_tr F3 (fun b hb => hI4 b (by omega))
          have M4 := MI_FX M F4
          have A4 : LL n kd mm (hcs hs hx) c1 I4 := LL_fr A3 (fun b g1 g2 => hI4 b (by omega))
          refine x_aldn qX12_wires_167 rfl trivial ?_
          refine x_cV0 (d' := 1) qX12_wires_168 cX12_243 rfl ⟨_, rfl, rfl⟩ rfl rfl (Nat.le_of_ble_eq_true rfl) (Nat.le_of_ble_eq_true rfl) (by decide) ?_
          refine c_X12_findLive (LVp_of (fit := fun r w => F1 n kd mm (hcs hs hx) w1 r w && nearZ (sumN (fun i => lst 0 i (hcs hs hx)) mm j n w : Nat) (w2 r) (lst 3 0 (hcs hs hx))) M4.1 (MI_86 M4).1 hc A4 h95') (fun I5 h96 hI5 => ?_)
          have F5 : FX I I5 := FX_tr F4 (fun b hb => hI5 b (by omega))
          have A5 : LL n kd mm (hcs hs hx) c1 I5 := LL_fr A4 (fun b g1 g2 => hI5 b (by omega))
          rw [← ep j]
          cases hp : P j with
          | false =>
            rw [hp, if_neg (by decide)] at hx2 ef
            refine x_if_ne_f (tgt := 177) qX12_wires_171 (by omega) (by decide) ?_
            refine x_goto (tgt := 183) qX12_wires_174 (by omega) ?_
            refine x_iinc5 qX12_wires_183 (by decide) rfl rfl ?_
            refine x_goto (tgt := 57) qX12_wires_186 (by omega) ?_
            exact ih x fo _ _ I5 (by omega) (by omega) (hfo.trans ef.symm) A5 F5
          | true =>
            rw [hp, if_pos rfl] at hx2 ef
            refine x_if_ne_t (tgt := 177) qX12_wires_171 (by omega) (by decide) ?_
            refine x_iinc2 qX12_wires_177 (by decide) (cm_inc _) rfl ?_
            refine x_ild qX12_wires_180 rfl ?_
            refine x_ist3 qX12_wires_182 (by decide) rfl ?_
            refine x_iinc5 qX12_wires_183 (by decide) rfl rfl ?_
            refine x_goto (tgt := 57) qX12_wires_186 (by omega) ?_
            exact ih (x + 1) (some j) _ _ I5 (by omega) (by omega) ef.symm A5 F5
      refine x_aldn qX12_wires_30 rfl trivial ?_
      refine x_cV0 (d' := 4) qX12_wires_31 cX12_236 rfl ⟨_, rfl, rfl⟩ rfl rfl (Nat.le_of_ble_eq_true rfl) (Nat.le_of_ble_eq_true rfl) (by decide) ?_
      refine c_X12_layAll M.1 (MI_HK M) h86 hc (fun I1 A1 F1x => ?_)
      have M1 := MI_FX M F1x
      refine x_iconst (v := nI 0) qX12_wires_34 rfl ?_
      refine x_ist2 qX12_wires_35 (by decide) rfl ?_
      refine x_bipush (v := -5) qX12_wires_36 rfl ?_
      refine x_ist3 qX12_wires_38 (by decide) rfl ?_
      refine x_aldn qX12_wires_39 rfl trivial ?_
      refine x_iconst (v := nI 3) qX12_wires_40 rfl ?_
      refine x_iconst (v := nI 0) qX12_wires_41 rfl ?_
      refine x_cV2 (d' := 2) qX12_wires_42 cX12_217 rfl ⟨_, rfl, rfl⟩ rfl rfl (Nat.le_of_ble_eq_true rfl) (Nat.le_of_ble_eq_true rfl) (by decide) ?_
      refine c_X12_last (MI_HK M1) (Or.inr (Or.inr rfl)) (by omega) ?_
      refine x_ist4 qX12_wires_45 (by decide) rfl ?_
      refine x_iconst (v := nI 1) qX12_wires_47 rfl ?_
      refine x_aldn qX12_wires_48 rfl trivial ?_
      refine x_getIe qX12_wires_49 fX12_7 rfl M1.1.2.2.2.2.1 ?_
      refine x_ishl qX12_wires_52 ?_
      rw [ib_shl (by omega) (by omega), Nat.one_mul]
      refine x_iconst (v := nI 1) qX12_wires_53 rfl ?_
      refine x_isub qX12_wires_54 ?_
      rw [sub1_dec]
      refine x_ist5 qX12_wires_55 (by decide) rfl ?_
      exact loop (2 ^ n) 0 none _ _ I1 (Nat.le_refl _) rfl (by rw [Nat.sub_self]; rfl) A1 F1x
    · rw [if_neg (fun e => ec e.symm)] at hQ
      have hq := hQ I L M KC_rfl
      refine x_bipush (v := -3) qX12_wires_27 rfl ?_
      refine x_iret qX12_wires_29 rfl rfl ?_
      exact hq
  · rw [if_neg (fun e => h (i01.mpr e))] at hQ
    have hq := hQ I L M KC_rfl
    refine x_if_ne_f (tgt := 12) qX12_wires_7 (by omega) (by decide) ?_
    refine x_iconst (v := -1) qX12_wires_10 rfl ?_
    refine x_iret qX12_wires_11 rfl rfl ?_
    exact hq
theorem c_X12_judge {t i : Int32} (M : MI n kd mm len tx hs hx c1 w1 c2 w2 im s tp I L) (hT : ∀ p, p < 6 → TBp (tp p)) (hQ : KMQ Q (.int (judA n kd mm (hcs hs hx) c1 w1 tp t i)) u hr tl (MI n kd mm len tx hs hx c1 w1 c2 w2 im s tp) I L) : cm_Ex l g 6 0 0 mX12_judge 0 [.ref 73, .int t, .int i, .float 0, .float 0, .float 0] [] I L (RR u hr tl) (DD u) Q := by
  obtain ⟨h86, hc⟩ := MI_86 M
  obtain ⟨h4, ho, hkk, h64, h0, h1, hi⟩ := id M.1
  have T := M.2.2.2.2.2.2.2.2
  have z0 : (0 : Int32).toInt = 0 := by decide
  have z0' : (nI 0).toInt = 0 := by decide
  unfold judA at hQ
  refine x_aldn qX12_judge_0 rfl trivial ?_
  refine x_ildn qX12_judge_1 rfl ?_
  refine x_cV1 (d' := 2) qX12_judge_2 cX12_275 rfl ⟨_, rfl, rfl⟩ rfl rfl (Nat.le_of_ble_eq_true rfl) (Nat.le_of_ble_eq_true rfl) (by decide) ?_
  refine c_X12_isTape rfl (fun hb => ?_) (fun hb => ?_)
  · rw [if_pos hb] at hQ
    obtain ⟨et, lt⟩ := inB_ix hb
    have tb := hT (ix t) lt
    generalize ix t = t' at *
    subst et
    obtain ⟨t1, t2, t3, t4, t5, t6⟩ := T t' lt
    have ts := tsI_lt t1
    refine x_if_ne_t (tgt := 10) qX12_judge_5 (by omega) (by decide) ?_
    refine x_aldn qX12_judge_10 rfl trivial ?_
    refine x_getR qX12_judge_11 fX12_136 rfl rfl ?_
    refine x_ildn qX12_judge_14 rfl ?_
    refine x_ialde qX12_judge_15 dd_102 rfl (by omega) (by decide) t4 ?_
    refine x_if_le (tgt := 22) qX12_judge_16 (by omega) (fun h => ?_) (fun h => ?_)
    · rw [Int32.le_iff_toInt_le, z0, ts] at h
      rw [if_pos (by omega)] at hQ
      have hW1 := wys1 ho
      refine x_aldn qX12_judge_22 rfl trivial ?_
      refine x_cV0 (d' := 4) qX12_judge_23 cX12_236 rfl ⟨_, rfl, rfl⟩ rfl rfl (Nat.le_of_ble_eq_true rfl) (Nat.le_of_ble_eq_true rfl) (by decide) ?_
      refine c_X12_layAll M.1 (MI_HK M) h86 hc (fun I1 A1 F1x => ?_)
      have M1 := MI_FX M F1x
      refine x_aldn qX12_judge_26 rfl trivial ?_
      refine x_iconst (v := nI 1) qX12_judge_27 rfl ?_
      refine x_iconst (v := nI 0) qX12_judge_28 rfl ?_
      refine x_cV2 (d' := 4) qX12_judge_29 cX12_239 rfl ⟨_, rfl, rfl⟩ rfl rfl (Nat.le_of_ble_eq_true rfl) (Nat.le_of_ble_eq_true rfl) (by decide) ?_
      refine c_X12_layFits (c := 1) (s := 0) M1.1 (MI_HK M1) M1.2.2.2.2.1 A1 (by decide) (by decide) (by decide) (fun I2 h95 hI2 => ?_)
      have F2x : FX I I2 := FX_tr F1x (fun b hb => hI2 b (by omega))
      have M2 := MI_FX M F2x
      have A2 : LL n kd mm (hcs hs hx) c1 I2 := LL_fr A1 (fun b g1 g2 => hI2 b (by omega))
      obtain ⟨u1, u2, u3, u4, u5, u6⟩ := M2.2.2.2.2.2.2.2.2 t' lt
      have k1 := M2.1.2.2.2.2.2.1
      have k86 := (MI_86 M2).1
      have fin : ∀ v, Q (some v) I2 L (RR u hr tl) (DD u) → Q (some v) I2 L (RR u hr tl) (DD u) := fun v h => h
      have hq := hQ I2 L M2 (KC_FX F2x)
      have loop : ∀ m r (pr : Option Nat) (a5 : Value), r + m = c1 → (∀ u, pr = some u → u < wys mm n) → Q (some (.int (jdg (F1 n kd mm (hcs hs hx) w1) (nxt kd mm n) (wys mm n) (itm (tp t').2.1 (tp t').2.2 i.toInt) m r pr))) I2 L (RR u hr tl) (DD u) → cm_Ex l g 6 0 0 mX12_judge 37 [.ref 73, .int (nI t'), .int i, .int (optI pr), .int (nI r), a5] [] I2 L (RR u hr tl) (DD u) Q := by
        intro m
        induction m with
        | zero =>
          intro r pr a5 hre hpr hq
          refine x_ild qX12_judge_37 rfl ?_
          refine x_aldn qX12_judge_39 rfl trivial ?_
          refine x_getR qX12_judge_40 fX12_77 rfl rfl ?_
          refine x_iconst (v := nI 0) qX12_judge_43 rfl ?_
          refine x_ialde qX12_judge_44 dd_86 rfl (by omega) (by decide) k86 ?_
          refine x_icmp_ge_nt (tgt := 162) qX12_judge_45 (by omega) (by omega) (by omega) (by omega) ?_
          refine x_bipush (v := -5) qX12_judge_162 rfl ?_
          refine x_iret qX12_judge_164 rfl rfl ?_
          exact hq
        | succ m ih =>
          intro r pr a5 hre hpr hq
          have ej : jdg (F1 n kd mm (hcs hs hx) w1) (nxt kd mm n) (wys mm n) (itm (tp t').2.1 (tp t').2.2 i.toInt) (m + 1) r pr = match itm (tp t').2.1 (tp t').2.2 i.toInt r with
            | none => nI (100 + r)
            | some w => if w < wys mm n ∧ F1 n kd mm (hcs hs hx) w1 r w = true ∧ (∀ u, pr = some u → nxt kd mm n u w = true) then jdg (F1 n kd mm (hcs hs hx) w1) (nxt kd mm n) (wys mm n) (itm (tp t').2.1 (tp t').2.2 i.toInt) m (r + 1) (some w) else nI r := rfl
          rw [ej] at hq
          have miss : ¬ (0 ≤ i.toInt ∧ i.toInt + r < (tp t').2.1) → cm_Ex l g 6 0 0 mX12_judge 76 [.ref 73, .int (nI t'), .int i, .int (optI pr), .int (nI r), a5] [] I2 L (RR u hr tl) (DD u) Q := fun e => by
            have ei : itm (tp t').2.1 (tp t').2.2 i.toInt r = none := by unfold itm; rw [if_neg e]
            rw [ei] at hq
            refine x_bipush (v := nI 100) qX12_judge_76 rfl ?_
            refine x_ild qX12_judge_78 rfl ?_
            refine x_iadd_n qX12_judge_80 ?_
            refine x_iret qX12_judge_81 rfl rfl ?_
            exact hq
          refine x_ild qX12_judge_37 rfl ?_
          refine x_aldn qX12_judge_39 rfl trivial ?_
          refine x_getR qX12_judge_40 fX12_77 rfl rfl ?_
          refine x_iconst (v := nI 0) qX12_judge_43 rfl ?_
          refine x_ialde qX12_judge_44 dd_86 rfl (by omega) (by decide) k86 ?_
          refine x_icmp_ge_nf (tgt := 162) qX12_judge_45 (by omega) (by omega) (by omega) (by omega) ?_
          refine x_aldn qX12_judge_48 rfl trivial ?_
          refine x_getR qX12_judge_49 fX12_136 rfl rfl ?_
          refine x_ildn qX12_judge_52 rfl ?_
          refine x_ialde qX12_judge_53 dd_102 rfl (by omega) (by decide) u4 ?_
          refine x_if_lt (tgt := 76) qX12_judge_54 (by omega) (fun e => ?_) (fun e => ?_)
          · rw [Int32.lt_iff_toInt_lt, z0, ts] at e
            have := t3 (by omega)
            exact miss (fun q => by omega)
          · rw [Int32.lt_iff_toInt_lt, z0, ts] at e
            refine x_ildn qX12_judge_57 rfl ?_
            refine x_if_lt (tgt := 76) qX12_judge_58 (by omega) (fun e2 => ?_) (fun e2 => ?_)
            · rw [Int32.lt_iff_toInt_lt, z0] at e2
              exact miss (fun q => by omega)
            · rw [Int32.lt_iff_toInt_lt, z0] at e2
              have es : (zI ((((tp t').2.1 : Nat) : Int) - r - 1)).toInt = ((tp t').2.1 : Int) - r - 1 := zI_toInt (by omega) (by omega)
              refine x_ildn qX12_judge_61 rfl ?_
              refine x_aldn qX12_judge_62 rfl trivial ?_
              refine x_getR qX12_judge_63 fX12_139 rfl rfl ?_
              refine x_ildn qX12_judge_66 rfl ?_
              refine x_ialde qX12_judge_67 dd_103 rfl (by omega) (by decide) u5 ?_
              refine x_ild qX12_judge_68 rfl ?_
              refine x_isub qX12_judge_70 ?_
              refine x_iconst (v := nI 1) qX12_judge_71 rfl ?_
              refine x_isub qX12_judge_72 ?_
              refine x_topI (show nI (tp t').2.1 - nI r - nI 1 = zI ((((tp t').2.1 : Nat) : Int) - r - 1) from by rw [← zI_nat, ← zI_nat, ← zI_nat, zI_sub, zI_sub]; rfl) ?_
              refine x_icmp_le (tgt := 82) qX12_judge_73 (by omega) (fun e3 => ?_) (fun e3 => ?_)
              · rw [Int32.le_iff_toInt_le, es] at e3
                have ei := nI_ix (x := i) (by omega)
                have eix := ix_toInt (x := i) (by omega)
                have hidx : (i.toInt + r).toNat = ix i + r := by omega
                have hit : itm (tp t').2.1 (tp t').2.2 i.toInt r = some (iwy ((tp t').2.2 (ix i + r))) := by unfold itm; rw [if_pos (by omega), hidx]
                rw [hit] at hq
                have hbyte := tb (by omega) (ix i + r) (by omega)
                have l2 := l2i_byte hbyte
                have e104 : L 104 (60 * t' + ix i + r) = (tp t').2.2 (ix i + r) := by rw [Nat.add_assoc]; exact u6 _ (by omega)
                refine x_aldn qX12_judge_82 rfl trivial ?_
                refine x_getR qX12_judge_83 fX12_142 rfl rfl ?_
                refine x_bipush (v := nI 60) qX12_judge_86 rfl ?_
                refine x_ildn qX12_judge_88 rfl ?_
                refine x_imul_n qX12_judge_89 ?_
                refine x_ildn qX12_judge_90 rfl ?_
                refine x_topI ei ?_
                refine x_iadd_n qX12_judge_91 ?_
                refine x_ild qX12_judge_92 rfl ?_
                refine x_iadd_n qX12_judge_94 ?_
                refine x_lalde qX12_judge_95 dd_104 rfl (by omega) (by decide) e104 ?_
                refine x_l2i qX12_judge_96 ?_
                refine x_ist5 qX12_judge_97 (by decide) rfl ?_
                refine x_aldn qX12_judge_99 rfl trivial ?_
                refine x_ild qX12_judge_100 rfl ?_
                refine x_iconst (v := nI 0) qX12_judge_102 rfl ?_
                refine x_aldn qX12_judge_103 rfl trivial ?_
                refine x_getIe qX12_judge_104 fX12_13 rfl k1 ?_
                refine x_iconst (v := nI 1) qX12_judge_107 rfl ?_
                refine x_isub_n qX12_judge_108 (by omega) ?_
                refine x_cV3 (d' := 1) qX12_judge_109 cX12_149 rfl ⟨_, rfl, rfl⟩ rfl rfl (Nat.le_of_ble_eq_true rfl) (Nat.le_of_ble_eq_true rfl) (by decide) ?_
                have bad : ¬ (iwy ((tp t').2.2 (ix i + r)) < wys mm n ∧ F1 n kd mm (hcs hs hx) w1 r (iwy ((tp t').2.2 (ix i + r))) = true ∧ (∀ u, pr = some u → nxt kd mm n u (iwy ((tp t').2.2 (ix i + r))) = true)) → cm_Ex l g 6 0 0 mX12_judge 150 [.ref 73, .int (nI t'), .int i, .int (optI pr), .int (nI r), .int ((tp t').2.2 (ix i + r)).toInt32] [] I2 L (RR u hr tl) (DD u) Q := fun e => by
                  have hq2 : Q (some (.int (if iwy ((tp t').2.2 (ix i + r)) < wys mm n ∧ F1 n kd mm (hcs hs hx) w1 r (iwy ((tp t').2.2 (ix i + r))) = true ∧ (∀ u, pr = some u → nxt kd mm n u (iwy ((tp t').2.2 (ix i + r))) = true) then jdg (F1 n kd mm (hcs hs hx) w1) (nxt kd mm n) (wys mm n) (itm (tp t').2.1 (tp t').2.2 i.toInt) m (r + 1) (some (iwy ((tp t').2.2 (ix i + r)))) else nI r))) I2 L (RR u hr tl) (DD u) := hq
                  rw [if_neg e] at hq2
                  refine x_ild qX12_judge_150 rfl ?_
                  refine x_iret qX12_judge_152 rfl rfl ?_
                  exact hq2
                generalize (tp t').2.2 (ix i + r) = v at *
                refine c_X12_in (fun e4 => ?_) (fun e4 => ?_)
                · rw [z0', nI_toInt (n := wys mm n - 1) (by omega), l2] at e4
                  have hiw : iwy v = v.toInt.toNat := by unfold iwy; rw [if_pos (by omega)]
                  have hiwl : iwy v < wys mm n := by omega
                  have e32 : v.toInt32 = nI (iwy v) := by
                    apply Int32.toInt_inj.mp
                    rw [l2, nI_toInt (by omega)]; omega
                  generalize iwy v = w at *
                  have w95 := h95 r (by omega) w hiwl
                  rw [F2_1] at w95
                  rw [e32] at bad ⊢
                  refine x_if_eq_f (tgt := 150) qX12_judge_112 (by omega) (by decide) ?_
                  refine x_aldn qX12_judge_115 rfl trivial ?_
                  refine x_getR qX12_judge_116 fX12_105 rfl rfl ?_
                  refine x_bipush (v := nI 64) qX12_judge_119 rfl ?_
                  refine x_ild qX12_judge_121 rfl ?_
                  refine x_imul_n qX12_judge_123 ?_
                  refine x_ild qX12_judge_124 rfl ?_
                  refine x_iadd_n qX12_judge_126 ?_
                  refine x_zalde qX12_judge_127 dd_95 rfl (by omega) (by decide) w95 ?_
                  cases hf : F1 n kd mm (hcs hs hx) w1 r w with
                  | false =>
                    refine x_if_eq_t (tgt := 150) qX12_judge_128 (by omega) (by decide) ?_
                    exact bad (fun q => by have := q.2.1; rw [hf] at this; cases this)
                  | true =>
                    have good : (∀ u, pr = some u → nxt kd mm n u w = true) → cm_Ex l g 6 0 0 mX12_judge 153 [.ref 73, .int (nI t'), .int i, .int (optI pr), .int (nI r), .int (nI w)] [] I2 L (RR u hr tl) (DD u) Q := fun e => by
                      have hq2 : Q (some (.int (if w < wys mm n ∧ F1 n kd mm (hcs hs hx) w1 r w = true ∧ (∀ u, pr = some u → nxt kd mm n u w = true) then jdg (F1 n kd mm (hcs hs hx) w1) (nxt kd mm n) (wys mm n) (itm (tp t').2.1 (tp t').2.2 i.toInt) m (r + 1) (some w) else nI r))) I2 L (RR u hr tl) (DD u) := hq
                      rw [if_pos ⟨hiwl, hf, e⟩] at hq2
                      refine x_ild qX12_judge_153 rfl ?_
                      refine x_ist3 qX12_judge_155 (by decide) rfl ?_
                      refine x_iinc4 qX12_judge_156 (by decide) (cm_inc _) rfl ?_
                      refine x_goto (tgt := 37) qX12_judge_159 (by omega) ?_
                      exact ih (r + 1) (some w) _ (by omega) (fun u e => by cases e; exact hiwl) hq2
                    refine x_if_eq_f (tgt := 150) qX12_judge_128 (by omega) (by decide) ?_
                    cases pr with
                    | none =>
                      refine x_ildn qX12_judge_131 rfl ?_
                      refine x_if_lt_t (tgt := 153) qX12_judge_132 (by omega) (show (-1 : Int32) < 0 by decide) ?_
                      exact good (fun u e => by cases e)
                    | some pu =>
                      have hpu := hpr pu rfl
                      have w92 := (A2.2.2.1 pu hpu w hiwl).1
                      refine x_ildn qX12_judge_131 rfl ?_
                      refine x_if_lt_nf (tgt := 153) qX12_judge_132 (by omega) (by omega) ?_
                      refine x_aldn qX12_judge_135 rfl trivial ?_
                      refine x_getR qX12_judge_136 fX12_95 rfl rfl ?_
                      refine x_bipush (v := nI 64) qX12_judge_139 rfl ?_
                      refine x_ildn qX12_judge_141 rfl ?_
                      refine x_imul_n qX12_judge_142 ?_
                      refine x_ild qX12_judge_143 rfl ?_
                      refine x_iadd_n qX12_judge_145 ?_
                      refine x_zalde qX12_judge_146 dd_92 rfl (by omega) (by decide) w92 ?_
                      cases hn : nxt kd mm n pu w with
                      | false =>
                        refine x_if_ne_f (tgt := 153) qX12_judge_147 (by omega) (by decide) ?_
                        exact bad (fun q => by have := q.2.2 pu rfl; rw [hn] at this; cases this)
                      | true =>
                        refine x_if_ne_t (tgt := 153) qX12_judge_147 (by omega) (by decide) ?_
                        exact good (fun u e => by cases e; exact hn)
                · rw [z0', nI_toInt (n := wys mm n - 1) (by omega), l2] at e4
                  refine x_if_eq_t (tgt := 150) qX12_judge_112 (by omega) (by decide) ?_
                  refine bad (fun q => ?_)
                  have q1 := q.1
                  unfold iwy at q1
                  split at q1
                  · omega
                  · omega
              · rw [Int32.le_iff_toInt_le, es] at e3
                exact miss (fun q => by omega)
      refine x_iconst (v := -1) qX12_judge_32 rfl ?_
      refine x_ist3 qX12_judge_33 (by decide) rfl ?_
      refine x_iconst (v := nI 0) qX12_judge_34 rfl ?_
      refine x_ist4 qX12_judge_35 (by decide) rfl ?_
      exact loop c1 0 none _ (by omega) (fun u e => by cases e) hq
    · rw [Int32.le_iff_toInt_le, z0, ts] at h
      rw [if_neg (by omega)] at hQ
      have hq := hQ I L M KC_rfl
      refine x_bipush (v := -12) qX12_judge_19 rfl ?_
      refine x_iret qX12_judge_21 rfl rfl ?_
      exact hq
  · rw [if_neg (by rw [hb]; decide)] at hQ
    have hq := hQ I L M KC_rfl
    refine x_if_ne_f (tgt := 10) qX12_judge_5 (by omega) (by decide) ?_
    refine x_iconst (v := -1) qX12_judge_8 rfl ?_
    refine x_iret qX12_judge_9 rfl rfl ?_
    exact hq
end M22
