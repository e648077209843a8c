/-! Telling.judged -/
theorem addr_has {i : Int32} {r sz : Nat} (h0 : 0 ≤ i.toInt) (hr : r < 100) (hs : sz ≤ 60) : (0 ≤ (i + nI r).toInt ∧ (i + nI r).toInt < sz) ↔ i.toInt + r < sz := by
  have h1 := i.toInt_lt
  rw [Int32.toInt_add, nI_toInt (by omega)]
  unfold Int.bmod
  simp only []
  split <;> omega
theorem addr_nI {i : Int32} {r sz : Nat} (h0 : 0 ≤ i.toInt) (h : i.toInt + r < sz) (hs : sz ≤ 60) : i + nI r = nI (i.toInt + r).toNat := by
  have e : i = nI i.toInt.toNat := by
    apply Int32.toInt_inj.mp
    rw [nI_toInt (by omega)]
    omega
  have e2 : (i.toInt + (r : Int)).toNat = i.toInt.toNat + r := by omega
  rw [e2]
  conv => lhs; rw [e]
  exact nI_add _ _
theorem iwy_lt0 {v : Int64} (h : v < 0) : iwy v = 64 := by
  have h2 : v.toInt < 0 := by
    have := Int64.lt_iff_toInt_lt.mp h
    exact this
  unfold iwy
  rw [if_neg (by omega)]
theorem i2l_toInt {n : Nat} (h : n < 1000) : (nI n).toInt64.toInt = n := by
  rw [Int32.toInt_toInt64, nI_toInt (by omega)]
theorem iwy_in {v : Int64} {W : Nat} (hW : W ≤ 64) (h : ¬ v < 0) (h2 : v < (nI W).toInt64) : iwy v < W ∧ v.toInt32 = nI (iwy v) ∧ v.toInt = (iwy v : Nat) := by
  rw [Int64.lt_iff_toInt_lt] at h h2
  rw [i2l_toInt (by omega)] at h2
  have h3 : (0 : Int64).toInt = 0 := rfl
  rw [h3] at h
  have e : iwy v = v.toInt.toNat := by
    unfold iwy; rw [if_pos (by omega)]
  refine ⟨by rw [e]; omega, ?_, by rw [e]; omega⟩
  apply Int32.toInt_inj.mp
  rw [e, nI_toInt (by omega), Int64.toInt_toInt32, Int.bmod_eq_of_le (by omega) (by omega)]
  omega
theorem iwy_ge {v : Int64} {W : Nat} (hW : W ≤ 64) (h2 : ¬ v < (nI W).toInt64) : W ≤ iwy v := by
  rw [Int64.lt_iff_toInt_lt, i2l_toInt (by omega)] at h2
  unfold iwy
  split <;> omega
section K29
variable {l : Launch} {g : cm_G} {I : cm_I} {L : cm_L} {n len h : Nat} {hr tl : Option Nat} {Q : cm_Post} {kd mm tk wt : Nat → Nat} {gv : Nat} {toks : List Nat}
theorem c_X7_judged {p sz : Nat} {i : Int32} (hp : p < 6) (h2 : I (tA p) 2 = nI sz) (hsz : sz ≤ 60) (hl : len ≤ 12) (H : HI n kd mm I L) (D : LD n kd mm tk gv toks len wt I L)
  (hQ : Q (some (.int (jdg (ft1 (opn kd mm n toks) (sumN tk mm 15 n) wt gv) (nxt kd mm n) (wys mm n) (itm sz (L (tA p + 1)) i.toInt) len 0 none))) I L (RR n hr tl) (DD n)) : cm_Ex l g 6 0 0 mX7_judged 0 [.ref 23, .ref (tA p), .int i, .float 0, .float 0, .float 0, .float 0, .float 0, .float 0] [] I L (RR n hr tl) (DD n) Q := by
  obtain ⟨h13, h14, h28, h24, h25⟩ := id D
  have hW : wys mm n ≤ 64 := H.2.2.2.1
  have loop : ∀ m r pr (x : Int64) a6 a7 a8, r + m = len → (r = 0 → pr = none) → (0 < r → ∃ u, pr = some u ∧ u < wys mm n ∧ x = L 4 u) → Q (some (.int (jdg (ft1 (opn kd mm n toks) (sumN tk mm 15 n) wt gv) (nxt kd mm n) (wys mm n) (itm sz (L (tA p + 1)) i.toInt) m r pr))) I L (RR n hr tl) (DD n) → cm_Ex l g 6 0 0 mX7_judged 5 [.ref 23, .ref (tA p), .int i, .long x, .float 0, .int (nI r), a6, a7, a8] [] I L (RR n hr tl) (DD n) Q := by
    intro m
    induction m with
    | zero =>
      intro r pr x a6 a7 a8 hr0 h0 h1 hQ'
      refine x_ild qX7_judged_5 rfl ?_
      refine x_aldn qX7_judged_7 rfl trivial ?_
      refine x_getIe qX7_judged_8 fX7_47 rfl h13 ?_
      refine x_icmp_ge_nt (tgt := 119) qX7_judged_11 (by omega) (by omega) (by omega) (by omega) ?_
      refine x_bipush (v := -5) qX7_judged_119 rfl ?_
      refine x_iret qX7_judged_121 rfl rfl ?_
      exact hQ'
    | succ m ih =>
      intro r pr x a6 a7 a8 hr0 h0 h1 hQ'
      have short : itm sz (L (tA p + 1)) i.toInt r = none → Q (some (.int (nI (100 + r)))) I L (RR n hr tl) (DD n) := fun e => by
        simp only [jdg, e] at hQ'
        exact hQ'
      refine x_ild qX7_judged_5 rfl ?_
      refine x_aldn qX7_judged_7 rfl trivial ?_
      refine x_getIe qX7_judged_8 fX7_47 rfl h13 ?_
      refine x_icmp_ge_nf (tgt := 119) qX7_judged_11 (by omega) (by omega) (by omega) (by omega) ?_
      refine x_ildn qX7_judged_14 rfl ?_
      refine x_if_lt (tgt := 29) qX7_judged_15 (by omega) (fun h15 => ?_) (fun h15 => ?_)
      · have hi : ¬ (0 ≤ i.toInt) := by rw [Int32.lt_iff_toInt_lt, t0i] at h15; omega
        refine x_bipush (v := nI 100) qX7_judged_29 rfl ?_
        refine x_ild qX7_judged_31 rfl ?_
        refine x_iadd_n qX7_judged_33 ?_
        refine x_iret qX7_judged_34 rfl rfl ?_
        exact short (by unfold itm; rw [if_neg (fun e => hi e.1)])
      · have hi : 0 ≤ i.toInt := by rw [Int32.lt_iff_toInt_lt, t0i] at h15; omega
        refine x_aldn qX7_judged_18 rfl trivial ?_
        refine x_ildn qX7_judged_19 rfl ?_
        refine x_ild qX7_judged_20 rfl ?_
        refine x_iadd qX7_judged_22 ?_
        refine x_cV1 (d' := 1) qX7_judged_23 cX7_168 (dd_tA hp).1 ⟨_, rfl, rfl⟩ rfl rfl (Nat.le_of_ble_eq_true rfl) (Nat.le_of_ble_eq_true rfl) (by decide) ?_
        refine c_X6_has hp h2 hsz (fun hh => ?_) (fun hh => ?_)
        · rw [addr_has hi (by omega) hsz] at hh
          have hk : (i.toInt + (r : Int)).toNat < sz := by omega
          refine x_if_ne_t (tgt := 35) qX7_judged_26 (by omega) (by decide) ?_
          refine x_aldn qX7_judged_35 rfl trivial ?_
          refine x_ildn qX7_judged_36 rfl ?_
          refine x_ild qX7_judged_37 rfl ?_
          refine x_iadd qX7_judged_39 ?_
          rw [addr_nI hi hh hsz]
          refine x_cV1 (d' := 2) qX7_judged_40 cX7_173 (dd_tA hp).1 ⟨_, rfl, rfl⟩ rfl rfl (Nat.le_of_ble_eq_true rfl) (Nat.le_of_ble_eq_true rfl) (by decide) ?_
          refine c_X6_itemAt hp h2 hsz hk ?_
          have hit : itm sz (L (tA p + 1)) i.toInt r = some (iwy (L (tA p + 1) (i.toInt + r).toNat)) := by unfold itm; rw [if_pos ⟨hi, hh⟩]
          generalize L (tA p + 1) (i.toInt + (r : Int)).toNat = v at hit
          have no : ¬ (iwy v < wys mm n ∧ ft1 (opn kd mm n toks) (sumN tk mm 15 n) wt gv r (iwy v) = true ∧ ∀ u, pr = some u → nxt kd mm n u (iwy v) = true) → Q (some (.int (nI r))) I L (RR n hr tl) (DD n) := fun e => by
            simp only [jdg, hit, if_neg e] at hQ'
            exact hQ'
          refine x_lst6 qX7_judged_43 (by decide) rfl ?_
          refine x_lld qX7_judged_45 rfl ?_
          refine x_lconst (v := 0) qX7_judged_47 rfl ?_
          refine x_lcmp qX7_judged_48 ?_
          refine x_if_lt (tgt := 63) qX7_judged_49 (by omega) (fun h49 => ?_) (fun h49 => ?_)
          · rw [lg_cmp_lt] at h49
            refine x_ild qX7_judged_63 rfl ?_
            refine x_iret qX7_judged_65 rfl rfl ?_
            exact no (fun e => by rw [iwy_lt0 h49] at e; omega)
          · rw [lg_cmp_lt] at h49
            refine x_lld qX7_judged_52 rfl ?_
            refine x_aldn qX7_judged_54 rfl trivial ?_
            refine x_getIe qX7_judged_55 fX7_51 rfl h14 ?_
            refine x_i2l qX7_judged_58 ?_
            refine x_lcmp qX7_judged_59 ?_
            refine x_if_lt (tgt := 66) qX7_judged_60 (by omega) (fun h60 => ?_) (fun h60 => ?_)
            · rw [lg_cmp_lt] at h60
              obtain ⟨w1, w2, w3⟩ := iwy_in hW h49 h60
              have hf := SB_at hW (h25 r (by omega)) w1
              have yes : ft1 (opn kd mm n toks) (sumN tk mm 15 n) wt gv r (iwy v) = true → (∀ u, pr = some u → nxt kd mm n u (iwy v) = true) → ∀ a6 a7, cm_Ex l g 6 0 0 mX7_judged 103 [.ref 23, .ref (tA p), .int i, .long x, .float 0, .int (nI r), a6, a7, .int (nI (iwy v))] [] I L (RR n hr tl) (DD n) Q := by
                intro e1 e2 a6 a7
                refine x_aldn qX7_judged_103 rfl trivial ?_
                refine x_getR qX7_judged_104 fX7_54 rfl rfl ?_
                refine x_ild qX7_judged_107 rfl ?_
                refine x_cV1 (d' := 2) qX7_judged_109 cX7_128 rfl ⟨_, rfl, rfl⟩ rfl rfl (Nat.le_of_ble_eq_true rfl) (Nat.le_of_ble_eq_true rfl) (by decide) ?_
                refine c_X3_afterWay rfl H w1 ?_
                refine x_lst3 qX7_judged_112 (by decide) rfl ?_
                refine x_iinc5 qX7_judged_113 (by decide) (cm_inc _) rfl ?_
                refine x_goto (tgt := 5) qX7_judged_116 (by omega) ?_
                refine ih (r + 1) (some (iwy v)) _ _ _ _ (by omega) (fun e => by omega) (fun _ => ⟨iwy v, rfl, w1, rfl⟩) ?_
                simp only [jdg, hit, if_pos (And.intro w1 (And.intro e1 e2))] at hQ'
                exact hQ'
              refine x_lld qX7_judged_66 rfl ?_
              refine x_l2i qX7_judged_68 ?_
              rw [w2]
              refine x_ist8 qX7_judged_69 (by decide) rfl ?_
              refine x_aldn qX7_judged_71 rfl trivial ?_
              refine x_getR qX7_judged_72 fX7_15 rfl rfl ?_
              refine x_ild qX7_judged_75 rfl ?_
              refine x_lald qX7_judged_77 rfl rfl (by omega) (by decide) ?_
              refine x_ild qX7_judged_78 rfl ?_
              refine x_cS2 (d' := 1) qX7_judged_80 cX7_106 rfl rfl (Nat.le_of_ble_eq_true rfl) (Nat.le_of_ble_eq_true rfl) (by decide) ?_
              refine c_X7_isIn (by omega) (fun h80 => ?_) (fun h80 => ?_)
              · rw [hf] at h80
                refine x_if_eq_f (tgt := 100) qX7_judged_83 (by omega) (by decide) ?_
                refine x_ild qX7_judged_86 rfl ?_
                refine x_if_le_n (tgt := 103) qX7_judged_88 (by omega) (by omega) (fun h88 => ?_) (fun h88 => ?_)
                · exact yes h80 (fun u hu => by rw [h0 h88] at hu; cases hu) _ _
                · obtain ⟨u, hu, hu2, rfl⟩ := h1 h88
                  have hx : tb (L 4 u) (iwy v) = nxt kd mm n u (iwy v) := by
                    rw [H.2.2.2.2.2.2.2.2.2.1 u hu2 (iwy v) (by omega), decide_eq_true w1, Bool.true_and]
                  refine x_lldn qX7_judged_91 rfl ?_
                  refine x_ild qX7_judged_92 rfl ?_
                  refine x_cS2 (d' := 1) qX7_judged_94 cX7_106 rfl rfl (Nat.le_of_ble_eq_true rfl) (Nat.le_of_ble_eq_true rfl) (by decide) ?_
                  refine c_X7_isIn (by omega) (fun h94 => ?_) (fun h94 => ?_)
                  · rw [hx] at h94
                    refine x_if_ne_t (tgt := 103) qX7_judged_97 (by omega) (by decide) ?_
                    exact yes h80 (fun u' hu' => by rw [hu] at hu'; cases hu'; exact h94) _ _
                  · rw [hx] at h94
                    refine x_if_ne_f (tgt := 103) qX7_judged_97 (by omega) (by decide) ?_
                    refine x_ild qX7_judged_100 rfl ?_
                    refine x_iret qX7_judged_102 rfl rfl ?_
                    exact no (fun e => by have := e.2.2 u hu; rw [h94] at this; cases this)
              · rw [hf] at h80
                refine x_if_eq_t (tgt := 100) qX7_judged_83 (by omega) (by decide) ?_
                refine x_ild qX7_judged_100 rfl ?_
                refine x_iret qX7_judged_102 rfl rfl ?_
                exact no (fun e => by rw [h80] at e; cases e.2.1)
            · rw [lg_cmp_lt] at h60
              refine x_ild qX7_judged_63 rfl ?_
              refine x_iret qX7_judged_65 rfl rfl ?_
              exact no (fun e => by have := iwy_ge hW h60; omega)
        · rw [addr_has hi (by omega) hsz] at hh
          refine x_if_ne_f (tgt := 35) qX7_judged_26 (by omega) (by decide) ?_
          refine x_bipush (v := nI 100) qX7_judged_29 rfl ?_
          refine x_ild qX7_judged_31 rfl ?_
          refine x_iadd_n qX7_judged_33 ?_
          refine x_iret qX7_judged_34 rfl rfl ?_
          exact short (by unfold itm; rw [if_neg (fun e => hh e.2)])
  refine x_lconst (v := 0) qX7_judged_0 rfl ?_
  refine x_lst3 qX7_judged_1 (by decide) rfl ?_
  refine x_iconst (v := nI 0) qX7_judged_2 rfl ?_
  refine x_ist5 qX7_judged_3 (by decide) rfl ?_
  exact loop len 0 none _ _ _ _ (by omega) (fun _ => rfl) (fun h => by omega) hQ
end K29
