/-! the reference: frames; thing, follows, feed -/
theorem MC_fr {h c : Nat} {cl : Cls} {I I' : cm_I} (M : MC h c cl I) (hI : ∀ b, 78 ≤ b → b ≤ 83 → I' b = I b) : MC h c cl I' := by
  obtain ⟨a1, a2, a3, a4, a5, a6⟩ := M
  refine ⟨by rw [hI 78 (by omega) (by omega)]; exact a1, a2, by rw [hI 79 (by omega) (by omega)]; exact a3, by rw [hI 80 (by omega) (by omega)]; exact a4, a5, fun e => ?_⟩
  obtain ⟨o, b1, b2, b3, b4, b5, b6⟩ := a6 e
  exact ⟨o, by rw [hI 81 (by omega) (by omega)]; exact b1, by rw [hI 82 (by omega) (by omega)]; exact b2, b3, b4, by rw [hI 83 (by omega) (by omega)]; exact b5, b6⟩
theorem MHS_fr {h : Nat} {cs : List Cls} {I I' : cm_I} (M : MHS h cs I) (hI : ∀ b, 77 ≤ b → b ≤ 83 → I' b = I b) : MHS h cs I' := by
  obtain ⟨a1, a2, a3⟩ := M
  exact ⟨by rw [hI 77 (by omega) (by omega)]; exact a1, a2, fun i cl hi => MC_fr (a3 i cl hi) (fun b h1 h2 => hI b (by omega) h2)⟩
theorem MMT_fr {k o len cell : Nat} {wt : Nat → Nat} {I I' : cm_I} (M : MMT k o len wt cell I) (h1 : I' cell k = I cell k) (h2 : I' (cell - 1) = I (cell - 1)) : MMT k o len wt cell I' := by
  obtain ⟨a, b, c⟩ := M
  exact ⟨by rw [h1]; exact a, b, by rw [h2]; exact c⟩
theorem MIMG_fr {im : IM} {hs : List (List Cls)} {I I' : cm_I} (M : MIMG im hs I) (h35 : I' 73 35 = I 73 35) (h36 : I' 73 36 = I 73 36) (h99 : I' 99 = I 99) (h100 : I' 100 = I 100) : MIMG im hs I' := by
  cases im with
  | none => exact h35.trans M
  | some q =>
    obtain ⟨a, x, b, y, z⟩ := q
    obtain ⟨m1, m2, m3, m4, m5⟩ := M
    exact ⟨h35.trans m1, MMT_fr m2 (by rw [h100]) h99, MMT_fr m3 (by rw [h100]) h99, h36.trans m4, m5⟩
theorem MTR_fr {s : List Nat} {I I' : cm_I} (M : MTR s I) (h39 : I' 73 39 = I 73 39) (h : I' 101 = I 101) : MTR s I' := by
  obtain ⟨a, b⟩ := M
  exact ⟨by rw [h39]; exact a, by rw [h]; exact b⟩
theorem MTP_fr {tp : TP} {I I' : cm_I} {L L' : cm_L} (M : MTP tp I L) (h1 : I' 102 = I 102) (h2 : I' 103 = I 103) (h3 : L' 104 = L 104) : MTP tp I' L' := by
  intro p hp
  rw [h1, h2, h3]; exact M p hp
theorem MH_fr {n : Nat} {kd mm : Nat → Nat} {I I' : cm_I} (M : MH n kd mm I) (h0 : I' 73 0 = I 73 0) (h1 : I' 73 1 = I 73 1) (h2 : I' 74 = I 74) (h3 : I' 75 = I 75) : MH n kd mm I' := by
  obtain ⟨a1, a2, a3, a4, a5, a6, a7⟩ := M
  exact ⟨a1, a2, a3, a4, h0.trans a5, h1.trans a6, by rw [h2, h3]; exact a7⟩
theorem MX_fr {len : Nat} {tx : Nat → Nat} {I I' : cm_I} (M : MX len tx I) (h6 : I' 73 6 = I 73 6) (h : I' 76 = I 76) : MX len tx I' := by
  obtain ⟨a, b, c⟩ := M
  exact ⟨h6.trans a, b, by rw [h]; exact c⟩
section M2
variable {l : Launch} {g : cm_G} {I : cm_I} {L : cm_L} {hr tl : Option Nat} {Q : cm_Post} {u : Nat} {n : Nat} {kd mm : Nat → Nat} {len : Nat} {tx : Nat → Nat} {hs : List (List Cls)} {hx c1 : Nat} {w1 : Nat → Nat} {c2 : Nat} {w2 : Nat → Nat} {im : IM} {s : List Nat} {tp : TP}
theorem MI_fr {I' : cm_I} {L' : cm_L} (M : MI n kd mm len tx hs hx c1 w1 c2 w2 im s tp I L) (h : ∀ k, k ≠ 7 → k ≠ 8 → k ≠ 18 → k ≠ 19 → k ≠ 20 → I' 73 k = I 73 k) (hI : ∀ b, 74 ≤ b → b < 106 → b ≠ 84 → (b < 87 ∨ 98 < b) → b ≠ 105 → I' b = I b) (hL : L' 104 = L 104) : MI n kd mm len tx hs hx c1 w1 c2 w2 im s tp I' L' := by
  obtain ⟨a1, a2, ⟨b1, b2, b3⟩, ⟨d1, d2⟩, e1, e2, f, ⟨g1, g2⟩, k⟩ := M
  refine ⟨MH_fr a1 (h 0 (by omega) (by omega) (by omega) (by omega) (by omega)) (h 1 (by omega) (by omega) (by omega) (by omega) (by omega)) (hI 74 (by omega) (by omega) (by omega) (by omega) (by omega)) (hI 75 (by omega) (by omega) (by omega) (by omega) (by omega)), MX_fr a2 (h 6 (by omega) (by omega) (by omega) (by omega) (by omega)) (hI 76 (by omega) (by omega) (by omega) (by omega) (by omega)), ⟨by rw [h 4 (by omega) (by omega) (by omega) (by omega) (by omega)]; exact b1, b2, fun h cs hh => MHS_fr (b3 h cs hh) (fun b h1 h2 => hI b (by omega) (by omega) (by omega) (by omega) (by omega))⟩, ⟨d1, by rw [h 5 (by omega) (by omega) (by omega) (by omega) (by omega)]; exact d2⟩, ?_, ?_, ?_, ⟨?_, g2⟩, ?_⟩
  · exact MMT_fr e1 (by rw [hI 86 (by omega) (by omega) (by omega) (by omega) (by omega)]) (hI 85 (by omega) (by omega) (by omega) (by omega) (by omega))
  · exact MMT_fr e2 (by rw [hI 86 (by omega) (by omega) (by omega) (by omega) (by omega)]) (hI 85 (by omega) (by omega) (by omega) (by omega) (by omega))
  · exact MIMG_fr f (h 35 (by omega) (by omega) (by omega) (by omega) (by omega)) (h 36 (by omega) (by omega) (by omega) (by omega) (by omega)) (hI 99 (by omega) (by omega) (by omega) (by omega) (by omega)) (hI 100 (by omega) (by omega) (by omega) (by omega) (by omega))
  · exact MTR_fr g1 (h 39 (by omega) (by omega) (by omega) (by omega) (by omega)) (hI 101 (by omega) (by omega) (by omega) (by omega) (by omega))
  · exact MTP_fr k (hI 102 (by omega) (by omega) (by omega) (by omega) (by omega)) (hI 103 (by omega) (by omega) (by omega) (by omega) (by omega)) hL
theorem c_X12_thing {k m : Int32} (M : MI n kd mm len tx hs hx c1 w1 c2 w2 im s tp I L) (hok : thgC n mm c1 c2 k m → KMQ Q (.int (nI n)) u hr tl (MI (n + 1) (fup kd n (ix k)) (fup mm n (ix m)) len tx hs hx c1 w1 c2 w2 im s tp) I L) (hno : ¬ thgC n mm c1 c2 k m → KMQ Q (.int (thgA n mm c1 c2 k m)) u hr tl (MI n kd mm len tx hs hx c1 w1 c2 w2 im s tp) I L) : cm_Ex l g 2 0 0 mX12_thing 0 [.ref 73, .int k, .int m] [] I L (RR u hr tl) (DD u) Q := by
  obtain ⟨a1, a2, ⟨b1, b2, b3⟩, ⟨d1, d2⟩, e1, e2, f, ⟨g1, g2⟩, kk⟩ := id M
  obtain ⟨q1, q2, q3, q4, q5, q6, q7⟩ := id a1
  have hno' : ¬ thgC n mm c1 c2 k m → Q (some (.int (thgA n mm c1 c2 k m))) I L (RR u hr tl) (DD u) := fun h => hno h I L M KC_rfl
  have e0 : (nI 0).toInt = 0 := by decide
  have e6 : (nI 6).toInt = 6 := by decide
  have t2 : (nI 2).toInt = 2 := by decide
  have t4 : (nI 4).toInt = 4 := by decide
  have l1 := e1.2.1
  have l2 := e2.2.1
  refine x_aldn qX12_thing_0 rfl trivial ?_
  refine x_ildn qX12_thing_1 rfl ?_
  refine x_iconst (v := nI 0) qX12_thing_2 rfl ?_
  refine x_bipush (v := nI 6) qX12_thing_3 rfl ?_
  refine x_cV3 (d' := 1) qX12_thing_5 cX12_149 rfl ⟨_, rfl, rfl⟩ rfl rfl (Nat.le_of_ble_eq_true rfl) (Nat.le_of_ble_eq_true rfl) (by decide) ?_
  refine c_X12_in (fun hk => ?_) (fun hk => ?_)
  · rw [e0, e6] at hk
    have hkb : inB k 7 = true := inB_iff.mpr (by omega)
    obtain ⟨ek, lk⟩ := inB_ix hkb
    refine x_if_ne_t (tgt := 13) qX12_thing_8 (by omega) (by decide) ?_
    refine x_aldn qX12_thing_13 rfl trivial ?_
    refine x_ildn qX12_thing_14 rfl ?_
    refine x_iconst (v := nI 2) qX12_thing_15 rfl ?_
    refine x_iconst (v := nI 4) qX12_thing_16 rfl ?_
    refine x_cV3 (d' := 1) qX12_thing_17 cX12_149 rfl ⟨_, rfl, rfl⟩ rfl rfl (Nat.le_of_ble_eq_true rfl) (Nat.le_of_ble_eq_true rfl) (by decide) ?_
    refine c_X12_in (fun hm => ?_) (fun hm => ?_)
    · rw [t2, t4] at hm
      have em := nI_ix (x := m) (by omega)
      have hm4 : ix m ≤ 4 := by unfold ix; omega
      have hm2 : 2 ≤ ix m := by unfold ix; omega
      have hwm : wys mm n * ix m ≤ 64 * 4 := Nat.mul_le_mul q4 hm4
      have full : thgA n mm c1 c2 k m = (if 0 < c1 ∨ 0 < c2 then -3 else -4) := by
        unfold thgA; rw [if_pos hkb, if_pos hm]
      refine x_if_ne_t (tgt := 26) qX12_thing_20 (by omega) (by decide) ?_
      refine x_aldn qX12_thing_26 rfl trivial ?_
      refine x_getR qX12_thing_27 fX12_77 rfl rfl ?_
      refine x_iconst (v := nI 0) qX12_thing_30 rfl ?_
      refine x_ialde qX12_thing_31 dd_86 rfl (by omega) (by decide) e1.1 ?_
      refine x_aldn qX12_thing_32 rfl trivial ?_
      refine x_getR qX12_thing_33 fX12_77 rfl rfl ?_
      refine x_iconst (v := nI 1) qX12_thing_36 rfl ?_
      refine x_ialde qX12_thing_37 dd_86 rfl (by omega) (by decide) e2.1 ?_
      refine x_iadd_n qX12_thing_38 ?_
      refine x_if_le_n (tgt := 45) qX12_thing_39 (by omega) (by omega) (fun h39 => ?_) (fun h39 => ?_)
      · have nof : ¬ (n < 4 ∧ wys mm n * ix m ≤ 64) → cm_Ex l g 2 0 0 mX12_thing 64 [.ref 73, .int k, .int m] [] I L (RR u hr tl) (DD u) Q := fun h => by
          have hq := hno' (fun e => h e.2.2.2)
          rw [full, if_neg (by omega)] at hq
          refine x_bipush (v := -4) qX12_thing_64 rfl ?_
          refine x_iret qX12_thing_66 rfl rfl ?_
          exact hq
        refine x_aldn qX12_thing_45 rfl trivial ?_
        refine x_getIe qX12_thing_46 fX12_7 rfl q5 ?_
        refine x_iconst (v := nI 4) qX12_thing_49 rfl ?_
        refine x_icmp_eq_n (tgt := 64) qX12_thing_50 (by omega) (by omega) (by omega) (fun h50 => nof (by omega)) (fun h50 => ?_)
        refine x_aldn qX12_thing_53 rfl trivial ?_
        refine x_getIe qX12_thing_54 fX12_13 rfl q6 ?_
        refine x_ildn qX12_thing_57 rfl ?_
        refine x_topI em ?_
        refine x_imul_n qX12_thing_58 ?_
        refine x_bipush (v := nI 64) qX12_thing_59 rfl ?_
        refine x_icmp_le_n (tgt := 67) qX12_thing_61 (by omega) (by omega) (by omega) (fun h61 => ?_) (fun h61 => nof (by omega))
        have hq := hok ⟨hkb, hm, by omega, by omega, h61⟩
        refine x_aldn qX12_thing_67 rfl trivial ?_
        refine x_getR qX12_thing_68 fX12_16 rfl rfl ?_
        refine x_aldn qX12_thing_71 rfl trivial ?_
        refine x_getIe qX12_thing_72 fX12_7 rfl q5 ?_
        refine x_ildn qX12_thing_75 rfl ?_
        refine x_iast qX12_thing_76 dd_74 rfl (by omega) (by decide) ?_
        refine x_aldn qX12_thing_77 rfl trivial ?_
        refine x_getR qX12_thing_78 fX12_20 rfl rfl ?_
        refine x_aldn qX12_thing_81 rfl trivial ?_
        refine x_getIe qX12_thing_82 fX12_7 rfl q5 ?_
        refine x_ildn qX12_thing_85 rfl ?_
        refine x_iast qX12_thing_86 dd_75 rfl (by omega) (by decide) ?_
        refine x_aldn qX12_thing_87 rfl trivial ?_
        refine x_dup qX12_thing_88 rfl ?_
        refine x_getIe qX12_thing_89 fX12_13 rfl q6 ?_
        refine x_ildn qX12_thing_92 rfl ?_
        refine x_topI em ?_
        refine x_imul_n qX12_thing_93 ?_
        refine x_putI qX12_thing_94 fX12_13 (Or.inl rfl) rfl ?_
        refine x_aldn qX12_thing_97 rfl trivial ?_
        refine x_dup qX12_thing_98 rfl ?_
        refine x_getIe qX12_thing_99 fX12_7 rfl q5 ?_
        refine x_iconst (v := nI 1) qX12_thing_102 rfl ?_
        refine x_iadd_n qX12_thing_103 ?_
        refine x_putI qX12_thing_104 fX12_7 (Or.inl rfl) rfl ?_
        refine x_aldn qX12_thing_107 rfl trivial ?_
        refine x_getIe qX12_thing_108 fX12_7 rfl (show _ = nI (n + 1) from by rw [cm_uu]; rfl) ?_
        refine x_iconst (v := nI 1) qX12_thing_111 rfl ?_
        refine x_isub_n qX12_thing_112 (by omega) ?_
        refine x_iret qX12_thing_113 rfl rfl ?_
        have fr : ∀ b, b ≠ 73 → b ≠ 74 → b ≠ 75 → cm_u (cm_u (cm_u (cm_u I 74 n k) 75 n m) 73 1 (nI (wys mm n * ix m))) 73 0 (nI (n + 1)) b = I b := fun b h1 h2 h3 => by rw [cm_u_ne h1, cm_u_ne h1, cm_u_ne h3, cm_u_ne h2]
        have f73 : ∀ j, 2 ≤ j → cm_u (cm_u (cm_u (cm_u I 74 n k) 75 n m) 73 1 (nI (wys mm n * ix m))) 73 0 (nI (n + 1)) 73 j = I 73 j := fun j hj => by
          rw [cm_uu]
          show (if j = 0 then _ else _) = _
          rw [if_neg (by omega), cm_uu]
          show (if j = 1 then _ else _) = _
          rw [if_neg (by omega), cm_u_ne (by decide), cm_u_ne (by decide)]
        refine hq _ L ⟨⟨by omega, ?_, ?_, ?_, ?_, ?_, ?_⟩, MX_fr a2 (f73 6 (by omega)) (fr 76 (by omega) (by omega) (by omega)), ⟨by rw [f73 4 (by omega)]; exact b1, b2, fun h cs hh => MHS_fr (b3 h cs hh) (fun b h1 h2 => fr b (by omega) (by omega) (by omega))⟩, ⟨d1, by rw [f73 5 (by omega)]; exact d2⟩, ?_, ?_, ?_, ⟨?_, g2⟩, ?_⟩ (fun b hb => ⟨fr b (by omega) (by omega) (by omega), rfl⟩)
        · intro i hi
          unfold fup
          by_cases e : i = n
          · subst e; rw [if_pos rfl]; exact ⟨hm2, hm4⟩
          · rw [if_neg e]; exact q2 i (by omega)
        · intro i hi
          unfold fup
          by_cases e : i = n
          · subst e; rw [if_pos rfl]; exact lk
          · rw [if_neg e]; exact q3 i (by omega)
        · show wys (fup mm n (ix m)) n * fup mm n (ix m) n ≤ 64
          rw [fup_eq, wys_congr (fun i hi => fup_lt hi)]; exact h61
        · rw [cm_uu]; rfl
        · rw [cm_uu, cm_uu]
          show nI (wys mm n * ix m) = nI (wys (fup mm n (ix m)) n * fup mm n (ix m) n)
          rw [fup_eq, wys_congr (fun i hi => fup_lt hi)]
        · intro i hi
          rw [cm_u_ne (by decide), cm_u_ne (by decide), cm_u_ne (by decide), cm_uu, cm_u_ne (by decide), cm_u_ne (by decide), cm_uu]
          unfold fup
          by_cases e : i = n
          · subst e
            simp only [if_true]
            exact ⟨ek, em⟩
          · simp only [if_neg e]
            exact q7 i (by omega)
        · exact MMT_fr e1 (by rw [fr 86 (by omega) (by omega) (by omega)]) (fr 85 (by omega) (by omega) (by omega))
        · exact MMT_fr e2 (by rw [fr 86 (by omega) (by omega) (by omega)]) (fr 85 (by omega) (by omega) (by omega))
        · exact MIMG_fr f (f73 35 (by omega)) (f73 36 (by omega)) (fr 99 (by omega) (by omega) (by omega)) (fr 100 (by omega) (by omega) (by omega))
        · exact MTR_fr g1 (f73 39 (by omega)) (fr 101 (by omega) (by omega) (by omega))
        · exact MTP_fr kk (fr 102 (by omega) (by omega) (by omega)) (fr 103 (by omega) (by omega) (by omega)) rfl
      · have hq := hno' (fun e => by have := e.2.2.1; omega)
        rw [full, if_pos (by omega)] at hq
        refine x_bipush (v := -3) qX12_thing_42 rfl ?_
        refine x_iret qX12_thing_44 rfl rfl ?_
        exact hq
    · rw [t2, t4] at hm
      have hq := hno' (fun e => hm e.2.1)
      unfold thgA at hq
      rw [if_pos hkb, if_neg hm] at hq
      refine x_if_ne_f (tgt := 26) qX12_thing_20 (by omega) (by decide) ?_
      refine x_bipush (v := -2) qX12_thing_23 rfl ?_
      refine x_iret qX12_thing_25 rfl rfl ?_
      exact hq
  · rw [e0, e6] at hk
    have hkb : ¬ inB k 7 = true := fun e => hk (by have := inB_iff.mp e; omega)
    have hq := hno' (fun e => hkb e.1)
    unfold thgA at hq
    rw [if_neg hkb] at hq
    refine x_if_ne_f (tgt := 13) qX12_thing_8 (by omega) (by decide) ?_
    refine x_iconst (v := -1) qX12_thing_11 rfl ?_
    refine x_iret qX12_thing_12 rfl rfl ?_
    exact hq
end M2
