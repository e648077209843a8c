/-! the reference: what fits -/
theorem exb_mono {f : Nat → Bool} {a b : Nat} (h : exb f a = true) (hab : a ≤ b) : exb f b = true := by
  obtain ⟨i, hi, hf⟩ := exb_iff.mp h
  exact exb_iff.mpr ⟨i, by omega, hf⟩
theorem exb_s {f : Nat → Bool} {a : Nat} : exb f (a + 1) = (exb f a || f a) := by
  rw [Bool.eq_iff_iff, Bool.or_eq_true, exb_iff, exb_iff]
  constructor
  · rintro ⟨i, hi, hf⟩
    by_cases e : i = a
    · subst e; exact Or.inr hf
    · exact Or.inl ⟨i, by omega, hf⟩
  · rintro (⟨i, hi, hf⟩ | hf)
    · exact ⟨i, by omega, hf⟩
    · exact ⟨a, by omega, hf⟩
theorem dec2 (k : Nat) : nI (k + 1) - nI 2 = nI k + Int32.ofInt (-1) := by
  show _ = nI k + zI (-1)
  rw [← zI_nat, ← zI_nat, ← zI_nat, zI_sub, zI_add]
  congr 1
  omega
theorem HK_999 {hx : Nat} {cs : List Cls} {I : cm_I} (K : HK hx cs I) : ∀ cl, cl ∈ cs → cl.2.2.1 ≤ 999 := fun cl hcl => by
  obtain ⟨i, hi⟩ := List.getElem?_of_mem hcl
  exact ((HK_at K).2.2 i cl hi).2.2.2.2.1
/-- the fits of a try: readings as whole parts of so many, a secret thing -/
def F2 (n : Nat) (kd mm : Nat → Nat) (cs : List Cls) (w1 : Nat → Nat) (c s : Nat) : Nat → Nat → Bool := ftt (opn kd mm n (btk cs)) (sumN (fun i => lst 0 i cs) mm 15 n) w1 (lst 3 0 cs) c s
theorem F2_1 {n : Nat} {kd mm : Nat → Nat} {cs : List Cls} {w1 : Nat → Nat} {r w : Nat} : F2 n kd mm cs w1 1 0 r w = F1 n kd mm cs w1 r w := ft1_eq
section M16
variable {l : Launch} {g : cm_G} {I : cm_I} {L : cm_L} {hr tl : Option Nat} {Q : cm_Post} {u : Nat} {n : Nat} {kd mm : Nat → Nat} {hx : Nat} {cs : List Cls} {c1 : Nat} {w1 : Nat → Nat}
theorem c_X12_isNear {R : cm_R} {ds : cm_Ds} {x y z : Int32} {a b gv : Int} (hx : x = zI a) (hy : y = zI b) (hz : z = zI gv) (h1 : -100000 ≤ a) (h2 : a ≤ 100000) (h3 : -100000 ≤ b) (h4 : b ≤ 100000) (h5 : 0 ≤ gv) (h6 : gv ≤ 100000) (hQ : Q (some (.int (b2I (nearZ a b gv)))) I L R ds) : cm_Ex l g 1 0 0 mX12_isNear 0 [.ref 73, .int x, .int y, .int z] [] I L R ds Q := by
  subst hx; subst hy; subst hz
  refine x_ildn qX12_isNear_0 rfl ?_
  refine x_ildn qX12_isNear_1 rfl ?_
  refine x_isub qX12_isNear_2 ?_
  rw [zI_sub]
  refine x_ildn qX12_isNear_3 rfl ?_
  refine x_icmp_gt (tgt := 18) qX12_isNear_4 (by omega) (fun h => ?_) (fun h => ?_)
  · rw [zI_lt (by omega) (by omega) (by omega) (by omega)] at h
    have e : nearZ a b gv = false := by unfold nearZ; rw [decide_eq_false (by omega)]; rfl
    rw [e] at hQ
    refine x_iconst (v := nI 0) qX12_isNear_18 rfl ?_
    refine x_iret qX12_isNear_19 rfl rfl ?_
    exact hQ
  · rw [zI_lt (by omega) (by omega) (by omega) (by omega)] at h
    refine x_ildn qX12_isNear_7 rfl ?_
    refine x_ildn qX12_isNear_8 rfl ?_
    refine x_isub qX12_isNear_9 ?_
    rw [zI_sub]
    refine x_ildn qX12_isNear_10 rfl ?_
    refine x_icmp_gt (tgt := 18) qX12_isNear_11 (by omega) (fun h7 => ?_) (fun h7 => ?_)
    · rw [zI_lt (by omega) (by omega) (by omega) (by omega)] at h7
      have e : nearZ a b gv = false := by unfold nearZ; rw [decide_eq_false (show ¬ b ≤ a + gv by omega), Bool.and_false]
      rw [e] at hQ
      refine x_iconst (v := nI 0) qX12_isNear_18 rfl ?_
      refine x_iret qX12_isNear_19 rfl rfl ?_
      exact hQ
    · rw [zI_lt (by omega) (by omega) (by omega) (by omega)] at h7
      have e : nearZ a b gv = true := by unfold nearZ; rw [decide_eq_true (show a ≤ b + gv by omega), decide_eq_true (show b ≤ a + gv by omega)]; rfl
      rw [e] at hQ
      refine x_iconst (v := nI 1) qX12_isNear_14 rfl ?_
      refine x_goto (tgt := 19) qX12_isNear_15 (by omega) ?_
      refine x_iret qX12_isNear_19 rfl rfl ?_
      exact hQ
theorem c_X12_layFits {c s : Nat} (H : MH n kd mm I) (K : HK hx cs I) (M : MMT 0 0 c1 w1 86 I) (A : LL n kd mm cs c1 I) (hc : 1 ≤ c) (hc2 : c ≤ 60) (hs : s ≤ 99) (hQ : ∀ I', (∀ r, r < c1 → ∀ w, w < wys mm n → I' 95 (64 * r + w) = b2I (F2 n kd mm cs w1 c s r w)) → (∀ b, b ≠ 95 → I' b = I b) → Q none I' L (RR u hr tl) (DD u)) : cm_Ex l g 4 0 0 mX12_layFits 0 [.ref 73, .int (nI c), .int (nI s), .float 0, .float 0, .float 0, .float 0] [] I L (RR u hr tl) (DD u) Q := by
  obtain ⟨h4, hok, hk, h64, h0, h1, hi⟩ := id H
  obtain ⟨m1, m2, m3⟩ := id M
  have h999 := HK_999 K
  have hg : lst 3 0 cs ≤ 999 := lst_le h999
  have hsum : ∀ w, sumN (fun i => lst 0 i cs) mm 15 n w ≤ 999 * n := fun w => sumN_le hok h4 (fun i _ => lst_le h999) w (Nat.le_refl n)
  have eg : nI (lst 3 0 cs + c - 1) = zI ((lst 3 0 cs : Int) + c - 1) := by rw [← zI_nat]; congr 1; omega
  have loop : ∀ m r (v5 v6 : Value) I', r + m = c1 → (∀ r', r' < r → ∀ w, w < wys mm n → I' 95 (64 * r' + w) = b2I (F2 n kd mm cs w1 c s r' w)) → (∀ b, b ≠ 95 → I' b = I b) → cm_Ex l g 4 0 0 mX12_layFits 14 [.ref 73, .int (nI c), .int (nI s), .int (nI (lst 3 0 cs + c - 1)), .int (nI r), v5, v6] [] I' L (RR u hr tl) (DD u) Q := by
    intro m
    induction m with
    | zero =>
      intro r v5 v6 I' hre hM hI
      have e : r = c1 := by omega
      rw [e] at hM ⊢
      refine x_ild qX12_layFits_14 rfl ?_
      refine x_aldn qX12_layFits_16 rfl trivial ?_
      refine x_getR qX12_layFits_17 fX12_77 rfl rfl ?_
      refine x_iconst (v := nI 0) qX12_layFits_20 rfl ?_
      refine x_ialde qX12_layFits_21 dd_86 rfl (by omega) (by decide) (show _ = nI c1 from by rw [hI 86 (by decide)]; exact m1) ?_
      refine x_icmp_ge_nt (tgt := 136) qX12_layFits_22 (by omega) (by omega) (by omega) (by omega) ?_
      refine x_vret qX12_layFits_136 rfl ?_
      exact hQ I' hM hI
    | succ m ih =>
      intro r v5 v6 I' hre hM hI
      obtain ⟨q1, q2⟩ := m3 r (by omega)
      have q1' : I' 85 r = nI (w1 r) := by
        rw [hI 85 (by decide)]
        have : I 85 (0 + r) = nI (w1 r) := q1
        rwa [Nat.zero_add] at this
      have hdv : w1 r / c * c ≤ w1 r := Nat.div_mul_le_self _ _
      have eis : nI (w1 r / c * c) = zI ((w1 r / c * c : Nat) : Int) := (zI_nat _).symm
      have inner : ∀ k w I', w + k = wys mm n → (∀ r', r' < r → ∀ w, w < wys mm n → I' 95 (64 * r' + w) = b2I (F2 n kd mm cs w1 c s r' w)) → (∀ w', w' < w → I' 95 (64 * r + w') = b2I (F2 n kd mm cs w1 c s r w')) → (∀ b, b ≠ 95 → I' b = I b) → cm_Ex l g 4 0 0 mX12_layFits 41 [.ref 73, .int (nI c), .int (nI s), .int (nI (lst 3 0 cs + c - 1)), .int (nI r), .int (nI (w1 r / c * c)), .int (nI w)] [] I' L (RR u hr tl) (DD u) Q := by
        intro k
        induction k with
        | zero =>
          intro w I' hw hM hP hI
          have k1 : I' 73 1 = nI (wys mm n) := by rw [hI 73 (by decide)]; exact h1
          refine x_ild qX12_layFits_41 rfl ?_
          refine x_aldn qX12_layFits_43 rfl trivial ?_
          refine x_getIe qX12_layFits_44 fX12_13 rfl k1 ?_
          refine x_icmp_ge_nt (tgt := 130) qX12_layFits_47 (by omega) (by omega) (by omega) (by omega) ?_
          refine x_iinc4 qX12_layFits_130 (by decide) (cm_inc _) rfl ?_
          refine x_goto (tgt := 14) qX12_layFits_133 (by omega) ?_
          refine ih (r + 1) _ _ I' (by omega) (fun r' hr' w' hw' => ?_) hI
          by_cases e : r' = r
          · subst e; exact hP w' (by omega)
          · exact hM r' (by omega) w' hw'
        | succ k ih2 =>
          intro w I' hw hM hP hI
          have k1 : I' 73 1 = nI (wys mm n) := by rw [hI 73 (by decide)]; exact h1
          have km : I' 94 (64 * r + w) = b2I (opn kd mm n (btk cs) r w) := by rw [hI 94 (by decide)]; exact A.2.2.2 r (by omega) w (by omega)
          have ks : I' 88 w = nI (sumN (fun i => lst 0 i cs) mm 15 n w) := by rw [hI 88 (by decide)]; exact (A.2.1 w (by omega)).2.1
          have hsw := hsum w
          have ef : F2 n kd mm cs w1 c s r w = (opn kd mm n (btk cs) r w && (nearZ (sumN (fun i => lst 0 i cs) mm 15 n w : Nat) (w1 r / c * c : Nat) ((lst 3 0 cs : Int) + c - 1) || (decide (0 < s) && nearZ ((sumN (fun i => lst 0 i cs) mm 15 n w : Nat) + s) (w1 r / c * c : Nat) ((lst 3 0 cs : Int) + c - 1)))) := rfl
          have fin : ∀ b, b = F2 n kd mm cs w1 c s r w → cm_Ex l g 4 0 0 mX12_layFits 123 [.ref 73, .int (nI c), .int (nI s), .int (nI (lst 3 0 cs + c - 1)), .int (nI r), .int (nI (w1 r / c * c)), .int (nI w)] [.int (b2I b), .int (nI (64 * r + w)), .ref 95] I' L (RR u hr tl) (DD u) Q := fun b hb => by
            rw [hb]
            refine x_zast qX12_layFits_123 dd_95 rfl (by omega) (by decide) (nar_b _) ?_
            refine x_iinc6 qX12_layFits_124 (by decide) (cm_inc _) rfl ?_
            refine x_goto (tgt := 41) qX12_layFits_127 (by omega) ?_
            refine ih2 (w + 1) _ (by omega) (fun r' hr' w' hw' => by rw [rdK (by omega)]; exact hM r' hr' w' hw') (fun w' hw' => ?_) (fun b g1 => by rw [cm_u_ne g1]; exact hI b g1)
            by_cases e : w' = w
            · subst e; exact rdE
            · rw [rdK (by omega)]; exact hP w' (by omega)
          refine x_ild qX12_layFits_41 rfl ?_
          refine x_aldn qX12_layFits_43 rfl trivial ?_
          refine x_getIe qX12_layFits_44 fX12_13 rfl k1 ?_
          refine x_icmp_ge_nf (tgt := 130) qX12_layFits_47 (by omega) (by omega) (by omega) (by omega) ?_
          refine x_aldn qX12_layFits_50 rfl trivial ?_
          refine x_getR qX12_layFits_51 fX12_105 rfl rfl ?_
          refine x_bipush (v := nI 64) qX12_layFits_54 rfl ?_
          refine x_ild qX12_layFits_56 rfl ?_
          refine x_imul_n qX12_layFits_58 ?_
          refine x_ild qX12_layFits_59 rfl ?_
          refine x_iadd_n qX12_layFits_61 ?_
          refine x_aldn qX12_layFits_62 rfl trivial ?_
          refine x_getR qX12_layFits_63 fX12_102 rfl rfl ?_
          refine x_bipush (v := nI 64) qX12_layFits_66 rfl ?_
          refine x_ild qX12_layFits_68 rfl ?_
          refine x_imul_n qX12_layFits_70 ?_
          refine x_ild qX12_layFits_71 rfl ?_
          refine x_iadd_n qX12_layFits_73 ?_
          refine x_zalde qX12_layFits_74 dd_94 rfl (by omega) (by decide) km ?_
          generalize opn kd mm n (btk cs) r w = o at *
          generalize sumN (fun i => lst 0 i cs) mm 15 n w = sm at *
          cases o with
          | false =>
            refine x_if_eq_t (tgt := 122) qX12_layFits_75 (by omega) (by decide) ?_
            refine x_iconst (v := nI 0) qX12_layFits_122 rfl ?_
            exact fin false (by rw [ef]; rfl)
          | true =>
            rw [Bool.true_and] at ef
            refine x_if_eq_f (tgt := 122) qX12_layFits_75 (by omega) (by decide) ?_
            refine x_aldn qX12_layFits_78 rfl trivial ?_
            refine x_aldn qX12_layFits_79 rfl trivial ?_
            refine x_getR qX12_layFits_80 fX12_83 rfl rfl ?_
            refine x_ild qX12_layFits_83 rfl ?_
            refine x_ialde qX12_layFits_85 dd_88 rfl (by omega) (by decide) ks ?_
            refine x_ild qX12_layFits_86 rfl ?_
            refine x_ildn qX12_layFits_88 rfl ?_
            refine x_cV3 (d' := 1) qX12_layFits_89 cX12_233 rfl ⟨_, rfl, rfl⟩ rfl rfl (Nat.le_of_ble_eq_true rfl) (Nat.le_of_ble_eq_true rfl) (by decide) ?_
            refine c_X12_isNear (a := (sm : Int)) (zI_nat _).symm eis eg (by omega) (by omega) (by omega) (by omega) (by omega) (by omega) ?_
            cases hn1 : nearZ (sm : Int) (w1 r / c * c : Nat) ((lst 3 0 cs : Int) + c - 1) with
            | true =>
              refine x_if_ne_t (tgt := 118) qX12_layFits_92 (by omega) (by decide) ?_
              refine x_iconst (v := nI 1) qX12_layFits_118 rfl ?_
              refine x_goto (tgt := 123) qX12_layFits_119 (by omega) ?_
              exact fin true (by rw [ef, hn1]; rfl)
            | false =>
              refine x_if_ne_f (tgt := 118) qX12_layFits_92 (by omega) (by decide) ?_
              refine x_ildn qX12_layFits_95 rfl ?_
              refine x_if_le_n (tgt := 122) qX12_layFits_96 (by omega) (by omega) (fun e => ?_) (fun e => ?_)
              · refine x_iconst (v := nI 0) qX12_layFits_122 rfl ?_
                exact fin false (by rw [ef, hn1, decide_eq_false (by omega)]; rfl)
              · refine x_aldn qX12_layFits_99 rfl trivial ?_
                refine x_aldn qX12_layFits_100 rfl trivial ?_
                refine x_getR qX12_layFits_101 fX12_83 rfl rfl ?_
                refine x_ild qX12_layFits_104 rfl ?_
                refine x_ialde qX12_layFits_106 dd_88 rfl (by omega) (by decide) ks ?_
                refine x_ildn qX12_layFits_107 rfl ?_
                refine x_iadd_n qX12_layFits_108 ?_
                refine x_ild qX12_layFits_109 rfl ?_
                refine x_ildn qX12_layFits_111 rfl ?_
                refine x_cV3 (d' := 1) qX12_layFits_112 cX12_233 rfl ⟨_, rfl, rfl⟩ rfl rfl (Nat.le_of_ble_eq_true rfl) (Nat.le_of_ble_eq_true rfl) (by decide) ?_
                refine c_X12_isNear (a := (sm : Int) + s) (by rw [← zI_nat]; congr 1) eis eg (by omega) (by omega) (by omega) (by omega) (by omega) (by omega) ?_
                cases hn2 : nearZ ((sm : Int) + s) (w1 r / c * c : Nat) ((lst 3 0 cs : Int) + c - 1) with
                | true =>
                  refine x_if_eq_f (tgt := 122) qX12_layFits_115 (by omega) (by decide) ?_
                  refine x_iconst (v := nI 1) qX12_layFits_118 rfl ?_
                  refine x_goto (tgt := 123) qX12_layFits_119 (by omega) ?_
                  exact fin true (by rw [ef, hn1, hn2, decide_eq_true e]; rfl)
                | false =>
                  refine x_if_eq_t (tgt := 122) qX12_layFits_115 (by omega) (by decide) ?_
                  refine x_iconst (v := nI 0) qX12_layFits_122 rfl ?_
                  exact fin false (by rw [ef, hn1, hn2, Bool.and_false]; rfl)
      refine x_ild qX12_layFits_14 rfl ?_
      refine x_aldn qX12_layFits_16 rfl trivial ?_
      refine x_getR qX12_layFits_17 fX12_77 rfl rfl ?_
      refine x_iconst (v := nI 0) qX12_layFits_20 rfl ?_
      refine x_ialde qX12_layFits_21 dd_86 rfl (by omega) (by decide) (show _ = nI c1 from by rw [hI 86 (by decide)]; exact m1) ?_
      refine x_icmp_ge_nf (tgt := 136) qX12_layFits_22 (by omega) (by omega) (by omega) (by omega) ?_
      refine x_aldn qX12_layFits_25 rfl trivial ?_
      refine x_getR qX12_layFits_26 fX12_74 rfl rfl ?_
      refine x_ild qX12_layFits_29 rfl ?_
      refine x_ialde qX12_layFits_31 dd_85 rfl (by omega) (by decide) q1' ?_
      refine x_ildn qX12_layFits_32 rfl ?_
      refine x_idiv_n qX12_layFits_33 (by omega) (by omega) (by omega) ?_
      refine x_ildn qX12_layFits_34 rfl ?_
      refine x_imul_n qX12_layFits_35 ?_
      refine x_ist5 qX12_layFits_36 (by decide) rfl ?_
      refine x_iconst (v := nI 0) qX12_layFits_38 rfl ?_
      refine x_ist6 qX12_layFits_39 (by decide) rfl ?_
      exact inner (wys mm n) 0 I' (by omega) hM (fun w' hw' => absurd hw' (by omega)) hI
  refine x_aldn qX12_layFits_0 rfl trivial ?_
  refine x_iconst (v := nI 3) qX12_layFits_1 rfl ?_
  refine x_iconst (v := nI 0) qX12_layFits_2 rfl ?_
  refine x_cV2 (d' := 2) qX12_layFits_3 cX12_217 rfl ⟨_, rfl, rfl⟩ rfl rfl (Nat.le_of_ble_eq_true rfl) (Nat.le_of_ble_eq_true rfl) (by decide) ?_
  refine c_X12_last K (Or.inr (Or.inr rfl)) (by omega) ?_
  refine x_ildn qX12_layFits_6 rfl ?_
  refine x_iadd_n qX12_layFits_7 ?_
  refine x_iconst (v := nI 1) qX12_layFits_8 rfl ?_
  refine x_isub_n qX12_layFits_9 (by omega) ?_
  refine x_ist3 qX12_layFits_10 (by decide) rfl ?_
  refine x_iconst (v := nI 0) qX12_layFits_11 rfl ?_
  refine x_ist4 qX12_layFits_12 (by decide) rfl ?_
  exact loop c1 0 _ _ I (by omega) (fun r' hr' => absurd hr' (by omega)) (fun _ _ => rfl)
end M16
