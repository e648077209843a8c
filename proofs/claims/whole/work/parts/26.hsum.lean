/-! Household: joined, changes, sum -/
/-- whether f holds of one below n -/
def exb (f : Nat → Bool) : Nat → Bool
  | 0 => false
  | n + 1 => exb f n || f n
theorem exb_iff {f : Nat → Bool} : ∀ {n : Nat}, exb f n = true ↔ ∃ i, i < n ∧ f i = true := by
  intro n
  induction n with
  | zero => simp [exb]
  | succ n ih =>
    simp only [exb, Bool.or_eq_true, ih]
    constructor
    · rintro (⟨i, h1, h2⟩ | h)
      · exact ⟨i, by omega, h2⟩
      · exact ⟨n, by omega, h⟩
    · rintro ⟨i, h1, h2⟩
      by_cases e : i = n
      · subst e; exact Or.inr h2
      · exact Or.inl ⟨i, by omega, h2⟩
theorem exb_congr {f f' : Nat → Bool} : ∀ {n : Nat}, (∀ i, i < n → f i = f' i) → exb f n = exb f' n := by
  intro n
  induction n with
  | zero => intro _; rfl
  | succ n ih => intro h; simp only [exb, ih fun i hi => h i (by omega), h n (by omega)]
theorem nI_xor (a b : Nat) : nI a ^^^ nI b = nI (a ^^^ b) := by
  apply Int32.toBitVec_inj.mp
  simp [nI]
theorem dgt_xor (a b t : Nat) : (a ^^^ b) / 4 ^ t % 4 = (a / 4 ^ t % 4) ^^^ (b / 4 ^ t % 4) := by
  have e : 4 ^ t = 2 ^ (2 * t) := by rw [Nat.pow_mul]
  rw [e, ← Nat.shiftRight_eq_div_pow, ← Nat.shiftRight_eq_div_pow, ← Nat.shiftRight_eq_div_pow, Nat.shiftRight_xor_distrib, show 4 = 2 ^ 2 from rfl, Nat.xor_mod_two_pow]
theorem xor_zero_iff : ∀ a, a < 4 → ∀ b, b < 4 → ((a ^^^ b) = 0 ↔ a = b) := by decide +kernel
theorem xor_lt256 {a b : Nat} (ha : a < 256) (hb : b < 256) : a ^^^ b < 256 := Nat.xor_lt_two_pow (n := 8) ha hb
theorem chg_bits {mm : Nat → Nat} {n : Nat} (h : okm mm n) (h4 : n ≤ 4) (a b : Nat) : (if (fig mm n a ^^^ fig mm n b) % 4 = 0 then 0 else 1) + (if (fig mm n a ^^^ fig mm n b) / 4 % 4 = 0 then 0 else 1) + (if (fig mm n a ^^^ fig mm n b) / 16 % 4 = 0 then 0 else 1) + (if (fig mm n a ^^^ fig mm n b) / 64 % 4 = 0 then 0 else 1) = chg mm n a b := by
  have key : ∀ t, (if (fig mm n a ^^^ fig mm n b) / 4 ^ t % 4 = 0 then 0 else 1) = (if t < n then (if dgt mm a t = dgt mm b t then 0 else 1) else 0) := by
    intro t
    rw [dgt_xor]
    by_cases ht : t < n
    · rw [if_pos ht, fig_dgt h ht, fig_dgt h ht]
      have h1 := dgt_lt h ht a
      have h2 := dgt_lt h ht b
      have h3 := (h t ht).2
      simp only [xor_zero_iff _ (show dgt mm a t < 4 by omega) _ (show dgt mm b t < 4 by omega)]
    · rw [if_neg ht, Nat.div_eq_of_lt, Nat.div_eq_of_lt]
      · rfl
      · exact Nat.lt_of_lt_of_le (fig_lt h b) (Nat.pow_le_pow_right (by decide) (by omega))
      · exact Nat.lt_of_lt_of_le (fig_lt h a) (Nat.pow_le_pow_right (by decide) (by omega))
  have k0 := key 0
  have k1 := key 1
  have k2 := key 2
  have k3 := key 3
  simp only [Nat.pow_zero, Nat.div_one, Nat.pow_one, show 4 ^ 2 = 16 from rfl, show 4 ^ 3 = 64 from rfl] at k0 k1 k2 k3
  rw [k0, k1, k2, k3]
  rcases (by omega : n = 0 ∨ n = 1 ∨ n = 2 ∨ n = 3 ∨ n = 4) with rfl | rfl | rfl | rfl | rfl <;> simp [chg]
/-- what a table tells of some things in a way -/
def sumS (f : Nat → Int32) (mm : Nat → Nat) (s : Nat) : Nat → Nat → Int32
  | 0, _ => 0
  | t + 1, w => if s / 2 ^ t % 2 = 1 then sumS f mm s t w + f (4 * t + dgt mm w t) else sumS f mm s t w
section K5
variable {l : Launch} {g : cm_G} {I : cm_I} {L : cm_L} {n : Nat} {hr tl : Option Nat} {Q : cm_Post} {kd mm : Nat → Nat}
theorem c_X3_joined {a : Nat} {set : Int64} {R : cm_R} {t : Nat} (ha : a = 4 ∨ a = 5) (H : HI n kd mm I L) (hQ : ∀ v, (∀ x, x < 64 → tb v x = exb (fun w => tb set w && tb (L a w) x) (wys mm n)) → Q (some (.long v)) I L R (DD t)) : cm_Ex l g 1 0 0 mX3_joined 0 [.ref 1, .ref a, .long set, .float 0, .float 0, .float 0, .float 0] [] I L R (DD t) Q := by
  obtain ⟨h4, ho, -, h64, h6, h7, -⟩ := id H
  have hd : (DD t)[a]? = some (.inl (1, 64)) := by rcases ha with rfl | rfl <;> rfl
  have loop : ∀ m j (all : Int64), j + m = wys mm n → (∀ x, x < 64 → tb all x = exb (fun w => tb set w && tb (L a w) x) j) → cm_Ex l g 1 0 0 mX3_joined 6 [.ref 1, .ref a, .long set, .float 0, .long all, .float 0, .int (nI j)] [] I L R (DD t) Q := by
    intro m
    induction m with
    | zero =>
      intro j all hj hb
      have e : j = wys mm n := by omega
      subst e
      refine x_ild qX3_joined_6 rfl ?_
      refine x_aldn qX3_joined_8 rfl trivial ?_
      refine x_getIe qX3_joined_9 fX3_39 rfl h7 ?_
      refine x_icmp_ge_nt (tgt := 48) qX3_joined_12 (by omega) (by omega) (by omega) (by omega) ?_
      refine x_lld qX3_joined_48 rfl ?_
      refine x_lret qX3_joined_50 rfl ?_
      exact hQ all hb
    | succ m ih =>
      intro j all hj hb
      refine x_ild qX3_joined_6 rfl ?_
      refine x_aldn qX3_joined_8 rfl trivial ?_
      refine x_getIe qX3_joined_9 fX3_39 rfl h7 ?_
      refine x_icmp_ge_nf (tgt := 48) qX3_joined_12 (by omega) (by omega) (by omega) (by omega) ?_
      refine x_ild qX3_joined_15 rfl ?_
      refine x_aldn qX3_joined_17 rfl trivial ?_
      refine x_alen qX3_joined_18 hd (by decide) rfl ?_
      refine x_icmp_ge_nf (tgt := 48) qX3_joined_19 (by omega) (by omega) (by omega) (by omega) ?_
      refine x_lldn qX3_joined_22 rfl ?_
      refine x_ild qX3_joined_23 rfl ?_
      refine x_lushr qX3_joined_25 ?_
      refine x_lconst (v := 1) qX3_joined_26 rfl ?_
      refine x_land qX3_joined_27 ?_
      refine x_lconst (v := 0) qX3_joined_28 rfl ?_
      refine x_lcmp qX3_joined_29 ?_
      refine x_if_eq (tgt := 42) qX3_joined_30 (by omega) (fun h30 => ?_) (fun h30 => ?_)
      · refine x_iinc6 qX3_joined_42 (by decide) (cm_inc _) rfl ?_
        refine x_goto (tgt := 6) qX3_joined_45 (by omega) ?_
        first | (refine ih (j + 1) _ (by omega) (fun x hx => ?_); rw [tb_or, hb x hx]; simp only [exb]; have := (not_congr (tb_in0 (by omega))).mp h30; simp at this; rw [this, Bool.true_and]) | (refine ih (j + 1) _ (by omega) (fun x hx => ?_); rw [hb x hx]; simp only [exb]; have := (tb_in0 (by omega)).mp h30; rw [this, Bool.false_and, Bool.or_false])
      · refine x_lld qX3_joined_33 rfl ?_
        refine x_aldn qX3_joined_35 rfl trivial ?_
        refine x_ild qX3_joined_36 rfl ?_
        refine x_lald qX3_joined_38 hd rfl (by omega) (by decide) ?_
        refine x_lor qX3_joined_39 ?_
        refine x_lst4 qX3_joined_40 (by decide) rfl ?_
        refine x_iinc6 qX3_joined_42 (by decide) (cm_inc _) rfl ?_
        refine x_goto (tgt := 6) qX3_joined_45 (by omega) ?_
        first | (refine ih (j + 1) _ (by omega) (fun x hx => ?_); rw [tb_or, hb x hx]; simp only [exb]; have := (not_congr (tb_in0 (by omega))).mp h30; simp at this; rw [this, Bool.true_and]) | (refine ih (j + 1) _ (by omega) (fun x hx => ?_); rw [hb x hx]; simp only [exb]; have := (tb_in0 (by omega)).mp h30; rw [this, Bool.false_and, Bool.or_false])
  refine x_lconst (v := 0) qX3_joined_0 rfl ?_
  refine x_lst4 qX3_joined_1 (by decide) rfl ?_
  refine x_iconst (v := nI 0) qX3_joined_3 rfl ?_
  refine x_ist6 qX3_joined_4 (by decide) rfl ?_
  exact loop (wys mm n) 0 0 (by omega) (fun x _ => tb_0 x)
theorem c_X3_afterAny {set : Int64} {R : cm_R} {t : Nat} (hR : R 1 2 = some 4) (H : HI n kd mm I L) (hQ : ∀ v, (∀ x, x < 64 → tb v x = exb (fun w => tb set w && tb (L 4 w) x) (wys mm n)) → Q (some (.long v)) I L R (DD t)) : cm_Ex l g 2 0 0 mX3_afterAny 0 [.ref 1, .long set, .float 0] [] I L R (DD t) Q := by
  refine x_aldn qX3_afterAny_0 rfl trivial ?_
  refine x_aldn qX3_afterAny_1 rfl trivial ?_
  refine x_getR qX3_afterAny_2 fX3_21 rfl hR ?_
  refine x_lldn qX3_afterAny_5 rfl ?_
  refine x_cV2 (d' := 1) qX3_afterAny_6 cX3_76 rfl ⟨_, rfl, rfl⟩ rfl rfl (Nat.le_of_ble_eq_true rfl) (Nat.le_of_ble_eq_true rfl) (by decide) ?_
  refine c_X3_joined (Or.inl rfl) H (fun v hv => ?_)
  refine x_lret qX3_afterAny_9 rfl ?_
  exact hQ v hv
theorem c_X3_beforeAny {set : Int64} {R : cm_R} {t : Nat} (hR : R 1 3 = some 5) (H : HI n kd mm I L) (hQ : ∀ v, (∀ x, x < 64 → tb v x = exb (fun w => tb set w && tb (L 5 w) x) (wys mm n)) → Q (some (.long v)) I L R (DD t)) : cm_Ex l g 2 0 0 mX3_beforeAny 0 [.ref 1, .long set, .float 0] [] I L R (DD t) Q := by
  refine x_aldn qX3_beforeAny_0 rfl trivial ?_
  refine x_aldn qX3_beforeAny_1 rfl trivial ?_
  refine x_getR qX3_beforeAny_2 fX3_24 rfl hR ?_
  refine x_lldn qX3_beforeAny_5 rfl ?_
  refine x_cV2 (d' := 1) qX3_beforeAny_6 cX3_76 rfl ⟨_, rfl, rfl⟩ rfl rfl (Nat.le_of_ble_eq_true rfl) (Nat.le_of_ble_eq_true rfl) (by decide) ?_
  refine c_X3_joined (Or.inr rfl) H (fun v hv => ?_)
  refine x_lret qX3_beforeAny_9 rfl ?_
  exact hQ v hv
theorem c_X3_changes {a b : Nat} {R : cm_R} {t : Nat} (hR : R 1 4 = some 6) (H : HI n kd mm I L) (ha : a < wys mm n) (hb : b < wys mm n) (hQ : Q (some (.int (nI (chg mm n a b)))) I L R (DD t)) : cm_Ex l g 2 0 0 mX3_changes 0 [.ref 1, .int (nI a), .int (nI b), .float 0] [] I L R (DD t) Q := by
  obtain ⟨h4, ho, -, h64, h6, h7, -, -, -, -, -, hf⟩ := id H
  have e1 := nI_toInt (n := a) (by omega)
  have e2 := nI_toInt (n := b) (by omega)
  have h256 : ∀ w, fig mm n w < 256 := fun w => Nat.lt_of_lt_of_le (fig_lt ho w) (Nat.pow_le_pow_right (show 4 > 0 by decide) h4)
  refine x_aldn qX3_changes_0 rfl trivial ?_
  refine x_ildn qX3_changes_1 rfl ?_
  refine x_cV1 (d' := 1) qX3_changes_2 cX3_73 rfl ⟨_, rfl, rfl⟩ rfl rfl (Nat.le_of_ble_eq_true rfl) (Nat.le_of_ble_eq_true rfl) (by decide) ?_
  refine c_X3_hasWay H (fun h2 => ?_) (fun h2 => absurd (by omega) h2)
  refine x_if_eq_f (tgt := 16) qX3_changes_5 (by omega) (by decide) ?_
  refine x_aldn qX3_changes_8 rfl trivial ?_
  refine x_ildn qX3_changes_9 rfl ?_
  refine x_cV1 (d' := 1) qX3_changes_10 cX3_73 rfl ⟨_, rfl, rfl⟩ rfl rfl (Nat.le_of_ble_eq_true rfl) (Nat.le_of_ble_eq_true rfl) (by decide) ?_
  refine c_X3_hasWay H (fun h2 => ?_) (fun h2 => absurd (by omega) h2)
  refine x_if_ne_t (tgt := 18) qX3_changes_13 (by omega) (by decide) ?_
  refine x_aldn qX3_changes_18 rfl trivial ?_
  refine x_getR qX3_changes_19 fX3_27 rfl hR ?_
  refine x_ildn qX3_changes_22 rfl ?_
  refine x_ialde qX3_changes_23 rfl rfl (by omega) (by decide) (hf a ha) ?_
  refine x_aldn qX3_changes_24 rfl trivial ?_
  refine x_getR qX3_changes_25 fX3_27 rfl hR ?_
  refine x_ildn qX3_changes_28 rfl ?_
  refine x_ialde qX3_changes_29 rfl rfl (by omega) (by decide) (hf b hb) ?_
  refine x_ixor qX3_changes_30 ?_
  refine x_ist3 qX3_changes_31 (by decide) rfl ?_
  refine x_ildn qX3_changes_32 rfl ?_
  refine x_ildn qX3_changes_33 rfl ?_
  refine x_iconst (v := 1) qX3_changes_34 rfl ?_
  refine x_ishr qX3_changes_35 ?_
  refine x_ior qX3_changes_36 ?_
  refine x_bipush (v := 85) qX3_changes_37 rfl ?_
  refine x_iand qX3_changes_39 ?_
  refine x_cS1 (d' := 1) qX3_changes_40 cX3_80 rfl rfl (Nat.le_of_ble_eq_true rfl) (Nat.le_of_ble_eq_true rfl) (by decide) ?_
  refine c_J6_bitCount ?_
  refine x_iret qX3_changes_43 rfl rfl ?_
  rw [nI_xor, bcI_small _ (xor_lt256 (h256 a) (h256 b)), chg_bits ho h4]
  exact hQ
theorem c_X3_sum {ta sa s : Nat} {sg : Int32} {R : cm_R} {t : Nat} (hR : R 1 4 = some 6) (hs : s < 16) (hsa : sa = 28 ∨ sa = 29) (hta : (DD t)[ta]? = some (.inl (0, 16))) (H : HI n kd mm I L) (hQ : Q none (fun b i => if b = sa ∧ i < wys mm n then sg * sumS (I ta) mm s n i else I b i) L R (DD t)) : cm_Ex l g 1 0 0 mX3_sum 0 [.ref 1, .ref ta, .int (nI s), .int sg, .ref sa, .float 0, .float 0, .float 0, .float 0] [] I L R (DD t) Q := by
  obtain ⟨h4, ho, -, h64, h6, h7, -, -, -, -, -, hf⟩ := id H
  have hd : (DD t)[sa]? = some (.inl (0, 64)) := by rcases hsa with rfl | rfl <;> rfl
  have hne : ta ≠ sa := by
    intro e
    rw [e, hd] at hta
    cases hta
  have n1 : (1 : Nat) ≠ sa := by omega
  have n6 : (6 : Nat) ≠ sa := by omega
  have outer : ∀ m w, w + m = wys mm n → ∀ a6 a7 a8, cm_Ex l g 1 0 0 mX3_sum 3 [.ref 1, .ref ta, .int (nI s), .int sg, .ref sa, .int (nI w), a6, a7, a8] [] (fun b i => if b = sa ∧ i < w then sg * sumS (I ta) mm s n i else I b i) L R (DD t) Q := by
    intro m
    induction m with
    | zero =>
      intro w hw a6 a7 a8
      have e : w = wys mm n := by omega
      subst e
      refine x_ild qX3_sum_3 rfl ?_
      refine x_aldn qX3_sum_5 rfl trivial ?_
      refine x_getIe qX3_sum_6 fX3_39 rfl ((if_neg (fun e => n1 e.1)).trans h7) ?_
      refine x_icmp_ge_nt (tgt := 102) qX3_sum_9 (by omega) (by omega) (by omega) (by omega) ?_
      refine x_vret qX3_sum_102 rfl ?_
      exact hQ
    | succ m ih =>
      intro w hw a6 a7 a8
      have inner : ∀ k u, u + k = n → ∀ b8, cm_Ex l g 1 0 0 mX3_sum 26 [.ref 1, .ref ta, .int (nI s), .int sg, .ref sa, .int (nI w), .int (sumS (I ta) mm s u w), .int (nI u), b8] [] (fun b i => if b = sa ∧ i < w then sg * sumS (I ta) mm s n i else I b i) L R (DD t) Q := by
        intro k
        induction k with
        | zero =>
          intro u hu b8
          have e : u = n := by omega
          subst e
          refine x_ild qX3_sum_26 rfl ?_
          refine x_aldn qX3_sum_28 rfl trivial ?_
          refine x_getIe qX3_sum_29 fX3_35 rfl ((if_neg (fun e => n1 e.1)).trans h6) ?_
          refine x_icmp_ge_nt (tgt := 87) qX3_sum_32 (by omega) (by omega) (by omega) (by omega) ?_
          refine x_ald qX3_sum_87 rfl trivial ?_
          refine x_ild qX3_sum_89 rfl ?_
          refine x_ildn qX3_sum_91 rfl ?_
          refine x_ild qX3_sum_92 rfl ?_
          refine x_imul qX3_sum_94 ?_
          refine x_iast qX3_sum_95 hd rfl (by omega) (by decide) ?_
          refine x_iinc5 qX3_sum_96 (by decide) (cm_inc _) rfl ?_
          refine x_goto (tgt := 3) qX3_sum_99 (by omega) ?_
          refine x_memI ?_ (ih (w + 1) (by omega) _ _ _)
          funext b i
          unfold cm_u
          by_cases hb : b = sa
          · subst hb
            by_cases hi : i = w
            · subst hi; simp
            · have e1 : (i < w + 1) ↔ i < w := by omega
              simp [hi, e1]
          · simp [hb]
        | succ k ih2 =>
          intro u hu b8
          have hfw := fig_dgt ho (show u < n by omega) w
          have hfl := Nat.lt_of_lt_of_le (fig_lt ho w) (Nat.pow_le_pow_right (show 4 > 0 by decide) h4)
          have hdl := dgt_lt ho (show u < n by omega) w
          have hm := (ho u (by omega)).2
          refine x_ild qX3_sum_26 rfl ?_
          refine x_aldn qX3_sum_28 rfl trivial ?_
          refine x_getIe qX3_sum_29 fX3_35 rfl ((if_neg (fun e => n1 e.1)).trans h6) ?_
          refine x_icmp_ge_nf (tgt := 87) qX3_sum_32 (by omega) (by omega) (by omega) (by omega) ?_
          refine x_ild qX3_sum_35 rfl ?_
          refine x_iconst (v := nI 4) qX3_sum_37 rfl ?_
          refine x_imul_n qX3_sum_38 ?_
          refine x_aldn qX3_sum_39 rfl trivial ?_
          refine x_getR qX3_sum_40 fX3_27 rfl hR ?_
          refine x_ild qX3_sum_43 rfl ?_
          refine x_ialde qX3_sum_45 rfl rfl (by omega) (by decide) ((if_neg (fun e => n6 e.1)).trans (hf w (by omega))) ?_
          refine x_iconst (v := nI 2) qX3_sum_46 rfl ?_
          refine x_ild qX3_sum_47 rfl ?_
          refine x_imul_n qX3_sum_49 ?_
          refine x_ishr qX3_sum_50 ?_
          rw [ib_shr (by omega) (by omega), Nat.pow_mul]
          refine x_iconst (v := nI 3) qX3_sum_51 rfl ?_
          refine x_iand qX3_sum_52 ?_
          rw [ib_and3 (Nat.lt_of_le_of_lt (Nat.div_le_self _ _) (by omega)), show (2 ^ 2) ^ u = 4 ^ u from rfl, hfw]
          refine x_iadd_n qX3_sum_53 ?_
          refine x_ist8 qX3_sum_54 (by decide) rfl ?_
          refine x_ildn qX3_sum_56 rfl ?_
          refine x_ild qX3_sum_57 rfl ?_
          refine x_ishr qX3_sum_59 ?_
          refine x_iconst (v := nI 1) qX3_sum_60 rfl ?_
          refine x_iand qX3_sum_61 ?_
          rw [ib_in (by omega) (by omega)]
          refine x_if_eq_n (tgt := 81) qX3_sum_62 (by omega) (by omega) (fun h62 => ?_) (fun h62 => ?_)
          · refine x_iinc7 qX3_sum_81 (by decide) (cm_inc _) rfl ?_
            refine x_goto (tgt := 26) qX3_sum_84 (by omega) ?_
            have e : sumS (I ta) mm s (u + 1) w = sumS (I ta) mm s u w := by simp only [sumS]; rw [if_neg (by omega)]
            have := ih2 (u + 1) (by omega) (.int (nI (u * 4 + dgt mm w u)))
            rw [e] at this
            exact this
          · refine x_ild qX3_sum_65 rfl ?_
            refine x_aldn qX3_sum_67 rfl trivial ?_
            refine x_alen qX3_sum_68 hta (by decide) rfl ?_
            refine x_icmp_ge_nf (tgt := 81) qX3_sum_69 (by omega) (by omega) (by omega) (by omega) ?_
            refine x_ild qX3_sum_72 rfl ?_
            refine x_aldn qX3_sum_74 rfl trivial ?_
            refine x_ild qX3_sum_75 rfl ?_
            refine x_ialde qX3_sum_77 hta rfl (by omega) (by decide) (if_neg (fun e => hne e.1)) ?_
            refine x_iadd qX3_sum_78 ?_
            refine x_ist6 qX3_sum_79 (by decide) rfl ?_
            refine x_iinc7 qX3_sum_81 (by decide) (cm_inc _) rfl ?_
            refine x_goto (tgt := 26) qX3_sum_84 (by omega) ?_
            have e : sumS (I ta) mm s (u + 1) w = sumS (I ta) mm s u w + I ta (u * 4 + dgt mm w u) := by simp only [sumS]; rw [if_pos (by omega), Nat.mul_comm u 4]
            have := ih2 (u + 1) (by omega) (.int (nI (u * 4 + dgt mm w u)))
            rw [e] at this
            exact this
      refine x_ild qX3_sum_3 rfl ?_
      refine x_aldn qX3_sum_5 rfl trivial ?_
      refine x_getIe qX3_sum_6 fX3_39 rfl ((if_neg (fun e => n1 e.1)).trans h7) ?_
      refine x_icmp_ge_nf (tgt := 102) qX3_sum_9 (by omega) (by omega) (by omega) (by omega) ?_
      refine x_ild qX3_sum_12 rfl ?_
      refine x_ald qX3_sum_14 rfl trivial ?_
      refine x_alen qX3_sum_16 hd (by decide) rfl ?_
      refine x_icmp_ge_nf (tgt := 102) qX3_sum_17 (by omega) (by omega) (by omega) (by omega) ?_
      refine x_iconst (v := nI 0) qX3_sum_20 rfl ?_
      refine x_ist6 qX3_sum_21 (by decide) rfl ?_
      refine x_iconst (v := nI 0) qX3_sum_23 rfl ?_
      refine x_ist7 qX3_sum_24 (by decide) rfl ?_
      exact inner n 0 (by omega) _
  refine x_iconst (v := nI 0) qX3_sum_0 rfl ?_
  refine x_ist5 qX3_sum_1 (by decide) rfl ?_
  refine x_memI ?_ (outer (wys mm n) 0 (by omega) _ _ _)
  funext b i
  simp
end K5
