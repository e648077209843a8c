/-! Household: spread, addRows; Thing's constructor -/
def sprI (W : Nat) (set : Int64) (st : Nat) : Nat → Int64
  | 0 => 0
  | k + 1 => if st / 2 ^ k % 2 = 1 then sprI W set st k ||| (set <<< ((nI (W * k)).toInt64 &&& 63)) else sprI W set st k
theorem spr_bits {W st : Nat} {set : Int64} (hb : ∀ k, k < 4 → st / 2 ^ k % 2 = 1 → W * k < 64) : ∀ {m : Nat}, m ≤ 4 → ∀ v, v < 64 → tb (sprI W set st m) v = exb (fun k => decide (st / 2 ^ k % 2 = 1) && (decide (W * k ≤ v) && tb set (v - W * k))) m := by
  intro m
  induction m with
  | zero => intro _ v _; exact tb_0 v
  | succ m ih =>
    intro hm v hv
    simp only [sprI, exb]
    by_cases h : st / 2 ^ m % 2 = 1
    · rw [if_pos h, tb_or, ih (by omega) v hv, tb_shl (hb m (by omega) h)]
      simp [h, hv]
    · rw [if_neg h, ih (by omega) v hv]
      simp [h]
/-- the bits of f below s -/
def bhs (f : Nat → Bool) : Nat → Nat
  | 0 => 0
  | s + 1 => if f s then bhs f s + 2 ^ s else bhs f s
theorem bhs_lt {f : Nat → Bool} : ∀ {s : Nat}, bhs f s < 2 ^ s := by
  intro s
  induction s with
  | zero => exact Nat.one_pos
  | succ s ih =>
    simp only [bhs, Nat.pow_succ]
    split <;> omega
theorem bhs_bit {f : Nat → Bool} : ∀ {s k : Nat}, bhs f s / 2 ^ k % 2 = (if k < s ∧ f k = true then 1 else 0) := by
  intro s
  induction s with
  | zero => intro k; simp [bhs]
  | succ s ih =>
    intro k
    have hl := bhs_lt (f := f) (s := s)
    simp only [bhs]
    by_cases hk : k = s
    · subst hk
      by_cases hf : f k = true
      · rw [if_pos hf, if_pos ⟨by omega, hf⟩, Nat.add_div_right _ (Nat.pow_pos (by decide)), Nat.div_eq_of_lt hl]
      · rw [if_neg hf, if_neg (fun e => hf e.2), Nat.div_eq_of_lt hl]
    · have e : (k < s + 1 ∧ f k = true) ↔ (k < s ∧ f k = true) := by constructor <;> rintro ⟨h1, h2⟩ <;> exact ⟨by omega, h2⟩
      simp only [e]
      rw [← ih (k := k)]
      by_cases hf : f s = true
      · rw [if_pos hf]
        by_cases h2 : k < s
        · obtain ⟨c, hc⟩ : ∃ c, s = k + 1 + c := ⟨s - (k + 1), by omega⟩
          have e2 : 2 ^ s = 2 ^ k * (2 * 2 ^ c) := by rw [hc, Nat.pow_add, Nat.pow_succ, Nat.mul_assoc]
          rw [e2, Nat.add_mul_div_left _ _ (Nat.pow_pos (by decide)), Nat.add_mul_mod_self_left]
        · have h3 : 2 ^ (s + 1) ≤ 2 ^ k := Nat.pow_le_pow_right (by decide) (by omega)
          rw [Nat.pow_succ] at h3
          rw [Nat.div_eq_of_lt (by omega), Nat.div_eq_of_lt (by omega)]
      · rw [if_neg hf]
theorem or_pow : ∀ o, o < 4 → ∀ a, a < 2 ^ o → nI a ||| nI 1 <<< (nI o &&& 31) = nI (a + 2 ^ o) := by decide +kernel
section K6
variable {l : Launch} {g : cm_G} {I : cm_I} {L : cm_L} {n : Nat} {hr tl : Option Nat} {Q : cm_Post}
theorem c_X9_init {R : cm_R} {ds : cm_Ds} {a : Nat} {x y z : Int32} (hd : ds[a]? = some (.inr 7)) (hQ : Q none (cm_u (cm_u (cm_u I a 0 x) a 1 y) a 2 z) L R ds) : cm_Ex l g 1 0 0 mX9_init 0 [.ref a, .int x, .int y, .int z] [] I L R ds Q := by
  refine x_aldn qX9_init_0 rfl trivial ?_
  refine x_objInit qX9_init_1 oX9_1 oi_1 oi_2 (by decide) (by decide) ?_
  refine x_aldn qX9_init_4 rfl trivial ?_
  refine x_ildn qX9_init_5 rfl ?_
  refine x_putI qX9_init_6 fX9_7 (Or.inr ⟨rfl, wfX9_7⟩) hd ?_
  refine x_aldn qX9_init_9 rfl trivial ?_
  refine x_ildn qX9_init_10 rfl ?_
  refine x_putI qX9_init_11 fX9_13 (Or.inr ⟨rfl, wfX9_13⟩) hd ?_
  refine x_aldn qX9_init_14 rfl trivial ?_
  refine x_ildn qX9_init_15 rfl ?_
  refine x_putI qX9_init_16 fX9_16 (Or.inr ⟨rfl, wfX9_16⟩) hd ?_
  refine x_vret qX9_init_19 rfl ?_
  exact hQ
theorem c_X3_spread {W st : Nat} {set : Int64} {R : cm_R} {t : Nat} (h7 : I 1 7 = nI W) (hst : st < 16) (hW : W ≤ 64) (hQ : Q (some (.long (sprI W set st 4))) I L R (DD t)) : cm_Ex l g 1 0 0 mX3_spread 0 [.ref 1, .long set, .float 0, .int (nI st), .float 0, .float 0, .float 0] [] I L R (DD t) Q := by
  have loop : ∀ m k, k + m = 4 → cm_Ex l g 1 0 0 mX3_spread 6 [.ref 1, .long set, .float 0, .int (nI st), .long (sprI W set st k), .float 0, .int (nI k)] [] I L R (DD t) Q := by
    intro m
    induction m with
    | zero =>
      intro k hk
      have e : k = 4 := by omega
      subst e
      refine x_ild qX3_spread_6 rfl ?_
      refine x_iconst (v := nI 4) qX3_spread_8 rfl ?_
      refine x_icmp_ge_nt (tgt := 41) qX3_spread_9 (by omega) (by omega) (by omega) (by omega) ?_
      refine x_lld qX3_spread_41 rfl ?_
      refine x_lret qX3_spread_43 rfl ?_
      exact hQ
    | succ m ih =>
      intro k hk
      refine x_ild qX3_spread_6 rfl ?_
      refine x_iconst (v := nI 4) qX3_spread_8 rfl ?_
      refine x_icmp_ge_nf (tgt := 41) qX3_spread_9 (by omega) (by omega) (by omega) (by omega) ?_
      refine x_ildn qX3_spread_12 rfl ?_
      refine x_ild qX3_spread_13 rfl ?_
      refine x_ishr qX3_spread_15 ?_
      refine x_iconst (v := nI 1) qX3_spread_16 rfl ?_
      refine x_iand qX3_spread_17 ?_
      rw [ib_in (by omega) (by omega)]
      refine x_if_eq_n (tgt := 35) qX3_spread_18 (by omega) (by omega) (fun h18 => ?_) (fun h18 => ?_)
      · refine x_iinc6 qX3_spread_35 (by decide) (cm_inc _) rfl ?_
        refine x_goto (tgt := 6) qX3_spread_38 (by omega) ?_
        have e : sprI W set st (k + 1) = sprI W set st k := by simp only [sprI]; rw [if_neg (by omega)]
        have := ih (k + 1) (by omega)
        rw [e] at this
        exact this
      · refine x_lld qX3_spread_21 rfl ?_
        refine x_lldn qX3_spread_23 rfl ?_
        refine x_aldn qX3_spread_24 rfl trivial ?_
        refine x_getIe qX3_spread_25 fX3_39 rfl h7 ?_
        refine x_ild qX3_spread_28 rfl ?_
        refine x_imul_n qX3_spread_30 ?_
        refine x_lshl qX3_spread_31 ?_
        refine x_lor qX3_spread_32 ?_
        refine x_lst4 qX3_spread_33 (by decide) rfl ?_
        refine x_iinc6 qX3_spread_35 (by decide) (cm_inc _) rfl ?_
        refine x_goto (tgt := 6) qX3_spread_38 (by omega) ?_
        have e : sprI W set st (k + 1) = sprI W set st k ||| (set <<< ((nI (W * k)).toInt64 &&& 63)) := by simp only [sprI]; rw [if_pos (by omega)]
        have := ih (k + 1) (by omega)
        rw [e] at this
        exact this
  refine x_lconst (v := 0) qX3_spread_0 rfl ?_
  refine x_lst4 qX3_spread_1 (by decide) rfl ?_
  refine x_iconst (v := nI 0) qX3_spread_3 rfl ?_
  refine x_ist6 qX3_spread_4 (by decide) rfl ?_
  exact loop 4 0 rfl
theorem c_X3_addRows {W j m k : Nat} {t : Nat} (h6 : I 1 6 = nI n) (hn : n ≤ 3) (h7 : I 1 7 = nI W) (hj : j < 7) (hm : m ≤ 4) (hm2 : 2 ≤ m) (hk : k < m) (hW0 : 0 < W) (hW : W * m ≤ 64)
    (hQ : Q none (fun b i => if b = 6 ∧ W * k ≤ i ∧ i < W * k + W then I 6 (i - W * k) ||| nI k <<< (nI (2 * n) &&& 31) else I b i) (fun b i => if b = 4 ∧ W * k ≤ i ∧ i < W * k + W then sprI W (L 4 (i - W * k)) (bhs (fun o => nx j m k o) m) 4 else if b = 5 ∧ W * k ≤ i ∧ i < W * k + W then sprI W (L 5 (i - W * k)) (bhs (fun o => nx j m o k) m) 4 else L b i) (RR t hr tl) (DD t)) :
    cm_Ex l g 3 0 0 mX3_addRows 0 [.ref 1, .int (nI j), .int (nI m), .int (nI k), .float 0, .float 0, .float 0, .float 0] [] I L (RR t hr tl) (DD t) Q := by
  have hWk : W * (k + 1) ≤ 64 := Nat.le_trans (Nat.mul_le_mul_left W hk) hW
  have hWk2 : W * (k + 1) = W * k + W := by rw [Nat.mul_add, Nat.mul_one]
  have hb1 : bhs (fun o => nx j m k o) m < 16 := Nat.lt_of_lt_of_le bhs_lt (Nat.pow_le_pow_right (show 2 > 0 by decide) hm)
  have hb2 : bhs (fun o => nx j m o k) m < 16 := Nat.lt_of_lt_of_le bhs_lt (Nat.pow_le_pow_right (show 2 > 0 by decide) hm)
  have second : ∀ q w, w + q = W → ∀ a7, cm_Ex l g 3 0 0 mX3_addRows 64 [.ref 1, .int (nI j), .int (nI m), .int (nI k), .int (nI (bhs (fun o => nx j m k o) m)), .int (nI (bhs (fun o => nx j m o k) m)), .int (nI w), a7] [] (fun b i => if b = 6 ∧ W * k ≤ i ∧ i < W * k + w then I 6 (i - W * k) ||| nI k <<< (nI (2 * n) &&& 31) else I b i) (fun b i => if b = 4 ∧ W * k ≤ i ∧ i < W * k + w then sprI W (L 4 (i - W * k)) (bhs (fun o => nx j m k o) m) 4 else if b = 5 ∧ W * k ≤ i ∧ i < W * k + w then sprI W (L 5 (i - W * k)) (bhs (fun o => nx j m o k) m) 4 else L b i) (RR t hr tl) (DD t) Q := by
    intro q
    induction q with
    | zero =>
      intro w hw a7
      have e : w = W := by omega
      subst e
      refine x_ild qX3_addRows_64 rfl ?_
      refine x_aldn qX3_addRows_66 rfl trivial ?_
      refine x_getIe qX3_addRows_67 fX3_39 rfl h7 ?_
      refine x_icmp_ge_nt (tgt := 153) qX3_addRows_70 (by omega) (by omega) (by omega) (by omega) ?_
      refine x_vret qX3_addRows_153 rfl ?_
      exact hQ
    | succ q ih =>
      intro w hw a7
      have hno : ¬ (W * k ≤ w ∧ w < W * k + w) := by
        intro e
        by_cases hk0 : k = 0
        · subst hk0; omega
        · have : W * 1 ≤ W * k := Nat.mul_le_mul_left W (by omega)
          omega
      have ih' := ih (w + 1) (by omega) (.int (nI (w + W * k)))
      refine x_ild qX3_addRows_64 rfl ?_
      refine x_aldn qX3_addRows_66 rfl trivial ?_
      refine x_getIe qX3_addRows_67 fX3_39 rfl h7 ?_
      refine x_icmp_ge_nf (tgt := 153) qX3_addRows_70 (by omega) (by omega) (by omega) (by omega) ?_
      refine x_ild qX3_addRows_73 rfl ?_
      refine x_aldn qX3_addRows_75 rfl trivial ?_
      refine x_getIe qX3_addRows_76 fX3_39 rfl h7 ?_
      refine x_ildn qX3_addRows_79 rfl ?_
      refine x_imul_n qX3_addRows_80 ?_
      refine x_iadd_n qX3_addRows_81 ?_
      refine x_ist7 qX3_addRows_82 (by decide) rfl ?_
      refine x_aldn qX3_addRows_84 rfl trivial ?_
      refine x_getR qX3_addRows_85 fX3_21 rfl rfl ?_
      refine x_ild qX3_addRows_88 rfl ?_
      refine x_aldn qX3_addRows_90 rfl trivial ?_
      refine x_aldn qX3_addRows_91 rfl trivial ?_
      refine x_getR qX3_addRows_92 fX3_21 rfl rfl ?_
      refine x_ild qX3_addRows_95 rfl ?_
      refine x_lalde qX3_addRows_97 rfl rfl (by omega) (by decide) (show _ = L 4 w by simp [cm_u]; intro h1 h2; omega) ?_
      refine x_ild qX3_addRows_98 rfl ?_
      refine x_cV2 (d' := 1) qX3_addRows_100 cX3_52 rfl ⟨_, rfl, rfl⟩ rfl rfl (Nat.le_of_ble_eq_true rfl) (Nat.le_of_ble_eq_true rfl) (by decide) ?_
      refine c_X3_spread h7 hb1 (by omega) ?_
      refine x_last qX3_addRows_103 rfl rfl (by omega) (by decide) ?_
      refine x_aldn qX3_addRows_104 rfl trivial ?_
      refine x_getR qX3_addRows_105 fX3_24 rfl rfl ?_
      refine x_ild qX3_addRows_108 rfl ?_
      refine x_aldn qX3_addRows_110 rfl trivial ?_
      refine x_aldn qX3_addRows_111 rfl trivial ?_
      refine x_getR qX3_addRows_112 fX3_24 rfl rfl ?_
      refine x_ild qX3_addRows_115 rfl ?_
      refine x_lalde qX3_addRows_117 rfl rfl (by omega) (by decide) (show _ = L 5 w by simp [cm_u]; intro h1 h2; omega) ?_
      refine x_ild qX3_addRows_118 rfl ?_
      refine x_cV2 (d' := 1) qX3_addRows_120 cX3_52 rfl ⟨_, rfl, rfl⟩ rfl rfl (Nat.le_of_ble_eq_true rfl) (Nat.le_of_ble_eq_true rfl) (by decide) ?_
      refine c_X3_spread h7 hb2 (by omega) ?_
      refine x_last qX3_addRows_123 rfl rfl (by omega) (by decide) ?_
      refine x_aldn qX3_addRows_124 rfl trivial ?_
      refine x_getR qX3_addRows_125 fX3_27 rfl rfl ?_
      refine x_ild qX3_addRows_128 rfl ?_
      refine x_aldn qX3_addRows_130 rfl trivial ?_
      refine x_getR qX3_addRows_131 fX3_27 rfl rfl ?_
      refine x_ild qX3_addRows_134 rfl ?_
      refine x_ialde qX3_addRows_136 rfl rfl (by omega) (by decide) (show _ = I 6 w by simp [cm_u]; intro h1 h2; omega) ?_
      refine x_ildn qX3_addRows_137 rfl ?_
      refine x_iconst (v := nI 2) qX3_addRows_138 rfl ?_
      refine x_aldn qX3_addRows_139 rfl trivial ?_
      refine x_getIe qX3_addRows_140 fX3_35 rfl h6 ?_
      refine x_imul_n qX3_addRows_143 ?_
      refine x_ishl qX3_addRows_144 ?_
      refine x_ior qX3_addRows_145 ?_
      refine x_iast qX3_addRows_146 rfl rfl (by omega) (by decide) ?_
      refine x_iinc6 qX3_addRows_147 (by decide) (cm_inc _) rfl ?_
      refine x_goto (tgt := 64) qX3_addRows_150 (by omega) ?_
      refine x_memI ?_ (x_memL ?_ ih')
      · funext b i
        unfold cm_u
        by_cases hb : b = 6
        · subst hb
          by_cases hi : i = w + W * k
          · subst hi
            rw [if_pos rfl, if_pos rfl, if_pos ⟨rfl, by omega, by omega⟩, show w + W * k - W * k = w by omega]
          · rw [if_pos rfl, if_neg hi]
            have e1 : (W * k ≤ i ∧ i < W * k + w) ↔ (W * k ≤ i ∧ i < W * k + (w + 1)) := by omega
            simp [e1]
        · simp [hb]
      · funext b i
        unfold cm_u
        by_cases hb : b = 4
        · subst hb
          by_cases hi : i = w + W * k
          · subst hi
            rw [if_neg (by decide), if_pos rfl, if_pos rfl, if_pos ⟨rfl, by omega, by omega⟩, show w + W * k - W * k = w by omega]
          · rw [if_neg (by decide), if_pos rfl, if_neg hi]
            have e1 : (W * k ≤ i ∧ i < W * k + w) ↔ (W * k ≤ i ∧ i < W * k + (w + 1)) := by omega
            simp only [e1]
        · by_cases hb5 : b = 5
          · subst hb5
            by_cases hi : i = w + W * k
            · subst hi
              rw [if_pos rfl, if_pos rfl, if_neg (by omega), if_pos ⟨rfl, by omega, by omega⟩, show w + W * k - W * k = w by omega]
            · rw [if_pos rfl, if_neg hi, if_neg (by decide)]
              have e1 : (W * k ≤ i ∧ i < W * k + w) ↔ (W * k ≤ i ∧ i < W * k + (w + 1)) := by omega
              simp [e1]
          · simp [hb, hb5]
  have first : ∀ q s, s + q = m → cm_Ex l g 3 0 0 mX3_addRows 9 [.ref 1, .int (nI j), .int (nI m), .int (nI k), .int (nI (bhs (fun o => nx j m k o) s)), .int (nI (bhs (fun o => nx j m o k) s)), .int (nI s), .float 0] [] I L (RR t hr tl) (DD t) Q := by
    intro q
    induction q with
    | zero =>
      intro s hs
      have e : s = m := by omega
      subst e
      refine x_ild qX3_addRows_9 rfl ?_
      refine x_ildn qX3_addRows_11 rfl ?_
      refine x_icmp_ge_nt (tgt := 61) qX3_addRows_12 (by omega) (by omega) (by omega) (by omega) ?_
      refine x_iconst (v := nI 0) qX3_addRows_61 rfl ?_
      refine x_ist6 qX3_addRows_62 (by decide) rfl ?_
      refine x_memI ?_ (x_memL ?_ (second W 0 (by omega) _))
      · funext b i
        rw [if_neg (by omega)]
      · funext b i
        rw [if_neg (by omega), if_neg (by omega)]
    | succ q ih =>
      intro s hs
      have ih' := ih (s + 1) (by omega)
      simp only [bhs] at ih'
      have part : ∀ (x : Nat), cm_Ex l g 3 0 0 mX3_addRows 9 [.ref 1, .int (nI j), .int (nI m), .int (nI k), .int (nI x), .int (nI (if nx j m s k then bhs (fun o => nx j m o k) s + 2 ^ s else bhs (fun o => nx j m o k) s)), .int (nI (s + 1)), .float 0] [] I L (RR t hr tl) (DD t) Q → cm_Ex l g 3 0 0 mX3_addRows 35 [.ref 1, .int (nI j), .int (nI m), .int (nI k), .int (nI x), .int (nI (bhs (fun o => nx j m o k) s)), .int (nI s), .float 0] [] I L (RR t hr tl) (DD t) Q := by
        intro x hx
        refine x_ildn qX3_addRows_35 rfl ?_
        refine x_ildn qX3_addRows_36 rfl ?_
        refine x_ild qX3_addRows_37 rfl ?_
        refine x_ildn qX3_addRows_39 rfl ?_
        refine x_cS4 (d' := 2) qX3_addRows_40 cX3_62 rfl rfl (Nat.le_of_ble_eq_true rfl) (Nat.le_of_ble_eq_true rfl) (by decide) ?_
        refine c_X4_mayFollow hj hm hm2 (by omega) hk (fun h => ?_) (fun h => ?_)
        · refine x_if_eq_f (tgt := 55) qX3_addRows_43 (by omega) (by decide) ?_
          refine x_ild qX3_addRows_46 rfl ?_
          refine x_iconst (v := nI 1) qX3_addRows_48 rfl ?_
          refine x_ild qX3_addRows_49 rfl ?_
          refine x_ishl qX3_addRows_51 ?_
          refine x_ior qX3_addRows_52 ?_
          rw [or_pow s (by omega) _ bhs_lt]
          refine x_ist5 qX3_addRows_53 (by decide) rfl ?_
          refine x_iinc6 qX3_addRows_55 (by decide) (cm_inc _) rfl ?_
          refine x_goto (tgt := 9) qX3_addRows_58 (by omega) ?_
          rw [if_pos h] at hx
          exact hx
        · refine x_if_eq_t (tgt := 55) qX3_addRows_43 (by omega) (by decide) ?_
          refine x_iinc6 qX3_addRows_55 (by decide) (cm_inc _) rfl ?_
          refine x_goto (tgt := 9) qX3_addRows_58 (by omega) ?_
          rw [if_neg h] at hx
          exact hx
      refine x_ild qX3_addRows_9 rfl ?_
      refine x_ildn qX3_addRows_11 rfl ?_
      refine x_icmp_ge_nf (tgt := 61) qX3_addRows_12 (by omega) (by omega) (by omega) (by omega) ?_
      refine x_ildn qX3_addRows_15 rfl ?_
      refine x_ildn qX3_addRows_16 rfl ?_
      refine x_ildn qX3_addRows_17 rfl ?_
      refine x_ild qX3_addRows_18 rfl ?_
      refine x_cS4 (d' := 2) qX3_addRows_20 cX3_62 rfl rfl (Nat.le_of_ble_eq_true rfl) (Nat.le_of_ble_eq_true rfl) (by decide) ?_
      refine c_X4_mayFollow hj hm hm2 hk (by omega) (fun h => ?_) (fun h => ?_)
      · refine x_if_eq_f (tgt := 35) qX3_addRows_23 (by omega) (by decide) ?_
        refine x_ild qX3_addRows_26 rfl ?_
        refine x_iconst (v := nI 1) qX3_addRows_28 rfl ?_
        refine x_ild qX3_addRows_29 rfl ?_
        refine x_ishl qX3_addRows_31 ?_
        refine x_ior qX3_addRows_32 ?_
        rw [or_pow s (by omega) _ bhs_lt]
        refine x_ist4 qX3_addRows_33 (by decide) rfl ?_
        rw [if_pos h] at ih'
        exact part _ ih'
      · refine x_if_eq_t (tgt := 35) qX3_addRows_23 (by omega) (by decide) ?_
        rw [if_neg h] at ih'
        exact part _ ih'
  refine x_iconst (v := nI 0) qX3_addRows_0 rfl ?_
  refine x_ist4 qX3_addRows_1 (by decide) rfl ?_
  refine x_iconst (v := nI 0) qX3_addRows_3 rfl ?_
  refine x_ist5 qX3_addRows_4 (by decide) rfl ?_
  refine x_iconst (v := nI 0) qX3_addRows_6 rfl ?_
  refine x_ist6 qX3_addRows_7 (by decide) rfl ?_
  exact first m 0 (by omega)
end K6
