/-! Household.add: the walk -/
section K7
variable {l : Launch} {g : cm_G} {I : cm_I} {L : cm_L} {n : Nat} {hr tl : Option Nat} {Q : cm_Post} {kd mm : Nat → Nat}
theorem c_X3_add {j m : Nat} (H : HI n kd mm I L) (hn : n ≤ 3) (hWm : wys mm n * m ≤ 64) (hj : j < 7) (hm : m ≤ 4) (hm2 : 2 ≤ m)
    (hQ : ∀ I' L', HI (n + 1) (fup kd n j) (fup mm n m) I' L' → (∀ b, b ≠ 1 → b ≠ 6 → b ≠ 106 + n → I' b = I b) → (∀ b, b ≠ 1 → b ≠ 3 → b ≠ 4 → b ≠ 5 → b ≠ 106 + n → L' b = L b) → Q none I' L' (RR (n + 1) hr tl) (DD (n + 1))) :
    cm_Ex l g 5 1 3 mX3_add 0 [.ref 1, .int (nI j), .int (nI m), .float 0, .float 0, .float 0, .float 0, .float 0] [] I L (RR n hr tl) (DD n) Q := by
  obtain ⟨h4, ho, hkd, h64, h6, h7, hth, hlw, hwi, haf, hbe, hfg⟩ := id H
  have hp := wys_pos ho
  generalize hW : wys mm n = W at *
  have h2m : 2 ^ m ≤ 2 ^ 4 := Nat.pow_le_pow_right (by decide) hm
  have h2m1 : 2 ^ 2 ≤ 2 ^ m := Nat.pow_le_pow_right (by decide) hm2
  have hm0 : m - 1 + 1 = m := by omega
  have hW2 : W * 2 ≤ W * m := Nat.mul_le_mul_left _ hm2
  obtain ⟨EW, hEW⟩ : ∃ z : Int64, z = ((1 : Int64) <<< ((nI W).toInt64 &&& 63)) - 1 := ⟨_, rfl⟩
  obtain ⟨LA, hLA⟩ : ∃ z : Nat → cm_L, z = fun s b i => if b = 3 ∧ i < s then sprI W (L 3 i) (2 ^ m - 1) 4 else L b i := ⟨_, rfl⟩
  obtain ⟨LB, hLB⟩ : ∃ z : Nat → cm_L, z = fun s b i => if b = 3 ∧ 4 * n ≤ i ∧ i < 4 * n + s then sprI W EW (2 ^ (i - 4 * n)) 4 else LA (4 * n) b i := ⟨_, rfl⟩
  obtain ⟨LC, hLC⟩ : ∃ z : Nat → cm_L, z = fun c b i => if b = 4 ∧ W * c ≤ i ∧ i < W * m then sprI W (L 4 (i % W)) (bhs (fun o => nx j m (i / W) o) m) 4 else if b = 5 ∧ W * c ≤ i ∧ i < W * m then sprI W (L 5 (i % W)) (bhs (fun o => nx j m o (i / W)) m) 4 else LB m b i := ⟨_, rfl⟩
  obtain ⟨IC, hIC⟩ : ∃ z : Nat → cm_I, z = fun c b i => if b = 6 ∧ W * c ≤ i ∧ i < W * m then I 6 (i % W) ||| nI (i / W) <<< (nI (2 * n) &&& 31) else I b i := ⟨_, rfl⟩
  have LAe : ∀ s b i, LA s b i = if b = 3 ∧ i < s then sprI W (L 3 i) (2 ^ m - 1) 4 else L b i := fun s b i => by rw [hLA]
  have LBe : ∀ s b i, LB s b i = if b = 3 ∧ 4 * n ≤ i ∧ i < 4 * n + s then sprI W EW (2 ^ (i - 4 * n)) 4 else LA (4 * n) b i := fun s b i => by rw [hLB]
  have LCe : ∀ c b i, LC c b i = if b = 4 ∧ W * c ≤ i ∧ i < W * m then sprI W (L 4 (i % W)) (bhs (fun o => nx j m (i / W) o) m) 4 else if b = 5 ∧ W * c ≤ i ∧ i < W * m then sprI W (L 5 (i % W)) (bhs (fun o => nx j m o (i / W)) m) 4 else LB m b i := fun c b i => by rw [hLC]
  have lt' : ∀ w k, w < W → k < m → W * k + w < W * m := by
    intro w k hw hk
    have h1 : W * (k + 1) ≤ W * m := Nat.mul_le_mul_left _ hk
    rw [Nat.mul_add, Nat.mul_one] at h1
    omega
  have em : ∀ w k, w < W → (w + W * k) % W = w := by
    intro w k hw
    rw [Nat.add_mul_mod_self_left, Nat.mod_eq_of_lt hw]
  have ed : ∀ w k, w < W → (w + W * k) / W = k := by
    intro w k hw
    rw [Nat.add_mul_div_left _ _ hp, Nat.div_eq_of_lt hw, Nat.zero_add]
  have dv : ∀ c i, W * c ≤ i ∧ i < W * c + W → i % W = i - W * c ∧ i / W = c := by
    intro c i h
    have h1 := em (i - W * c) c (by omega)
    have h2 := ed (i - W * c) c (by omega)
    rw [show i - W * c + W * c = i by omega] at h1 h2
    exact ⟨h1, h2⟩
  have last : ∀ nv, nv = (if undr j 5 = true then (1 : Int32) else 0) → cm_Ex l g 5 1 3 mX3_add 146 [.ref 1, .int (nI j), .int (nI m), .int (nI (2 ^ m - 1)), .int nv, .long EW, .float 0, .int (-1)] [] (IC 0) (LC 0) (RR n hr tl) (DD n) Q := by
    intro nv hnv
    have i6 : IC 0 1 6 = nI n := by rw [hIC]; exact h6
    have i7 : IC 0 1 7 = nI W := by rw [hIC]; exact h7
    have tail : ∀ z : Int64, z = sprI W (L 1 5) (if undr j 5 = true then 2 ^ m - 1 - 1 else 2 ^ m - 1) 4 → cm_Ex l g 5 1 3 mX3_add 170 [.ref 1, .int (nI j), .int (nI m), .int (nI (2 ^ m - 1)), .int nv, .long EW, .float 0, .int (-1)] [] (IC 0) (cm_u (LC 0) 1 5 z) (RR n hr tl) (DD n) Q := by
      intro z hz
      refine x_aldn qX3_add_170 rfl trivial ?_
      refine x_getR qX3_add_171 fX3_11 rfl rfl ?_
      refine x_aldn qX3_add_174 rfl trivial ?_
      refine x_getIe qX3_add_175 fX3_35 rfl i6 ?_
      refine x_new qX3_add_178 nX3_9 dd_len ?_
      refine x_dup qX3_add_181 rfl ?_
      refine x_aldn qX3_add_182 rfl trivial ?_
      refine x_getIe qX3_add_183 fX3_35 (by rw [dd_push]; rfl) (show cm_z (IC 0) (106 + n) 0 1 6 = nI n by rw [cm_z_ne (by omega)]; exact i6) ?_
      refine x_ildn qX3_add_186 rfl ?_
      refine x_ildn qX3_add_187 rfl ?_
      refine x_cI3 (d' := 1) (mc' := 0) (ms' := 0) (mc2 := 0) (ms2 := 0) qX3_add_188 cX3_60 rfl rfl (Nat.le_of_ble_eq_true rfl) (Nat.le_of_ble_eq_true rfl) (by decide) rfl rfl ?_
      refine c_X9_init (by rw [dd_push]; exact dd_th (by omega)) ?_
      have e0 : ∀ (x y w : Int32), cm_u (cm_u (cm_u (cm_z (IC 0) (106 + n) 0) (106 + n) 0 x) (106 + n) 1 y) (106 + n) 2 w 1 = IC 0 1 := by
        intro x y w
        rw [cm_u_ne (by omega), cm_u_ne (by omega), cm_u_ne (by omega), cm_z_ne (by omega)]
      refine x_aast qX3_add_191 (by rw [dd_push]; rfl) (by rw [dd_push]; exact dd_th (by omega)) (by decide) ⟨_, rfl, rfl⟩ (by decide) rfl (by omega) (by decide) ?_
      rw [dd_push]
      refine x_memR rr_u_th ?_
      refine x_aldn qX3_add_192 rfl trivial ?_
      refine x_dup qX3_add_193 rfl ?_
      refine x_getIe qX3_add_194 fX3_35 rfl ((congrFun (e0 _ _ _) 6).trans i6) ?_
      refine x_iconst (v := nI 1) qX3_add_197 rfl ?_
      refine x_iadd_n qX3_add_198 ?_
      refine x_putI qX3_add_199 fX3_35 (Or.inl rfl) rfl ?_
      refine x_aldn qX3_add_202 rfl trivial ?_
      refine x_aldn qX3_add_203 rfl trivial ?_
      refine x_getIe qX3_add_204 fX3_39 rfl (show cm_u _ 1 6 _ 1 7 = nI W by unfold cm_u; rw [if_pos rfl, if_neg (by decide)]; exact (congrFun (e0 _ _ _) 7).trans i7) ?_
      refine x_ildn qX3_add_207 rfl ?_
      refine x_imul_n qX3_add_208 ?_
      refine x_putI qX3_add_209 fX3_39 (Or.inl rfl) rfl ?_
      refine x_vret qX3_add_212 rfl ?_
      refine hQ _ _ (HI_add (I := I) (L := L) H hn (by rw [hW]; exact hWm) hj hm hm2 ?_ ?_ ?_ ?_ ?_ ?_ ?_ ?_ ?_ ?_) ?_ ?_
      · simp [cm_u]
      · simp [cm_u, hW]
      · intro i hi
        rw [cm_u_ne (by omega), cm_u_ne (by omega), cm_u_ne (by omega), cm_u_ne (by omega), cm_u_ne (by omega), cm_z_ne (by omega), hIC]
        funext x
        exact if_neg (by omega)
      · have e1 : (106 + n = 1) = False := by simp; omega
        simp [cm_u, e1]
      · rw [cm_z_ne (by omega), hW]
        simp [cm_u, hz]
      · intro i hi
        have e1 : i < 4 * n := hi
        have e2 : ¬ (4 * n ≤ i ∧ i < 4 * n + m) := by omega
        rw [cm_z_ne (by omega), cm_u_ne (by omega), hW, hLC, hLB, hLA]
        simp [e1, e2]
      · intro k hk
        have e2 : 4 * n ≤ 4 * n + k ∧ 4 * n + k < 4 * n + m := by omega
        rw [cm_z_ne (by omega), cm_u_ne (by omega), hW, hLC, hLB, ← hEW]
        simp [e2]
      · intro w k hw hk
        rw [hW] at hw
        have e1 : w + W * k < W * m := by rw [Nat.add_comm]; exact lt' w k hw hk
        rw [cm_z_ne (by omega), cm_u_ne (by omega), hW, hLC]
        simp [e1, em w k hw, ed w k hw]
      · intro w k hw hk
        rw [hW] at hw
        have e1 : w + W * k < W * m := by rw [Nat.add_comm]; exact lt' w k hw hk
        rw [cm_z_ne (by omega), cm_u_ne (by omega), hW, hLC]
        simp [e1, em w k hw, ed w k hw]
      · intro w k hw hk
        rw [hW] at hw
        have e1 : w + W * k < W * m := by rw [Nat.add_comm]; exact lt' w k hw hk
        rw [cm_u_ne (by omega), cm_u_ne (by omega), cm_u_ne (by omega), cm_u_ne (by omega), cm_u_ne (by omega), cm_z_ne (by omega), hW, hIC]
        simp [e1, em w k hw, ed w k hw]
      · intro b b1 b6 bn
        rw [cm_u_ne b1, cm_u_ne b1, cm_u_ne bn, cm_u_ne bn, cm_u_ne bn, cm_z_ne bn, hIC]
        funext x
        exact if_neg (fun e => b6 e.1)
      · intro b b1 b3 b4 b5 bn
        rw [cm_z_ne bn, cm_u_ne b1, hLC, hLB, hLA]
        funext x
        simp [b3, b4, b5]
    have l5 : LC 0 1 5 = L 1 5 := by rw [hLC, hLB, hLA]; simp
    refine x_aldn qX3_add_146 rfl trivial ?_
    refine x_aldn qX3_add_147 rfl trivial ?_
    refine x_aldn qX3_add_148 rfl trivial ?_
    refine x_getLe qX3_add_149 fX3_31 rfl l5 ?_
    refine x_ild qX3_add_152 rfl ?_
    refine x_if_eq (tgt := 163) qX3_add_154 (by omega) (fun h154 => ?_) (fun h154 => ?_)
    · refine x_ildn qX3_add_163 rfl ?_
      refine x_cV2 (d' := 1) qX3_add_164 cX3_52 rfl ⟨_, rfl, rfl⟩ rfl rfl (Nat.le_of_ble_eq_true rfl) (Nat.le_of_ble_eq_true rfl) (by decide) ?_
      refine c_X3_spread i7 (by omega) (by omega) ?_
      refine x_putL qX3_add_167 fX3_31 (Or.inl rfl) rfl ?_
      first | exact tail _ (by rw [hnv] at h154; by_cases e : undr j 5 = true; rw [if_pos e] at h154; exact absurd h154 (by decide); rw [if_neg e]) | exact tail _ (by rw [hnv] at h154; by_cases e : undr j 5 = true; rw [if_pos e]; rw [if_neg e] at h154; exact absurd rfl h154)
    · refine x_ildn qX3_add_157 rfl ?_
      refine x_iconst (v := nI 1) qX3_add_158 rfl ?_
      refine x_isub_n qX3_add_159 (by omega) ?_
      refine x_goto (tgt := 164) qX3_add_160 (by omega) ?_
      refine x_cV2 (d' := 1) qX3_add_164 cX3_52 rfl ⟨_, rfl, rfl⟩ rfl rfl (Nat.le_of_ble_eq_true rfl) (Nat.le_of_ble_eq_true rfl) (by decide) ?_
      refine c_X3_spread i7 (by omega) (by omega) ?_
      refine x_putL qX3_add_167 fX3_31 (Or.inl rfl) rfl ?_
      first | exact tail _ (by rw [hnv] at h154; by_cases e : undr j 5 = true; rw [if_pos e] at h154; exact absurd h154 (by decide); rw [if_neg e]) | exact tail _ (by rw [hnv] at h154; by_cases e : undr j 5 = true; rw [if_pos e]; rw [if_neg e] at h154; exact absurd rfl h154)
  have loopC : ∀ c, c ≤ m → ∀ nv, nv = (if undr j 5 = true then (1 : Int32) else 0) → cm_Ex l g 5 1 3 mX3_add 127 [.ref 1, .int (nI j), .int (nI m), .int (nI (2 ^ m - 1)), .int nv, .long EW, .float 0, .int (if c = 0 then -1 else nI (c - 1))] [] (IC c) (LC c) (RR n hr tl) (DD n) Q := by
    intro c
    induction c with
    | zero =>
      intro hc nv hnv
      rw [if_pos rfl]
      refine x_ild qX3_add_127 rfl ?_
      refine x_if_lt_t (tgt := 146) qX3_add_129 (by omega) (by decide) ?_
      exact last nv hnv
    | succ c ih =>
      intro hc nv hnv
      rw [if_neg (by omega), show c + 1 - 1 = c by omega]
      have i6 : IC (c + 1) 1 6 = nI n := by rw [hIC]; exact h6
      have i7 : IC (c + 1) 1 7 = nI W := by rw [hIC]; exact h7
      refine x_ild qX3_add_127 rfl ?_
      refine x_if_lt_nf (tgt := 146) qX3_add_129 (by omega) (by omega) ?_
      refine x_aldn qX3_add_132 rfl trivial ?_
      refine x_ildn qX3_add_133 rfl ?_
      refine x_ildn qX3_add_134 rfl ?_
      refine x_ild qX3_add_135 rfl ?_
      refine x_cV3 (d' := 3) qX3_add_137 cX3_56 rfl ⟨_, rfl, rfl⟩ rfl rfl (Nat.le_of_ble_eq_true rfl) (Nat.le_of_ble_eq_true rfl) (by decide) ?_
      refine c_X3_addRows i6 hn i7 hj hm hm2 (by omega) hp hWm ?_
      refine x_iinc7 qX3_add_140 (by decide) (show _ = (if c = 0 then (-1 : Int32) else nI (c - 1)) by by_cases e : c = 0; subst e; decide; rw [if_neg e]; obtain ⟨c', rfl⟩ : ∃ c', c = c' + 1 := ⟨c - 1, by omega⟩; exact cm_dec c') rfl ?_
      refine x_goto (tgt := 127) qX3_add_143 (by omega) ?_
      refine x_memI ?_ (x_memL ?_ (ih (by omega) nv hnv))
      · funext b i
        rw [hIC]
        by_cases hb : b = 6
        · subst hb
          by_cases hr' : W * c ≤ i ∧ i < W * c + W
          · have q1 := dv c i hr'
            have q2 := lt' (i - W * c) c (by omega) (by omega)
            rw [show W * c + (i - W * c) = i by omega] at q2
            have q3 : ¬ W * (c + 1) ≤ i - W * c := by rw [Nat.mul_add, Nat.mul_one]; omega
            simp [hr', q1, q2, q3]
          · have q4 : (W * (c + 1) ≤ i ∧ i < W * m) ↔ (W * c ≤ i ∧ i < W * m) := by rw [Nat.mul_add, Nat.mul_one]; omega
            simp [hr', q4]
        · simp [hb]
      · funext b i
        rw [hLC]
        by_cases hb : b = 4
        · subst hb
          by_cases hr' : W * c ≤ i ∧ i < W * c + W
          · have q1 := dv c i hr'
            have q2 := lt' (i - W * c) c (by omega) (by omega)
            rw [show W * c + (i - W * c) = i by omega] at q2
            have q3 : ¬ W * (c + 1) ≤ i - W * c := by rw [Nat.mul_add, Nat.mul_one]; omega
            simp [hr', q1, q2, q3, hLB, hLA]
          · have q4 : (W * (c + 1) ≤ i ∧ i < W * m) ↔ (W * c ≤ i ∧ i < W * m) := by rw [Nat.mul_add, Nat.mul_one]; omega
            simp [hr', q4]
        · by_cases hb5 : b = 5
          · subst hb5
            by_cases hr' : W * c ≤ i ∧ i < W * c + W
            · have q1 := dv c i hr'
              have q2 := lt' (i - W * c) c (by omega) (by omega)
              rw [show W * c + (i - W * c) = i by omega] at q2
              have q3 : ¬ W * (c + 1) ≤ i - W * c := by rw [Nat.mul_add, Nat.mul_one]; omega
              simp [hr', q1, q2, q3, hLB, hLA]
            · have q4 : (W * (c + 1) ≤ i ∧ i < W * m) ↔ (W * c ≤ i ∧ i < W * m) := by rw [Nat.mul_add, Nat.mul_one]; omega
              simp [hr', q4]
          · simp [hb, hb5]
  have loopB : ∀ q s, s + q = m → ∀ nv, nv = (if undr j 5 = true then (1 : Int32) else 0) → cm_Ex l g 5 1 3 mX3_add 86 [.ref 1, .int (nI j), .int (nI m), .int (nI (2 ^ m - 1)), .int nv, .long EW, .float 0, .int (nI s)] [] I (LB s) (RR n hr tl) (DD n) Q := by
    intro q
    induction q with
    | zero =>
      intro s hs nv hnv
      have e : s = m := by omega
      subst e
      refine x_ild qX3_add_86 rfl ?_
      refine x_ildn qX3_add_88 rfl ?_
      refine x_icmp_ge_nt (tgt := 122) qX3_add_89 (by omega) (by omega) (by omega) (by omega) ?_
      refine x_ildn qX3_add_122 rfl ?_
      refine x_iconst (v := nI 1) qX3_add_123 rfl ?_
      refine x_isub_n qX3_add_124 (by omega) ?_
      refine x_ist7 qX3_add_125 (by decide) rfl ?_
      refine x_memI ?_ (x_memL ?_ (by have := loopC s (Nat.le_refl s) nv hnv; rw [if_neg (by omega)] at this; exact this))
      · funext b i
        rw [hIC]
        exact (if_neg (by omega)).symm
      · funext b i
        rw [LCe, if_neg (by omega), if_neg (by omega)]
    | succ q ih =>
      intro s hs nv hnv
      have hs2 : 2 ^ s ≤ 2 ^ 3 := Nat.pow_le_pow_right (by decide) (by omega)
      refine x_ild qX3_add_86 rfl ?_
      refine x_ildn qX3_add_88 rfl ?_
      refine x_icmp_ge_nf (tgt := 122) qX3_add_89 (by omega) (by omega) (by omega) (by omega) ?_
      refine x_aldn qX3_add_92 rfl trivial ?_
      refine x_getR qX3_add_93 fX3_17 rfl rfl ?_
      refine x_aldn qX3_add_96 rfl trivial ?_
      refine x_getIe qX3_add_97 fX3_35 rfl h6 ?_
      refine x_iconst (v := nI 4) qX3_add_100 rfl ?_
      refine x_imul_n qX3_add_101 ?_
      refine x_ild qX3_add_102 rfl ?_
      refine x_iadd_n qX3_add_104 ?_
      refine x_aldn qX3_add_105 rfl trivial ?_
      refine x_lld qX3_add_106 rfl ?_
      refine x_iconst (v := nI 1) qX3_add_108 rfl ?_
      refine x_ild qX3_add_109 rfl ?_
      refine x_ishl qX3_add_111 ?_
      rw [ib_shl (by omega) (by omega), Nat.one_mul]
      refine x_cV2 (d' := 1) qX3_add_112 cX3_52 rfl ⟨_, rfl, rfl⟩ rfl rfl (Nat.le_of_ble_eq_true rfl) (Nat.le_of_ble_eq_true rfl) (by decide) ?_
      refine c_X3_spread h7 (by omega) (by omega) ?_
      refine x_last qX3_add_115 rfl (show _ = nI (4 * n + s) by rw [Nat.mul_comm n 4]) (by omega) (by decide) ?_
      refine x_iinc7 qX3_add_116 (by decide) (cm_inc _) rfl ?_
      refine x_goto (tgt := 86) qX3_add_119 (by omega) ?_
      refine x_memL ?_ (ih (s + 1) (by omega) nv hnv)
      funext b i
      rw [LBe (s + 1)]
      unfold cm_u
      by_cases hb : b = 3
      · subst hb
        by_cases hi : i = 4 * n + s
        · subst hi
          rw [if_pos rfl, if_pos rfl, if_pos ⟨rfl, by omega, by omega⟩, show 4 * n + s - 4 * n = s by omega]
        · rw [LBe s]
          have q1 : (4 * n ≤ i ∧ i < 4 * n + s) ↔ (4 * n ≤ i ∧ i < 4 * n + (s + 1)) := by omega
          simp [hi, q1]
      · simp [hb, LBe]
  have loopA : ∀ q s, s + q = 4 * n → ∀ nv, nv = (if undr j 5 = true then (1 : Int32) else 0) → cm_Ex l g 5 1 3 mX3_add 47 [.ref 1, .int (nI j), .int (nI m), .int (nI (2 ^ m - 1)), .int nv, .long EW, .float 0, .int (nI s)] [] I (LA s) (RR n hr tl) (DD n) Q := by
    intro q
    induction q with
    | zero =>
      intro s hs nv hnv
      have e : s = 4 * n := by omega
      subst e
      refine x_ild qX3_add_47 rfl ?_
      refine x_aldn qX3_add_49 rfl trivial ?_
      refine x_getIe qX3_add_50 fX3_35 rfl h6 ?_
      refine x_iconst (v := nI 4) qX3_add_53 rfl ?_
      refine x_imul_n qX3_add_54 ?_
      refine x_icmp_ge_nt (tgt := 83) qX3_add_55 (by omega) (by omega) (by omega) (by omega) ?_
      refine x_iconst (v := nI 0) qX3_add_83 rfl ?_
      refine x_ist7 qX3_add_84 (by decide) rfl ?_
      refine x_memL ?_ (loopB m 0 (by omega) nv hnv)
      funext b i
      rw [LBe, if_neg (by omega)]
    | succ q ih =>
      intro s hs nv hnv
      refine x_ild qX3_add_47 rfl ?_
      refine x_aldn qX3_add_49 rfl trivial ?_
      refine x_getIe qX3_add_50 fX3_35 rfl h6 ?_
      refine x_iconst (v := nI 4) qX3_add_53 rfl ?_
      refine x_imul_n qX3_add_54 ?_
      refine x_icmp_ge_nf (tgt := 83) qX3_add_55 (by omega) (by omega) (by omega) (by omega) ?_
      refine x_aldn qX3_add_58 rfl trivial ?_
      refine x_getR qX3_add_59 fX3_17 rfl rfl ?_
      refine x_ild qX3_add_62 rfl ?_
      refine x_aldn qX3_add_64 rfl trivial ?_
      refine x_aldn qX3_add_65 rfl trivial ?_
      refine x_getR qX3_add_66 fX3_17 rfl rfl ?_
      refine x_ild qX3_add_69 rfl ?_
      refine x_lalde qX3_add_71 rfl rfl (by omega) (by decide) (show LA s 3 s = L 3 s by rw [LAe]; exact if_neg (by omega)) ?_
      refine x_ildn qX3_add_72 rfl ?_
      refine x_cV2 (d' := 1) qX3_add_73 cX3_52 rfl ⟨_, rfl, rfl⟩ rfl rfl (Nat.le_of_ble_eq_true rfl) (Nat.le_of_ble_eq_true rfl) (by decide) ?_
      refine c_X3_spread h7 (by omega) (by omega) ?_
      refine x_last qX3_add_76 rfl rfl (by omega) (by decide) ?_
      refine x_iinc7 qX3_add_77 (by decide) (cm_inc _) rfl ?_
      refine x_goto (tgt := 47) qX3_add_80 (by omega) ?_
      refine x_memL ?_ (ih (s + 1) (by omega) nv hnv)
      funext b i
      rw [LAe (s + 1)]
      unfold cm_u
      by_cases hb : b = 3
      · subst hb
        by_cases hi : i = s
        · subst hi
          rw [if_pos rfl, if_pos rfl, if_pos ⟨rfl, by omega⟩]
        · rw [LAe s]
          have q1 : (i < s) ↔ (i < s + 1) := by omega
          simp [hi, q1]
      · simp [hb, LAe]
  have start : ∀ nv, nv = (if undr j 5 = true then (1 : Int32) else 0) → cm_Ex l g 5 1 3 mX3_add 32 [.ref 1, .int (nI j), .int (nI m), .int (nI (2 ^ m - 1)), .float 0, .float 0, .float 0, .float 0] [.int nv] I L (RR n hr tl) (DD n) Q := by
    intro nv hnv
    refine x_ist4 qX3_add_32 (by decide) rfl ?_
    refine x_lconst (v := 1) qX3_add_34 rfl ?_
    refine x_aldn qX3_add_35 rfl trivial ?_
    refine x_getIe qX3_add_36 fX3_39 rfl h7 ?_
    refine x_lshl qX3_add_39 ?_
    refine x_lconst (v := 1) qX3_add_40 rfl ?_
    refine x_lsub qX3_add_41 ?_
    refine x_lst5 qX3_add_42 (by decide) rfl ?_
    refine x_iconst (v := nI 0) qX3_add_44 rfl ?_
    refine x_ist7 qX3_add_45 (by decide) rfl ?_
    rw [← hEW]
    refine x_memL ?_ (loopA (4 * n) 0 (by omega) nv hnv)
    funext b i
    rw [LAe, if_neg (by omega)]
  refine x_aldn qX3_add_0 rfl trivial ?_
  refine x_getIe qX3_add_1 fX3_35 rfl h6 ?_
  refine x_aldn qX3_add_4 rfl trivial ?_
  refine x_getR qX3_add_5 fX3_11 rfl rfl ?_
  refine x_alen qX3_add_8 rfl (by decide) rfl ?_
  refine x_icmp_ge_nf (tgt := 20) qX3_add_9 (by omega) (by omega) (by omega) (by omega) ?_
  refine x_aldn qX3_add_12 rfl trivial ?_
  refine x_ildn qX3_add_13 rfl ?_
  refine x_cV1 (d' := 1) qX3_add_14 cX3_42 rfl ⟨_, rfl, rfl⟩ rfl rfl (Nat.le_of_ble_eq_true rfl) (Nat.le_of_ble_eq_true rfl) (by decide) ?_
  refine c_X3_hasRoomFor H hm (fun _ => ?_) (fun h => absurd ⟨by omega, by rw [hW]; exact hWm⟩ h)
  refine x_if_ne_t (tgt := 21) qX3_add_17 (by omega) (by decide) ?_
  refine x_iconst (v := nI 1) qX3_add_21 rfl ?_
  refine x_ildn qX3_add_22 rfl ?_
  refine x_ishl qX3_add_23 ?_
  rw [ib_shl (by omega) (by omega), Nat.one_mul]
  refine x_iconst (v := nI 1) qX3_add_24 rfl ?_
  refine x_isub_n qX3_add_25 (by omega) ?_
  refine x_ist3 qX3_add_26 (by decide) rfl ?_
  refine x_ildn qX3_add_27 rfl ?_
  refine x_iconst (v := nI 5) qX3_add_28 rfl ?_
  refine x_cS2 (d' := 3) qX3_add_29 cX3_48 rfl rfl (Nat.le_of_ble_eq_true rfl) (Nat.le_of_ble_eq_true rfl) (by decide) ?_
  refine c_X4_isUnder hj (by decide) (fun h => ?_) (fun h => ?_)
  · exact start 1 (by rw [if_pos h])
  · exact start 0 (by rw [if_neg h])
end K7
