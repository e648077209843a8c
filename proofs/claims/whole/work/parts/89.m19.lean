/-! the reference: tales -/
def lI (n : Nat) : Int64 := Int64.ofNat n
theorem lI_toInt {n : Nat} (h : n < 4611686018427387904) : (lI n).toInt = n := Int64.toInt_ofNat_of_lt (by omega)
theorem lI_add (a b : Nat) : lI a + lI b = lI (a + b) := (Int64.ofNat_add a b).symm
theorem nI_lI {n : Nat} (h : n < 2147483648) : (nI n).toInt64 = lI n := by
  apply Int64.toInt_inj.mp
  rw [Int32.toInt_toInt64, nI_toInt (by omega), lI_toInt (by omega)]
theorem lI_i (n : Nat) : (lI n).toInt32 = nI n := Int64.toInt32_ofNat
theorem lI_ne {d : Nat} (h0 : 0 < d) (hd : d < 1000000000) : ¬ lI d = 0 := fun e => by
  have := congrArg Int64.toInt e
  rw [lI_toInt (by omega)] at this
  have z : (0 : Int64).toInt = 0 := by decide
  omega
theorem lI_rem {a d : Nat} (ha : a < 4611686018427387904) (h0 : 0 < d) (hd : d < 1000000000) : lI a - lI a / lI d * lI d = lI (a % d) := by
  have e1 : lI a / lI d = lI (a / d) := by
    apply Int64.toInt_inj.mp
    have := Nat.div_le_self a d
    rw [Int64.toInt_div, lI_toInt ha, lI_toInt (by omega), lI_toInt (by omega), ← Int.ofNat_tdiv]
    generalize a / d = q at *
    exact Int.bmod_eq_of_le (by omega) (by omega)
  have h2 := Nat.div_mul_le_self a d
  have h3 := Nat.div_add_mod a d
  rw [Nat.mul_comm] at h3
  rw [e1]
  show Int64.ofNat a - Int64.ofNat (a / d) * Int64.ofNat d = _
  rw [← Int64.ofNat_mul, ← Int64.ofNat_sub _ _ h2]
  unfold lI
  congr 1
  omega
theorem sumW_modc {M : Nat} {f g : Nat → Nat} : ∀ {n : Nat}, (∀ i, i < n → f i % M = g i % M) → sumW f n % M = sumW g n % M := by
  intro n
  induction n with
  | zero => intro _; rfl
  | succ n ih =>
    intro h
    show (sumW f n + f n) % M = (sumW g n + g n) % M
    rw [Nat.add_mod, ih (fun i hi => h i (by omega)), h n (by omega), ← Nat.add_mod]
theorem sumW_bd {B : Nat} {f : Nat → Nat} : ∀ {n : Nat}, (∀ i, i < n → f i ≤ B) → sumW f n ≤ n * B := by
  intro n
  induction n with
  | zero => intro _; exact Nat.zero_le _
  | succ n ih =>
    intro h
    have h1 := ih (fun i hi => h i (by omega))
    have h2 := h n (by omega)
    rw [Nat.succ_mul]
    show sumW f n + f n ≤ _
    omega
section M19
variable {l : Launch} {g : cm_G} {I : cm_I} {L : cm_L} {hr tl : Option Nat} {Q : cm_Post} {u : Nat} {W c1 : Nat} {fit nx : Nat → Nat → Bool}
def bst (fit nx : Nat → Nat → Bool) (W c1 r w : Nat) : Nat := if liv fit nx W c1 r w then cbw fit nx W c1 (c1 - 1 - r) w % 1000003 else 0
theorem bst_lt {r w : Nat} : bst fit nx W c1 r w < 1000003 := by
  unfold bst
  split
  · exact Nat.mod_lt _ (by decide)
  · decide
theorem bst_cnt (h : 0 < c1) : sumW (bst fit nx W c1 0) W % 1000003 = cnt fit nx W c1 % 1000003 := by
  rw [cnt_live h]
  refine sumW_modc (fun i hi => ?_)
  show (if _ then _ else _) % _ = (if _ then _ else _) % _
  rw [Nat.sub_zero]
  split
  · exact Nat.mod_mod _ _
  · rfl
theorem bst_step {r w : Nat} (h : r + 1 < c1) (hw : w < W) (hl : liv fit nx W c1 r w = true) : sumW (fun v => if liv fit nx W c1 (r + 1) v && nx w v then bst fit nx W c1 (r + 1) v else 0) W % 1000003 = bst fit nx W c1 r w := by
  have e1 : c1 - 1 - r = c1 - 1 - (r + 1) + 1 := by omega
  have e2 : c1 - 1 - (c1 - 1 - (r + 1) + 1) = r := by omega
  have e3 : c1 - 1 - (c1 - 1 - (r + 1)) = r + 1 := by omega
  have hs := cbw_step (fit := fit) (nx := nx) (W := W) (len := c1) (m := c1 - 1 - (r + 1)) (w := w) (by omega) hw (by rw [e2]; exact hl)
  rw [e3] at hs
  have eb : bst fit nx W c1 r w = cbw fit nx W c1 (c1 - 1 - r) w % 1000003 := by unfold bst; rw [if_pos hl]
  rw [eb, e1, hs]
  refine sumW_modc (fun i hi => ?_)
  cases hv : liv fit nx W c1 (r + 1) i with
  | false => rfl
  | true =>
    cases nx w i with
    | false => rfl
    | true =>
      show bst fit nx W c1 (r + 1) i % _ = cbw fit nx W c1 (c1 - 1 - (r + 1)) i % _
      unfold bst
      rw [if_pos hv, Nat.mod_mod]
theorem ta_end (h1 : I 73 1 = nI W) (hW : W ≤ 64) (h0 : 0 < c1) (h97 : ∀ w, w < W → I 97 w = nI (bst fit nx W c1 0 w)) (hQ : Q (some (.int (nI (cnt fit nx W c1 % 1000003)))) I L (RR u hr tl) (DD u)) (v5 v6 : Value) : ∀ m w, w + m = W → cm_Ex l g 6 0 0 mX12_tales 184 [.ref 73, .int (nI c1), .long (lI (sumW (bst fit nx W c1 0) w)), .float 0, .int (nI w), v5, v6] [] I L (RR u hr tl) (DD u) Q := by
  intro m
  induction m with
  | zero =>
    intro w hw
    have e : w = W := by omega
    have hb : sumW (bst fit nx W c1 0) W ≤ W * 1000003 := sumW_bd (fun i _ => Nat.le_of_lt bst_lt)
    rw [e]
    refine x_ild qX12_tales_184 rfl ?_
    refine x_aldn qX12_tales_186 rfl trivial ?_
    refine x_getIe qX12_tales_187 fX12_13 rfl h1 ?_
    refine x_icmp_ge_nt (tgt := 210) qX12_tales_190 (by omega) (by omega) (by omega) (by omega) ?_
    refine x_lldn qX12_tales_210 rfl ?_
    refine x_ldc2 (v := lI 1000003) qX12_tales_211 vX12_252 ?_
    refine x_lrem qX12_tales_214 (lI_ne (by decide) (by decide)) ?_
    rw [lI_rem (by omega) (by decide) (by decide), bst_cnt h0]
    refine x_l2i qX12_tales_215 ?_
    rw [lI_i]
    refine x_iret qX12_tales_216 rfl rfl ?_
    exact hQ
  | succ m ih =>
    intro w hw
    have hb : sumW (bst fit nx W c1 0) (w + 1) = sumW (bst fit nx W c1 0) w + bst fit nx W c1 0 w := rfl
    have i1 := ih (w + 1) (by omega)
    rw [hb] at i1
    have bl := @bst_lt W c1 fit nx 0 w
    refine x_ild qX12_tales_184 rfl ?_
    refine x_aldn qX12_tales_186 rfl trivial ?_
    refine x_getIe qX12_tales_187 fX12_13 rfl h1 ?_
    refine x_icmp_ge_nf (tgt := 210) qX12_tales_190 (by omega) (by omega) (by omega) (by omega) ?_
    refine x_lldn qX12_tales_193 rfl ?_
    refine x_aldn qX12_tales_194 rfl trivial ?_
    refine x_getR qX12_tales_195 fX12_111 rfl rfl ?_
    refine x_ild qX12_tales_198 rfl ?_
    refine x_ialde qX12_tales_200 dd_97 rfl (by omega) (by decide) (h97 w (by omega)) ?_
    refine x_i2l qX12_tales_201 ?_
    rw [nI_lI (by omega)]
    refine x_ladd qX12_tales_202 ?_
    rw [lI_add]
    refine x_lst2 qX12_tales_203 (by decide) rfl ?_
    refine x_iinc4 qX12_tales_204 (by decide) (cm_inc _) rfl ?_
    refine x_goto (tgt := 184) qX12_tales_207 (by omega) ?_
    exact i1
theorem ta_main (p1 : I 73 1 = nI W) (p2 : W ≤ 64) (p4 : c1 ≤ 12) (p6 : ∀ w, w < W → ∀ v, v < W → I 92 (64 * w + v) = b2I (nx w v)) (h96 : ∀ r, r < c1 → A96 W (liv fit nx W c1) r I) (h0 : 0 < c1) (hQ : ∀ I', (∀ b, b ≠ 97 → I' b = I b) → Q (some (.int (nI (cnt fit nx W c1 % 1000003)))) I' L (RR u hr tl) (DD u)) : ∀ j (v3 v4 v5 v6 : Value) I', j ≤ c1 → (∀ r, j ≤ r → r < c1 → ∀ w, w < W → I' 97 (64 * r + w) = nI (bst fit nx W c1 r w)) → (∀ b, b ≠ 97 → I' b = I b) → cm_Ex l g 6 0 0 mX12_tales 22 [.ref 73, .int (nI c1), .int (nI j + Int32.ofInt (-1)), v3, v4, v5, v6] [] I' L (RR u hr tl) (DD u) Q := by
  intro j
  induction j with
  | zero =>
    intro v3 v4 v5 v6 I' hj hB hI
    have k1 : I' 73 1 = nI W := by rw [hI 73 (by decide)]; exact p1
    refine x_ildn qX12_tales_22 rfl ?_
    refine x_if_lt_t (tgt := 179) qX12_tales_23 (by omega) (by decide) ?_
    refine x_lconst (v := 0) qX12_tales_179 rfl ?_
    refine x_lst2 qX12_tales_180 (by decide) rfl ?_
    refine x_iconst (v := nI 0) qX12_tales_181 rfl ?_
    refine x_ist4 qX12_tales_182 (by decide) rfl ?_
    refine ta_end (fit := fit) (nx := nx) (c1 := c1) k1 p2 h0 (fun w hw => ?_) (hQ I' hI) _ _ W 0 (by omega)
    have := hB 0 (Nat.le_refl _) h0 w hw
    rwa [Nat.mul_zero, Nat.zero_add] at this
  | succ j ih =>
    intro v3 v4 v5 v6 I' hj hB hI
    rw [cm_dec]
    have mid : ∀ m w (v4 v5 v6 : Value) I', w + m = W → (∀ r, j + 1 ≤ r → r < c1 → ∀ w, w < W → I' 97 (64 * r + w) = nI (bst fit nx W c1 r w)) → (∀ w', w' < w → I' 97 (64 * j + w') = nI (bst fit nx W c1 j w')) → (∀ b, b ≠ 97 → I' b = I b) → cm_Ex l g 6 0 0 mX12_tales 28 [.ref 73, .int (nI c1), .int (nI j), .int (nI w), v4, v5, v6] [] I' L (RR u hr tl) (DD u) Q := by
      intro m
      induction m with
      | zero =>
        intro w v4 v5 v6 I' hw hB hP hI
        have k1 : I' 73 1 = nI W := by rw [hI 73 (by decide)]; exact p1
        refine x_ildn qX12_tales_28 rfl ?_
        refine x_aldn qX12_tales_29 rfl trivial ?_
        refine x_getIe qX12_tales_30 fX12_13 rfl k1 ?_
        refine x_icmp_ge_nt (tgt := 173) qX12_tales_33 (by omega) (by omega) (by omega) (by omega) ?_
        refine x_iinc2 qX12_tales_173 (by decide) rfl rfl ?_
        refine x_goto (tgt := 22) qX12_tales_176 (by omega) ?_
        refine ih _ _ _ _ I' (by omega) (fun r h1 h2 => ?_) hI
        by_cases e : r = j
        · subst e; exact fun w' hw' => hP w' (by omega)
        · exact hB r (by omega) h2
      | succ m ih2 =>
        intro w v4 v5 v6 I' hw hB hP hI
        have k1 : I' 73 1 = nI W := by rw [hI 73 (by decide)]; exact p1
        have k96 : I' 96 (64 * j + w) = b2I (liv fit nx W c1 j w) := by rw [hI 96 (by decide)]; exact h96 j (by omega) w (by omega)
        have fin : ∀ S (v6 : Value), S < 1000000000 → (liv fit nx W c1 j w = true → S % 1000003 = bst fit nx W c1 j w) → cm_Ex l g 6 0 0 mX12_tales 131 [.ref 73, .int (nI c1), .int (nI j), .int (nI w), .long (lI S), .float 0, v6] [] I' L (RR u hr tl) (DD u) Q := fun S v6 hS hS2 => by
          have st : cm_Ex l g 6 0 0 mX12_tales 166 [.ref 73, .int (nI c1), .int (nI j), .int (nI w), .long (lI S), .float 0, v6] [.int (nI (bst fit nx W c1 j w)), .int (nI (64 * j + w)), .ref 97] I' L (RR u hr tl) (DD u) Q := by
            refine x_iast qX12_tales_166 dd_97 rfl (by omega) (by decide) ?_
            refine x_iinc3 qX12_tales_167 (by decide) (cm_inc _) rfl ?_
            refine x_goto (tgt := 28) qX12_tales_170 (by omega) ?_
            refine ih2 (w + 1) _ _ _ _ (by omega) (fun r h1 h2 w' hw' => by rw [rdK (by omega)]; exact hB r h1 h2 w' hw') (fun w' hw' => ?_) (fun b g1 => by rw [cm_u_ne g1]; exact hI b g1)
            by_cases e : w' = w
            · subst e; exact rdE
            · rw [rdK (by omega)]; exact hP w' (by omega)
          refine x_aldn qX12_tales_131 rfl trivial ?_
          refine x_getR qX12_tales_132 fX12_111 rfl rfl ?_
          refine x_bipush (v := nI 64) qX12_tales_135 rfl ?_
          refine x_ildn qX12_tales_137 rfl ?_
          refine x_imul_n qX12_tales_138 ?_
          refine x_ildn qX12_tales_139 rfl ?_
          refine x_iadd_n qX12_tales_140 ?_
          refine x_aldn qX12_tales_141 rfl trivial ?_
          refine x_getR qX12_tales_142 fX12_108 rfl rfl ?_
          refine x_bipush (v := nI 64) qX12_tales_145 rfl ?_
          refine x_ildn qX12_tales_147 rfl ?_
          refine x_imul_n qX12_tales_148 ?_
          refine x_ildn qX12_tales_149 rfl ?_
          refine x_iadd_n qX12_tales_150 ?_
          refine x_zalde qX12_tales_151 dd_96 rfl (by omega) (by decide) k96 ?_
          cases hl : liv fit nx W c1 j w with
          | false =>
            have eb : bst fit nx W c1 j w = 0 := by unfold bst; rw [if_neg (by rw [hl]; decide)]
            rw [eb] at st
            refine x_if_eq_t (tgt := 165) qX12_tales_152 (by omega) (by decide) ?_
            refine x_iconst (v := nI 0) qX12_tales_165 rfl ?_
            exact st
          | true =>
            rw [← hS2 hl] at st
            refine x_if_eq_f (tgt := 165) qX12_tales_152 (by omega) (by decide) ?_
            refine x_lld qX12_tales_155 rfl ?_
            refine x_ldc2 (v := lI 1000003) qX12_tales_157 vX12_252 ?_
            refine x_lrem qX12_tales_160 (lI_ne (by decide) (by decide)) ?_
            rw [lI_rem (by omega) (by decide) (by decide)]
            refine x_l2i qX12_tales_161 ?_
            rw [lI_i]
            refine x_goto (tgt := 166) qX12_tales_162 (by omega) ?_
            exact st
        refine x_ildn qX12_tales_28 rfl ?_
        refine x_aldn qX12_tales_29 rfl trivial ?_
        refine x_getIe qX12_tales_30 fX12_13 rfl k1 ?_
        refine x_icmp_ge_nf (tgt := 173) qX12_tales_33 (by omega) (by omega) (by omega) (by omega) ?_
        refine x_ildn qX12_tales_36 rfl ?_
        refine x_ildn qX12_tales_37 rfl ?_
        refine x_iconst (v := nI 1) qX12_tales_38 rfl ?_
        refine x_isub_n qX12_tales_39 (by omega) ?_
        refine x_icmp_ne_n (tgt := 47) qX12_tales_40 (by omega) (by omega) (by omega) (fun e => ?_) (fun e => ?_)
        · have fn := fun S v6 => fin S v6
          have inn : ∀ k v, v + k = W → cm_Ex l g 6 0 0 mX12_tales 53 [.ref 73, .int (nI c1), .int (nI j), .int (nI w), .long (lI (sumW (fun v => if liv fit nx W c1 (j + 1) v && nx w v then bst fit nx W c1 (j + 1) v else 0) v)), .float 0, .int (nI v)] [] I' L (RR u hr tl) (DD u) Q := by
            intro k
            induction k with
            | zero =>
              intro v hv
              have e2 : v = W := by omega
              rw [e2]
              have hb : sumW (fun v => if liv fit nx W c1 (j + 1) v && nx w v then bst fit nx W c1 (j + 1) v else 0) W ≤ W * 1000003 := sumW_bd (fun i _ => by
                show (if _ then _ else _) ≤ _
                split
                · exact Nat.le_of_lt bst_lt
                · decide)
              refine x_ild qX12_tales_53 rfl ?_
              refine x_aldn qX12_tales_55 rfl trivial ?_
              refine x_getIe qX12_tales_56 fX12_13 rfl k1 ?_
              refine x_icmp_ge_nt (tgt := 131) qX12_tales_59 (by omega) (by omega) (by omega) (by omega) ?_
              exact fin _ _ (by omega) (fun hl => bst_step (by omega) (by omega) hl)
            | succ k ih3 =>
              intro v hv
              have e1 : I' 96 (64 * (j + 1) + v) = b2I (liv fit nx W c1 (j + 1) v) := by rw [hI 96 (by decide)]; exact h96 (j + 1) (by omega) v (by omega)
              have e2 : I' 92 (64 * w + v) = b2I (nx w v) := by rw [hI 92 (by decide)]; exact p6 w (by omega) v (by omega)
              have e3 : I' 97 (64 * (j + 1) + v) = nI (bst fit nx W c1 (j + 1) v) := hB (j + 1) (Nat.le_refl _) (by omega) v (by omega)
              have bl := @bst_lt W c1 fit nx (j + 1) v
              have es : sumW (fun v => if liv fit nx W c1 (j + 1) v && nx w v then bst fit nx W c1 (j + 1) v else 0) (v + 1) = sumW (fun v => if liv fit nx W c1 (j + 1) v && nx w v then bst fit nx W c1 (j + 1) v else 0) v + (if liv fit nx W c1 (j + 1) v && nx w v then bst fit nx W c1 (j + 1) v else 0) := rfl
              have i1 := ih3 (v + 1) (by omega)
              rw [es] at i1
              generalize sumW (fun v => if liv fit nx W c1 (j + 1) v && nx w v then bst fit nx W c1 (j + 1) v else 0) v = S at *
              have fin2 : ∀ x, x = (if liv fit nx W c1 (j + 1) v && nx w v then bst fit nx W c1 (j + 1) v else 0) → cm_Ex l g 6 0 0 mX12_tales 122 [.ref 73, .int (nI c1), .int (nI j), .int (nI w), .long (lI S), .float 0, .int (nI v)] [.long (lI x), .long (lI S)] I' L (RR u hr tl) (DD u) Q := fun x hx => by
                rw [← hx] at i1
                refine x_ladd qX12_tales_122 ?_
                rw [lI_add]
                refine x_lst4 qX12_tales_123 (by decide) rfl ?_
                refine x_iinc6 qX12_tales_125 (by decide) (cm_inc _) rfl ?_
                refine x_goto (tgt := 53) qX12_tales_128 (by omega) ?_
                exact i1
              refine x_ild qX12_tales_53 rfl ?_
              refine x_aldn qX12_tales_55 rfl trivial ?_
              refine x_getIe qX12_tales_56 fX12_13 rfl k1 ?_
              refine x_icmp_ge_nf (tgt := 131) qX12_tales_59 (by omega) (by omega) (by omega) (by omega) ?_
              refine x_ildn qX12_tales_62 rfl ?_
              refine x_ildn qX12_tales_63 rfl ?_
              refine x_iconst (v := nI 1) qX12_tales_64 rfl ?_
              refine x_isub_n qX12_tales_65 (by omega) ?_
              refine x_icmp_ge_nf (tgt := 131) qX12_tales_66 (by omega) (by omega) (by omega) (by omega) ?_
              refine x_lld qX12_tales_69 rfl ?_
              refine x_aldn qX12_tales_71 rfl trivial ?_
              refine x_getR qX12_tales_72 fX12_108 rfl rfl ?_
              refine x_bipush (v := nI 64) qX12_tales_75 rfl ?_
              refine x_ildn qX12_tales_77 rfl ?_
              refine x_iconst (v := nI 1) qX12_tales_78 rfl ?_
              refine x_iadd_n qX12_tales_79 ?_
              refine x_imul_n qX12_tales_80 ?_
              refine x_ild qX12_tales_81 rfl ?_
              refine x_iadd_n qX12_tales_83 ?_
              refine x_zalde qX12_tales_84 dd_96 rfl (by omega) (by decide) e1 ?_
              cases hl : liv fit nx W c1 (j + 1) v with
              | false =>
                refine x_if_eq_t (tgt := 121) qX12_tales_85 (by omega) (by decide) ?_
                refine x_lconst (v := 0) qX12_tales_121 rfl ?_
                exact fin2 0 (by rw [hl]; rfl)
              | true =>
                refine x_if_eq_f (tgt := 121) qX12_tales_85 (by omega) (by decide) ?_
                refine x_aldn qX12_tales_88 rfl trivial ?_
                refine x_getR qX12_tales_89 fX12_95 rfl rfl ?_
                refine x_bipush (v := nI 64) qX12_tales_92 rfl ?_
                refine x_ildn qX12_tales_94 rfl ?_
                refine x_imul_n qX12_tales_95 ?_
                refine x_ild qX12_tales_96 rfl ?_
                refine x_iadd_n qX12_tales_98 ?_
                refine x_zalde qX12_tales_99 dd_92 rfl (by omega) (by decide) e2 ?_
                cases hn : nx w v with
                | false =>
                  refine x_if_eq_t (tgt := 121) qX12_tales_100 (by omega) (by decide) ?_
                  refine x_lconst (v := 0) qX12_tales_121 rfl ?_
                  exact fin2 0 (by rw [hl, hn]; rfl)
                | true =>
                  refine x_if_eq_f (tgt := 121) qX12_tales_100 (by omega) (by decide) ?_
                  refine x_aldn qX12_tales_103 rfl trivial ?_
                  refine x_getR qX12_tales_104 fX12_111 rfl rfl ?_
                  refine x_bipush (v := nI 64) qX12_tales_107 rfl ?_
                  refine x_ildn qX12_tales_109 rfl ?_
                  refine x_iconst (v := nI 1) qX12_tales_110 rfl ?_
                  refine x_iadd_n qX12_tales_111 ?_
                  refine x_imul_n qX12_tales_112 ?_
                  refine x_ild qX12_tales_113 rfl ?_
                  refine x_iadd_n qX12_tales_115 ?_
                  refine x_ialde qX12_tales_116 dd_97 rfl (by omega) (by decide) e3 ?_
                  refine x_i2l qX12_tales_117 ?_
                  rw [nI_lI (by omega)]
                  refine x_goto (tgt := 122) qX12_tales_118 (by omega) ?_
                  exact fin2 _ (by rw [hl, hn]; rfl)
          refine x_lconst (v := 0) qX12_tales_47 rfl ?_
          refine x_lst4 qX12_tales_48 (by decide) rfl ?_
          refine x_iconst (v := nI 0) qX12_tales_50 rfl ?_
          refine x_ist6 qX12_tales_51 (by decide) rfl ?_
          exact inn W 0 (by omega)
        · have ej : j = c1 - 1 := e
          refine x_lconst (v := 1) qX12_tales_43 rfl ?_
          refine x_goto (tgt := 48) qX12_tales_44 (by omega) ?_
          refine x_lst4 qX12_tales_48 (by decide) rfl ?_
          refine x_iconst (v := nI 0) qX12_tales_50 rfl ?_
          refine x_ist6 qX12_tales_51 (by decide) rfl ?_
          refine x_ild qX12_tales_53 rfl ?_
          refine x_aldn qX12_tales_55 rfl trivial ?_
          refine x_getIe qX12_tales_56 fX12_13 rfl k1 ?_
          refine x_icmp_ge_nf (tgt := 131) qX12_tales_59 (by omega) (by omega) (by omega) (by omega) ?_
          refine x_ildn qX12_tales_62 rfl ?_
          refine x_ildn qX12_tales_63 rfl ?_
          refine x_iconst (v := nI 1) qX12_tales_64 rfl ?_
          refine x_isub_n qX12_tales_65 (by omega) ?_
          refine x_icmp_ge_nt (tgt := 131) qX12_tales_66 (by omega) (by omega) (by omega) (by omega) ?_
          refine fin 1 _ (by decide) (fun hl => ?_)
          unfold bst
          rw [if_pos hl, ej, Nat.sub_self]
          rfl
    refine x_ildn qX12_tales_22 rfl ?_
    refine x_if_lt_nf (tgt := 179) qX12_tales_23 (by omega) (by omega) ?_
    refine x_iconst (v := nI 0) qX12_tales_26 rfl ?_
    refine x_ist3 qX12_tales_27 (by decide) rfl ?_
    exact mid W 0 _ _ _ I' (by omega) hB (fun w' hw' => absurd hw' (by omega)) hI
end M19
section M19b
variable {l : Launch} {g : cm_G} {I : cm_I} {L : cm_L} {hr tl : Option Nat} {Q : cm_Post} {u : Nat} {n : Nat} {kd mm : Nat → Nat} {len : Nat} {tx : Nat → Nat} {hs : List (List Cls)} {hx c1 : Nat} {w1 : Nat → Nat} {c2 : Nat} {w2 : Nat → Nat} {im : IM} {s : List Nat} {tp : TP}
theorem c_X12_tales (M : MI n kd mm len tx hs hx c1 w1 c2 w2 im s tp I L) (hQ : KMQ Q (.int (talN n kd mm (hcs hs hx) c1 w1)) u hr tl (MI n kd mm len tx hs hx c1 w1 c2 w2 im s tp) I L) : cm_Ex l g 6 0 0 mX12_tales 0 [.ref 73, .float 0, .float 0, .float 0, .float 0, .float 0, .float 0] [] I L (RR u hr tl) (DD u) Q := by
  refine x_aldn qX12_tales_0 rfl trivial ?_
  refine x_cV0 (d' := 5) qX12_tales_1 cX12_249 rfl ⟨_, rfl, rfl⟩ rfl rfl (Nat.le_of_ble_eq_true rfl) (Nat.le_of_ble_eq_true rfl) (by decide) ?_
  refine c_X12_look M (fun I1 A1 h96 F1x M1 => ?_)
  obtain ⟨h86, hc⟩ := MI_86 M1
  refine x_pop qX12_tales_4 rfl ?_
  refine x_aldn qX12_tales_5 rfl trivial ?_
  refine x_getR qX12_tales_6 fX12_77 rfl rfl ?_
  refine x_iconst (v := nI 0) qX12_tales_9 rfl ?_
  refine x_ialde qX12_tales_10 dd_86 rfl (by omega) (by decide) h86 ?_
  refine x_ist1 qX12_tales_11 (by decide) rfl ?_
  refine x_ildn qX12_tales_12 rfl ?_
  refine x_if_ne_n (tgt := 18) qX12_tales_13 (by omega) (by omega) (fun e => ?_) (fun e => ?_)
  · refine x_ildn qX12_tales_18 rfl ?_
    refine x_iconst (v := nI 1) qX12_tales_19 rfl ?_
    refine x_isub qX12_tales_20 ?_
    rw [sub1_dec]
    refine x_ist2 qX12_tales_21 (by decide) rfl ?_
    refine ta_main (fit := F1 n kd mm (hcs hs hx) w1) (nx := nxt kd mm n) M1.1.2.2.2.2.2.1 M1.1.2.2.2.1 hc (fun w hw v hv => (A1.2.2.1 w hw v hv).1) h96 e (fun I2 hI2 => ?_) c1 _ _ _ _ I1 (Nat.le_refl _) (fun r h1 h2 => absurd h1 (by omega)) (fun _ _ => rfl)
    have F2x : FX I I2 := FX_tr F1x (fun b hb => hI2 b (by omega))
    exact hQ I2 L (MI_FX M F2x) (KC_FX F2x)
  · have hq := hQ I1 L M1 (KC_FX F1x)
    have ev : talN n kd mm (hcs hs hx) c1 w1 = nI 1 := by
      unfold talN cnt
      rw [if_pos e]
    rw [ev] at hq
    refine x_iconst (v := nI 1) qX12_tales_16 rfl ?_
    refine x_iret qX12_tales_17 rfl rfl ?_
    exact hq
end M19b
