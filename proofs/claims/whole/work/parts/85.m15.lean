/-! the reference: all ways laid -/
def FX (I I' : cm_I) : Prop := ∀ b, (b < 87 ∨ 98 < b) → I' b = I b
theorem FX_rfl {I : cm_I} : FX I I := fun _ _ => rfl
theorem FX_tr {I I' I'' : cm_I} (a : FX I I') (b : FX I' I'') : FX I I'' := fun x h => (b x h).trans (a x h)
theorem FX_u {I : cm_I} {b k : Nat} {v : Int32} (h1 : 87 ≤ b) (h2 : b ≤ 98) : FX I (cm_u I b k v) := fun x h => cm_u_ne (by omega)
def WA (n : Nat) (mm : Nat → Nat) (cs : List Cls) (W : Nat) (I : cm_I) : Prop := ∀ w, w < W → S87 n mm w I ∧ W88 n mm cs w I
def N92 (n : Nat) (kd mm : Nat → Nat) (w v : Nat) (I : cm_I) : Prop := I 92 (64 * w + v) = b2I (nxt kd mm n w v) ∧ I 90 (64 * w + v) = nI (chg mm n w v)
def LL (n : Nat) (kd mm : Nat → Nat) (cs : List Cls) (c1 : Nat) (I : cm_I) : Prop := T91 cs I ∧ WA n mm cs (wys mm n) I ∧ (∀ w, w < wys mm n → ∀ v, v < wys mm n → N92 n kd mm w v I) ∧ ∀ r, r < c1 → ∀ w, w < wys mm n → I 94 (64 * r + w) = b2I (opn kd mm n (btk cs) r w)
theorem MH_FX {n : Nat} {kd mm : Nat → Nat} {I I' : cm_I} (H : MH n kd mm I) (F : FX I I') : MH n kd mm I' := MH_fr H (by rw [F 73 (by omega)]) (by rw [F 73 (by omega)]) (F 74 (by omega)) (F 75 (by omega))
theorem HK_FX {hx : Nat} {cs : List Cls} {I I' : cm_I} (K : HK hx cs I) (F : FX I I') : HK hx cs I' := HK_fr K (by rw [F 73 (by omega)]) (fun b h1 h2 => F b (by omega))
theorem T91_fr {cs : List Cls} {I I' : cm_I} (T : T91 cs I) (h : I' 91 = I 91) : T91 cs I' := fun k hk => by rw [h]; exact T k hk
theorem WA_fr {n W : Nat} {mm : Nat → Nat} {cs : List Cls} {I I' : cm_I} (A : WA n mm cs W I) (h : ∀ b, 87 ≤ b → b ≤ 89 → I' b = I b) : WA n mm cs W I' := fun w hw => ⟨S87_fr (A w hw).1 (h 87 (by omega) (by omega)), by rw [h 88 (by omega) (by omega)]; exact (A w hw).2.1, by rw [h 89 (by omega) (by omega)]; exact (A w hw).2.2⟩
section M15
variable {l : Launch} {g : cm_G} {I : cm_I} {L : cm_L} {hr tl : Option Nat} {Q : cm_Post} {u : Nat} {n : Nat} {kd mm : Nat → Nat} {hx : Nat} {cs : List Cls} {c1 : Nat}
theorem la_may (H : MH n kd mm I) (K : HK hx cs I) (h86 : I 86 0 = nI c1) (hc : c1 ≤ 12) (A : WA n mm cs (wys mm n) I) (hQ : ∀ I', (∀ r, r < c1 → ∀ w, w < wys mm n → I' 94 (64 * r + w) = b2I (opn kd mm n (btk cs) r w)) → (∀ b, b ≠ 93 → b ≠ 94 → I' b = I b) → Q none I' L (RR u hr tl) (DD u)) : ∀ m r (v2 v3 v4 v5 : Value) I', r + m = c1 → (∀ r', r' < r → ∀ w, w < wys mm n → I' 94 (64 * r' + w) = b2I (opn kd mm n (btk cs) r' w)) → (∀ b, b ≠ 93 → b ≠ 94 → I' b = I b) → cm_Ex l g 4 0 0 mX12_layAll 205 [.ref 73, .int (nI r), v2, v3, v4, v5] [] I' L (RR u hr tl) (DD u) Q := by
  obtain ⟨h4, hok, hk, h64, h0, h1, hi⟩ := id H
  intro m
  induction m with
  | zero =>
    intro r v2 v3 v4 v5 I' hre hM hI
    have e : r = c1 := by omega
    subst e
    refine x_ildn qX12_layAll_205 rfl ?_
    refine x_aldn qX12_layAll_206 rfl trivial ?_
    refine x_getR qX12_layAll_207 fX12_77 rfl rfl ?_
    refine x_iconst (v := nI 0) qX12_layAll_210 rfl ?_
    refine x_ialde qX12_layAll_211 dd_86 rfl (by omega) (by decide) (show _ = nI r from by rw [hI 86 (by decide) (by decide)]; exact h86) ?_
    refine x_icmp_ge_nt (tgt := 254) qX12_layAll_212 (by omega) (by omega) (by omega) (by omega) ?_
    refine x_vret qX12_layAll_254 rfl ?_
    exact hQ I' hM hI
  | succ m ih =>
    intro r v2 v3 v4 v5 I' hre hM hI
    have inner : ∀ k w I', w + k = wys mm n → (∀ r', r' < r → ∀ w, w < wys mm n → I' 94 (64 * r' + w) = b2I (opn kd mm n (btk cs) r' w)) → (∀ w', w' < w → I' 94 (64 * r + w') = b2I (opn kd mm n (btk cs) r w')) → (∀ b, b ≠ 93 → b ≠ 94 → I' b = I b) → cm_Ex l g 4 0 0 mX12_layAll 217 [.ref 73, .int (nI r), .int (nI w), v3, v4, v5] [] I' L (RR u hr tl) (DD u) Q := by
      intro k
      induction k with
      | zero =>
        intro w I' hw hM hP hI
        have k1 : I' 73 1 = nI (wys mm n) := by rw [hI 73 (by decide) (by decide)]; exact h1
        refine x_ildn qX12_layAll_217 rfl ?_
        refine x_aldn qX12_layAll_218 rfl trivial ?_
        refine x_getIe qX12_layAll_219 fX12_13 rfl k1 ?_
        refine x_icmp_ge_nt (tgt := 248) qX12_layAll_222 (by omega) (by omega) (by omega) (by omega) ?_
        refine x_iinc1 qX12_layAll_248 (by decide) (cm_inc _) rfl ?_
        refine x_goto (tgt := 205) qX12_layAll_251 (by omega) ?_
        refine ih (r + 1) _ _ _ _ I' (by omega) (fun r' hr' w' hw' => ?_) hI
        by_cases e : r' = r
        · subst e; exact hP w' (by omega)
        · exact hM r' (by omega) w' hw'
      | succ k ih2 =>
        intro w I' hw hM hP hI
        have k1 : I' 73 1 = nI (wys mm n) := by rw [hI 73 (by decide) (by decide)]; exact h1
        refine x_ildn qX12_layAll_217 rfl ?_
        refine x_aldn qX12_layAll_218 rfl trivial ?_
        refine x_getIe qX12_layAll_219 fX12_13 rfl k1 ?_
        refine x_icmp_ge_nf (tgt := 248) qX12_layAll_222 (by omega) (by omega) (by omega) (by omega) ?_
        refine x_aldn qX12_layAll_225 rfl trivial ?_
        refine x_getR qX12_layAll_226 fX12_102 rfl rfl ?_
        refine x_bipush (v := nI 64) qX12_layAll_229 rfl ?_
        refine x_ildn qX12_layAll_231 rfl ?_
        refine x_imul_n qX12_layAll_232 ?_
        refine x_ildn qX12_layAll_233 rfl ?_
        refine x_iadd_n qX12_layAll_234 ?_
        refine x_aldn qX12_layAll_235 rfl trivial ?_
        refine x_ildn qX12_layAll_236 rfl ?_
        refine x_ildn qX12_layAll_237 rfl ?_
        refine x_cV2 (d' := 3) qX12_layAll_238 cX12_230 rfl ⟨_, rfl, rfl⟩ rfl rfl (Nat.le_of_ble_eq_true rfl) (Nat.le_of_ble_eq_true rfl) (by decide) ?_
        refine c_X12_mayBe (n := n) (kd := kd) (mm := mm) (hx := hx) (cs := cs) (w := w) (r := r) (MH_fr H (by rw [hI 73 (by decide) (by decide)]) (by rw [hI 73 (by decide) (by decide)]) (hI 74 (by decide) (by decide)) (hI 75 (by decide) (by decide))) (HK_fr K (by rw [hI 73 (by decide) (by decide)]) (fun b g1 g2 => hI b (by omega) (by omega))) (by omega) (by omega) (S87_fr (A w (by omega)).1 (hI 87 (by decide) (by decide))) (fun I2 hI2 => ?_)
        have hI3 : ∀ b, b ≠ 93 → b ≠ 94 → I2 b = I b := fun b g1 g2 => (hI2 b g1).trans (hI b g1 g2)
        refine x_zast qX12_layAll_241 dd_94 rfl (by omega) (by decide) (nar_b _) ?_
        refine x_iinc2 qX12_layAll_242 (by decide) (cm_inc _) rfl ?_
        refine x_goto (tgt := 217) qX12_layAll_245 (by omega) ?_
        refine ih2 (w + 1) _ (by omega) (fun r' hr' w' hw' => by rw [rdK (by omega), hI2 94 (by decide)]; exact hM r' hr' w' hw') (fun w' hw' => ?_) (fun b g1 g2 => by rw [cm_u_ne g2]; exact hI3 b g1 g2)
        by_cases e : w' = w
        · subst e; exact rdE
        · rw [rdK (by omega), hI2 94 (by decide)]; exact hP w' (by omega)
    refine x_ildn qX12_layAll_205 rfl ?_
    refine x_aldn qX12_layAll_206 rfl trivial ?_
    refine x_getR qX12_layAll_207 fX12_77 rfl rfl ?_
    refine x_iconst (v := nI 0) qX12_layAll_210 rfl ?_
    refine x_ialde qX12_layAll_211 dd_86 rfl (by omega) (by decide) (show _ = nI c1 from by rw [hI 86 (by decide) (by decide)]; exact h86) ?_
    refine x_icmp_ge_nf (tgt := 254) qX12_layAll_212 (by omega) (by omega) (by omega) (by omega) ?_
    refine x_iconst (v := nI 0) qX12_layAll_215 rfl ?_
    refine x_ist2 qX12_layAll_216 (by decide) rfl ?_
    exact inner (wys mm n) 0 I' (by omega) hM (fun w' hw' => absurd hw' (by omega)) hI
theorem la_next (H : MH n kd mm I) (A : WA n mm cs (wys mm n) I) (hQ : ∀ I' (v2 v3 v4 v5 : Value), (∀ w, w < wys mm n → ∀ v, v < wys mm n → N92 n kd mm w v I') → (∀ b, b ≠ 90 → b ≠ 92 → I' b = I b) → cm_Ex l g 4 0 0 mX12_layAll 203 [.ref 73, .int (nI (wys mm n)), v2, v3, v4, v5] [] I' L (RR u hr tl) (DD u) Q) : ∀ m w (v2 v3 v4 v5 : Value) I', w + m = wys mm n → (∀ w', w' < w → ∀ v, v < wys mm n → N92 n kd mm w' v I') → (∀ b, b ≠ 90 → b ≠ 92 → I' b = I b) → cm_Ex l g 4 0 0 mX12_layAll 49 [.ref 73, .int (nI w), v2, v3, v4, v5] [] I' L (RR u hr tl) (DD u) Q := by
  obtain ⟨h4, hok, hk, h64, h0, h1, hi⟩ := id H
  intro m
  induction m with
  | zero =>
    intro w v2 v3 v4 v5 I' hw hN hI
    have k1 : I' 73 1 = nI (wys mm n) := by rw [hI 73 (by decide) (by decide)]; exact h1
    have e : w = wys mm n := by omega
    rw [e] at hN ⊢
    refine x_ildn qX12_layAll_49 rfl ?_
    refine x_aldn qX12_layAll_50 rfl trivial ?_
    refine x_getIe qX12_layAll_51 fX12_13 rfl k1 ?_
    refine x_icmp_ge_nt (tgt := 203) qX12_layAll_54 (by omega) (by omega) (by omega) (by omega) ?_
    exact hQ I' _ _ _ _ hN hI
  | succ m ih =>
    intro w v2 v3 v4 v5 I' hw hN hI
    have inner : ∀ k v (v3 v4 v5 : Value) I', v + k = wys mm n → (∀ w', w' < w → ∀ v, v < wys mm n → N92 n kd mm w' v I') → (∀ v', v' < v → N92 n kd mm w v' I') → (∀ b, b ≠ 90 → b ≠ 92 → I' b = I b) → cm_Ex l g 4 0 0 mX12_layAll 59 [.ref 73, .int (nI w), .int (nI v), v3, v4, v5] [] I' L (RR u hr tl) (DD u) Q := by
      intro k
      induction k with
      | zero =>
        intro v v3 v4 v5 I' hv hN hP hI
        have k1 : I' 73 1 = nI (wys mm n) := by rw [hI 73 (by decide) (by decide)]; exact h1
        refine x_ildn qX12_layAll_59 rfl ?_
        refine x_aldn qX12_layAll_60 rfl trivial ?_
        refine x_getIe qX12_layAll_61 fX12_13 rfl k1 ?_
        refine x_icmp_ge_nt (tgt := 197) qX12_layAll_64 (by omega) (by omega) (by omega) (by omega) ?_
        refine x_iinc1 qX12_layAll_197 (by decide) (cm_inc _) rfl ?_
        refine x_goto (tgt := 49) qX12_layAll_200 (by omega) ?_
        refine ih (w + 1) _ _ _ _ I' (by omega) (fun w' hw' v' hv' => ?_) hI
        by_cases e : w' = w
        · subst e; exact hP v' (by omega)
        · exact hN w' (by omega) v' hv'
      | succ k ih2 =>
        intro v v3 v4 v5 I' hv hN hP hI
        have k1 : I' 73 1 = nI (wys mm n) := by rw [hI 73 (by decide) (by decide)]; exact h1
        have H' : MH n kd mm I' := MH_fr H (by rw [hI 73 (by decide) (by decide)]) (by rw [hI 73 (by decide) (by decide)]) (hI 74 (by decide) (by decide)) (hI 75 (by decide) (by decide))
        have k0 : I' 73 0 = nI n := by rw [hI 73 (by decide) (by decide)]; exact h0
        have fin : cm_Ex l g 4 0 0 mX12_layAll 166 [.ref 73, .int (nI w), .int (nI v), .int (b2I (nxt kd mm n w v)), .int (nI (chg mm n w v)), .int (nI n)] [] I' L (RR u hr tl) (DD u) Q := by
          refine x_aldn qX12_layAll_166 rfl trivial ?_
          refine x_getR qX12_layAll_167 fX12_95 rfl rfl ?_
          refine x_bipush (v := nI 64) qX12_layAll_170 rfl ?_
          refine x_ildn qX12_layAll_172 rfl ?_
          refine x_imul_n qX12_layAll_173 ?_
          refine x_ildn qX12_layAll_174 rfl ?_
          refine x_iadd_n qX12_layAll_175 ?_
          refine x_ildn qX12_layAll_176 rfl ?_
          refine x_zast qX12_layAll_177 dd_92 rfl (by omega) (by decide) (nar_b _) ?_
          refine x_aldn qX12_layAll_178 rfl trivial ?_
          refine x_getR qX12_layAll_179 fX12_89 rfl rfl ?_
          refine x_bipush (v := nI 64) qX12_layAll_182 rfl ?_
          refine x_ildn qX12_layAll_184 rfl ?_
          refine x_imul_n qX12_layAll_185 ?_
          refine x_ildn qX12_layAll_186 rfl ?_
          refine x_iadd_n qX12_layAll_187 ?_
          refine x_ild qX12_layAll_188 rfl ?_
          refine x_iast qX12_layAll_190 dd_90 rfl (by omega) (by decide) ?_
          refine x_iinc2 qX12_layAll_191 (by decide) (cm_inc _) rfl ?_
          refine x_goto (tgt := 59) qX12_layAll_194 (by omega) ?_
          refine ih2 (v + 1) _ _ _ _ (by omega) (fun w' hw' v' hv' => ?_) (fun v' hv' => ?_) (fun b g1 g2 => by rw [cm_u_ne g1, cm_u_ne g2]; exact hI b g1 g2)
          · obtain ⟨n1, n2⟩ := hN w' hw' v' hv'
            exact ⟨by rw [rdB (by decide), rdK (by omega)]; exact n1, by rw [rdK (by omega), rdB (by decide)]; exact n2⟩
          · by_cases e : v' = v
            · subst e; exact ⟨by rw [rdB (by decide), rdE], rdE⟩
            · obtain ⟨n1, n2⟩ := hP v' (by omega)
              exact ⟨by rw [rdB (by decide), rdK (by omega)]; exact n1, by rw [rdK (by omega), rdB (by decide)]; exact n2⟩
        have lp : ∀ j t, t + j = n → cm_Ex l g 4 0 0 mX12_layAll 75 [.ref 73, .int (nI w), .int (nI v), .int (b2I (nxt kd mm t w v)), .int (nI (chg mm t w v)), .int (nI t)] [] I' L (RR u hr tl) (DD u) Q := by
          intro j
          induction j with
          | zero =>
            intro t ht
            have e : t = n := by omega
            subst e
            refine x_ild qX12_layAll_75 rfl ?_
            refine x_aldn qX12_layAll_77 rfl trivial ?_
            refine x_getIe qX12_layAll_78 fX12_7 rfl k0 ?_
            refine x_icmp_ge_nt (tgt := 166) qX12_layAll_81 (by omega) (by omega) (by omega) (by omega) ?_
            exact fin
          | succ j ih3 =>
            intro t ht
            have htn : t < n := by omega
            have dw := dgt_lt hok htn w
            have dv := dgt_lt hok htn v
            have hmt := hok t htn
            have sw : I' 87 (4 * w + t) = nI (dgt mm w t) := by rw [hI 87 (by decide) (by decide), (A w (by omega)).1 t (by omega), if_pos htn]
            have sv : I' 87 (4 * v + t) = nI (dgt mm v t) := by rw [hI 87 (by decide) (by decide), (A v (by omega)).1 t (by omega), if_pos htn]
            have st2 : ∀ b, b = nxt kd mm (t + 1) w v → cm_Ex l g 4 0 0 mX12_layAll 124 [.ref 73, .int (nI w), .int (nI v), .int (b2I (nxt kd mm t w v)), .int (nI (chg mm t w v)), .int (nI t)] [.int (b2I b)] I' L (RR u hr tl) (DD u) Q := fun b hb => by
              rw [hb]
              have fin2 : ∀ x, chg mm t w v + x = chg mm (t + 1) w v → cm_Ex l g 4 0 0 mX12_layAll 157 [.ref 73, .int (nI w), .int (nI v), .int (b2I (nxt kd mm (t + 1) w v)), .int (nI (chg mm t w v)), .int (nI t)] [.int (nI x), .int (nI (chg mm t w v))] I' L (RR u hr tl) (DD u) Q := fun x hx => by
                refine x_iadd_n qX12_layAll_157 ?_
                rw [hx]
                refine x_ist4 qX12_layAll_158 (by decide) rfl ?_
                refine x_iinc5 qX12_layAll_160 (by decide) (cm_inc _) rfl ?_
                refine x_goto (tgt := 75) qX12_layAll_163 (by omega) ?_
                exact ih3 (t + 1) (by omega)
              have ec : chg mm (t + 1) w v = chg mm t w v + (if dgt mm w t = dgt mm v t then 0 else 1) := rfl
              refine x_ist3 qX12_layAll_124 (by decide) rfl ?_
              refine x_ild qX12_layAll_125 rfl ?_
              refine x_aldn qX12_layAll_127 rfl trivial ?_
              refine x_getR qX12_layAll_128 fX12_80 rfl rfl ?_
              refine x_iconst (v := nI 4) qX12_layAll_131 rfl ?_
              refine x_ildn qX12_layAll_132 rfl ?_
              refine x_imul_n qX12_layAll_133 ?_
              refine x_ild qX12_layAll_134 rfl ?_
              refine x_iadd_n qX12_layAll_136 ?_
              refine x_ialde qX12_layAll_137 dd_87 rfl (by omega) (by decide) sw ?_
              refine x_aldn qX12_layAll_138 rfl trivial ?_
              refine x_getR qX12_layAll_139 fX12_80 rfl rfl ?_
              refine x_iconst (v := nI 4) qX12_layAll_142 rfl ?_
              refine x_ildn qX12_layAll_143 rfl ?_
              refine x_imul_n qX12_layAll_144 ?_
              refine x_ild qX12_layAll_145 rfl ?_
              refine x_iadd_n qX12_layAll_147 ?_
              refine x_ialde qX12_layAll_148 dd_87 rfl (by omega) (by decide) sv ?_
              refine x_icmp_ne_n (tgt := 156) qX12_layAll_149 (by omega) (by omega) (by omega) (fun e => ?_) (fun e => ?_)
              · refine x_iconst (v := nI 1) qX12_layAll_156 rfl ?_
                exact fin2 1 (by rw [ec, if_neg e])
              · refine x_iconst (v := nI 0) qX12_layAll_152 rfl ?_
                refine x_goto (tgt := 157) qX12_layAll_153 (by omega) ?_
                exact fin2 0 (by rw [ec, if_pos e])
            have en : nxt kd mm (t + 1) w v = (nxt kd mm t w v && nx (kd t) (mm t) (dgt mm w t) (dgt mm v t)) := rfl
            refine x_ild qX12_layAll_75 rfl ?_
            refine x_aldn qX12_layAll_77 rfl trivial ?_
            refine x_getIe qX12_layAll_78 fX12_7 rfl k0 ?_
            refine x_icmp_ge_nf (tgt := 166) qX12_layAll_81 (by omega) (by omega) (by omega) (by omega) ?_
            refine x_ildn qX12_layAll_84 rfl ?_
            cases hn : nxt kd mm t w v with
            | false =>
              rw [hn] at st2 en
              refine x_if_eq_t (tgt := 123) qX12_layAll_85 (by omega) (by decide) ?_
              refine x_iconst (v := nI 0) qX12_layAll_123 rfl ?_
              exact st2 false (by rw [en]; rfl)
            | true =>
              rw [hn] at st2 en
              refine x_if_eq_f (tgt := 123) qX12_layAll_85 (by omega) (by decide) ?_
              refine x_aldn qX12_layAll_88 rfl trivial ?_
              refine x_ild qX12_layAll_89 rfl ?_
              refine x_aldn qX12_layAll_91 rfl trivial ?_
              refine x_getR qX12_layAll_92 fX12_80 rfl rfl ?_
              refine x_iconst (v := nI 4) qX12_layAll_95 rfl ?_
              refine x_ildn qX12_layAll_96 rfl ?_
              refine x_imul_n qX12_layAll_97 ?_
              refine x_ild qX12_layAll_98 rfl ?_
              refine x_iadd_n qX12_layAll_100 ?_
              refine x_ialde qX12_layAll_101 dd_87 rfl (by omega) (by decide) sw ?_
              refine x_aldn qX12_layAll_102 rfl trivial ?_
              refine x_getR qX12_layAll_103 fX12_80 rfl rfl ?_
              refine x_iconst (v := nI 4) qX12_layAll_106 rfl ?_
              refine x_ildn qX12_layAll_107 rfl ?_
              refine x_imul_n qX12_layAll_108 ?_
              refine x_ild qX12_layAll_109 rfl ?_
              refine x_iadd_n qX12_layAll_111 ?_
              refine x_ialde qX12_layAll_112 dd_87 rfl (by omega) (by decide) sv ?_
              refine x_cV3 (d' := 1) qX12_layAll_113 cX12_157 rfl ⟨_, rfl, rfl⟩ rfl rfl (Nat.le_of_ble_eq_true rfl) (Nat.le_of_ble_eq_true rfl) (by decide) ?_
              refine c_X12_isNext H' htn dw dv ?_
              cases hx2 : nx (kd t) (mm t) (dgt mm w t) (dgt mm v t) with
              | false =>
                refine x_if_eq_t (tgt := 123) qX12_layAll_116 (by omega) (by decide) ?_
                refine x_iconst (v := nI 0) qX12_layAll_123 rfl ?_
                exact st2 false (by rw [en, hx2]; rfl)
              | true =>
                refine x_if_eq_f (tgt := 123) qX12_layAll_116 (by omega) (by decide) ?_
                refine x_iconst (v := nI 1) qX12_layAll_119 rfl ?_
                refine x_goto (tgt := 124) qX12_layAll_120 (by omega) ?_
                exact st2 true (by rw [en, hx2]; rfl)
        refine x_ildn qX12_layAll_59 rfl ?_
        refine x_aldn qX12_layAll_60 rfl trivial ?_
        refine x_getIe qX12_layAll_61 fX12_13 rfl k1 ?_
        refine x_icmp_ge_nf (tgt := 197) qX12_layAll_64 (by omega) (by omega) (by omega) (by omega) ?_
        refine x_iconst (v := nI 1) qX12_layAll_67 rfl ?_
        refine x_ist3 qX12_layAll_68 (by decide) rfl ?_
        refine x_iconst (v := nI 0) qX12_layAll_69 rfl ?_
        refine x_ist4 qX12_layAll_70 (by decide) rfl ?_
        refine x_iconst (v := nI 0) qX12_layAll_72 rfl ?_
        refine x_ist5 qX12_layAll_73 (by decide) rfl ?_
        exact lp n 0 (by omega)
    have k1 : I' 73 1 = nI (wys mm n) := by rw [hI 73 (by decide) (by decide)]; exact h1
    refine x_ildn qX12_layAll_49 rfl ?_
    refine x_aldn qX12_layAll_50 rfl trivial ?_
    refine x_getIe qX12_layAll_51 fX12_13 rfl k1 ?_
    refine x_icmp_ge_nf (tgt := 203) qX12_layAll_54 (by omega) (by omega) (by omega) (by omega) ?_
    refine x_iconst (v := nI 0) qX12_layAll_57 rfl ?_
    refine x_ist2 qX12_layAll_58 (by decide) rfl ?_
    exact inner (wys mm n) 0 _ _ _ I' (by omega) hN (fun v' hv' => absurd hv' (by omega)) hI
theorem c_X12_layAll (H : MH n kd mm I) (K : HK hx cs I) (h86 : I 86 0 = nI c1) (hc : c1 ≤ 12) (hQ : ∀ I', LL n kd mm cs c1 I' → FX I I' → Q none I' L (RR u hr tl) (DD u)) : cm_Ex l g 4 0 0 mX12_layAll 0 [.ref 73, .float 0, .float 0, .float 0, .float 0, .float 0] [] I L (RR u hr tl) (DD u) Q := by
  obtain ⟨h4, hok, hk, h64, h0, h1, hi⟩ := id H
  have loopB : ∀ m w I', w + m = wys mm n → T91 cs I' → (∀ w', w' < w → S87 n mm w' I' ∧ W88 n mm cs w' I') → FX I I' → cm_Ex l g 4 0 0 mX12_layAll 28 [.ref 73, .int (nI w), .float 0, .float 0, .float 0, .float 0] [] I' L (RR u hr tl) (DD u) Q := by
    intro m
    induction m with
    | zero =>
      intro w I' hw T A F
      have k1 : I' 73 1 = nI (wys mm n) := by rw [F 73 (by omega)]; exact h1
      have e : w = wys mm n := by omega
      subst e
      refine x_ildn qX12_layAll_28 rfl ?_
      refine x_aldn qX12_layAll_29 rfl trivial ?_
      refine x_getIe qX12_layAll_30 fX12_13 rfl k1 ?_
      refine x_icmp_ge_nt (tgt := 47) qX12_layAll_33 (by omega) (by omega) (by omega) (by omega) ?_
      refine x_iconst (v := nI 0) qX12_layAll_47 rfl ?_
      refine x_ist1 qX12_layAll_48 (by decide) rfl ?_
      refine la_next (cs := cs) (MH_FX H F) A (fun I2 v2 v3 v4 v5 N2 hI2 => ?_) (wys mm n) 0 _ _ _ _ I' (by omega) (fun w' hw' => absurd hw' (by omega)) (fun _ _ _ => rfl)
      have F2 : FX I I2 := FX_tr F (fun b hb => hI2 b (by omega) (by omega))
      have A2 : WA n mm cs (wys mm n) I2 := WA_fr A (fun b g1 g2 => hI2 b (by omega) (by omega))
      refine x_iconst (v := nI 0) qX12_layAll_203 rfl ?_
      refine x_ist1 qX12_layAll_204 (by decide) rfl ?_
      refine la_may (MH_FX H F2) (HK_FX K F2) (by rw [F2 86 (by omega)]; exact h86) hc A2 (fun I3 M3 hI3 => ?_) c1 0 _ _ _ _ I2 (by omega) (fun r' hr' => absurd hr' (by omega)) (fun _ _ _ => rfl)
      refine hQ I3 ⟨T91_fr T ?_, WA_fr A2 (fun b g1 g2 => hI3 b (by omega) (by omega)), fun w hw v hv => ?_, M3⟩ (FX_tr F2 (fun b hb => hI3 b (by omega) (by omega)))
      · rw [hI3 91 (by decide) (by decide), hI2 91 (by decide) (by decide)]
      · have := N2 w hw v hv
        exact ⟨by rw [hI3 92 (by decide) (by decide)]; exact this.1, by rw [hI3 90 (by decide) (by decide)]; exact this.2⟩
    | succ m ih =>
      intro w I' hw T A F
      have k1 : I' 73 1 = nI (wys mm n) := by rw [F 73 (by omega)]; exact h1
      refine x_ildn qX12_layAll_28 rfl ?_
      refine x_aldn qX12_layAll_29 rfl trivial ?_
      refine x_getIe qX12_layAll_30 fX12_13 rfl k1 ?_
      refine x_icmp_ge_nf (tgt := 47) qX12_layAll_33 (by omega) (by omega) (by omega) (by omega) ?_
      refine x_aldn qX12_layAll_36 rfl trivial ?_
      refine x_ildn qX12_layAll_37 rfl ?_
      refine x_cV1 (d' := 3) qX12_layAll_38 cX12_227 rfl ⟨_, rfl, rfl⟩ rfl rfl (Nat.le_of_ble_eq_true rfl) (Nat.le_of_ble_eq_true rfl) (by decide) ?_
      refine c_X12_layWay (MH_FX H F) (HK_FX K F) (by omega) T (fun I2 S2 W2 hI2 hv2 hq2 => ?_)
      refine x_iinc1 qX12_layAll_41 (by decide) (cm_inc _) rfl ?_
      refine x_goto (tgt := 28) qX12_layAll_44 (by omega) ?_
      refine ih (w + 1) I2 (by omega) (T91_fr T (hI2 91 (by decide) (by decide) (by decide))) (fun w' hw' => ?_) (FX_tr F (fun b hb => hI2 b (by omega) (by omega) (by omega)))
      by_cases e : w' = w
      · subst e; exact ⟨S2, W2⟩
      · obtain ⟨a1, a2⟩ := A w' (by omega)
        exact ⟨fun t ht => by rw [hq2 _ (by omega)]; exact a1 t ht, by rw [(hv2 w' e).1]; exact a2.1, by rw [(hv2 w' e).2]; exact a2.2⟩
  have loopA : ∀ m k I', k + m = 16 → (∀ i, i < k → I' 91 i = nI (lst 0 i cs)) → (∀ b, b ≠ 91 → I' b = I b) → cm_Ex l g 4 0 0 mX12_layAll 2 [.ref 73, .int (nI k), .float 0, .float 0, .float 0, .float 0] [] I' L (RR u hr tl) (DD u) Q := by
    intro m
    induction m with
    | zero =>
      intro k I' hk2 hT hI
      refine x_ildn qX12_layAll_2 rfl ?_
      refine x_bipush (v := nI 16) qX12_layAll_3 rfl ?_
      refine x_icmp_ge_nt (tgt := 26) qX12_layAll_5 (by omega) (by omega) (by omega) (by omega) ?_
      refine x_iconst (v := nI 0) qX12_layAll_26 rfl ?_
      refine x_ist1 qX12_layAll_27 (by decide) rfl ?_
      exact loopB (wys mm n) 0 I' (by omega) (fun i hi2 => hT i (by omega)) (fun w' hw' => absurd hw' (by omega)) (fun b hb => hI b (by omega))
    | succ m ih =>
      intro k I' hk2 hT hI
      refine x_ildn qX12_layAll_2 rfl ?_
      refine x_bipush (v := nI 16) qX12_layAll_3 rfl ?_
      refine x_icmp_ge_nf (tgt := 26) qX12_layAll_5 (by omega) (by omega) (by omega) (by omega) ?_
      refine x_aldn qX12_layAll_8 rfl trivial ?_
      refine x_getR qX12_layAll_9 fX12_92 rfl rfl ?_
      refine x_ildn qX12_layAll_12 rfl ?_
      refine x_aldn qX12_layAll_13 rfl trivial ?_
      refine x_iconst (v := nI 0) qX12_layAll_14 rfl ?_
      refine x_ildn qX12_layAll_15 rfl ?_
      refine x_cV2 (d' := 2) qX12_layAll_16 cX12_217 rfl ⟨_, rfl, rfl⟩ rfl rfl (Nat.le_of_ble_eq_true rfl) (Nat.le_of_ble_eq_true rfl) (by decide) ?_
      refine c_X12_last (hx := hx) (cs := cs) (HK_fr K (by rw [hI 73 (by decide)]) (fun b g1 g2 => hI b (by omega))) (Or.inl rfl) (by omega) ?_
      refine x_iast qX12_layAll_19 dd_91 rfl (by omega) (by decide) ?_
      refine x_iinc1 qX12_layAll_20 (by decide) (cm_inc _) rfl ?_
      refine x_goto (tgt := 2) qX12_layAll_23 (by omega) ?_
      refine ih (k + 1) _ (by omega) (fun i hi2 => ?_) (fun b h => by rw [cm_u_ne h]; exact hI b h)
      by_cases e : i = k
      · subst e; exact rdE
      · rw [rdK e]; exact hT i (by omega)
  refine x_iconst (v := nI 0) qX12_layAll_0 rfl ?_
  refine x_ist1 qX12_layAll_1 (by decide) rfl ?_
  exact loopA 16 0 I (by omega) (fun i hi2 => absurd hi2 (by omega)) (fun _ _ => rfl)
end M15
