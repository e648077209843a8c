/-! the reference: which ways live -/
section M17
variable {l : Launch} {g : cm_G} {I : cm_I} {L : cm_L} {hr tl : Option Nat} {Q : cm_Post} {u : Nat} {W c1 : Nat} {fit nx : Nat → Nat → Bool}
/-- what findLive needs -/
def LVp (W c1 : Nat) (fit nx : Nat → Nat → Bool) (I : cm_I) : Prop := I 73 1 = nI W ∧ W ≤ 64 ∧ I 86 0 = nI c1 ∧ c1 ≤ 12 ∧ (∀ r, r < c1 → ∀ w, w < W → I 95 (64 * r + w) = b2I (fit r w)) ∧ ∀ w, w < W → ∀ v, v < W → I 92 (64 * w + v) = b2I (nx w v)
def A96 (W : Nat) (f : Nat → Nat → Bool) (r : Nat) (I : cm_I) : Prop := ∀ w, w < W → I 96 (64 * r + w) = b2I (f r w)
theorem fl_end (P : LVp W c1 fit nx I) (h0 : 0 < c1) (I' : cm_I) (v4 v5 : Value) (hI : ∀ b, b ≠ 96 → I' b = I b) (hA : A96 W (liv fit nx W c1) 0 I') (hQ : Q (some (.int (b2I (tal fit nx W c1)))) I' L (RR u hr tl) (DD u)) : ∀ m w, w + m = W → cm_Ex l g 1 0 0 mX12_findLive 278 [.ref 73, .int (nI c1), .int (b2I (exb (liv fit nx W c1 0) w)), .int (nI w), v4, v5] [] I' L (RR u hr tl) (DD u) Q := by
  obtain ⟨p1, p2, p3, p4, p5, p6⟩ := id P
  have k1 : I' 73 1 = nI W := by rw [hI 73 (by decide)]; exact p1
  intro m
  induction m with
  | zero =>
    intro w hw
    have e : w = W := by omega
    subst e
    rw [tal_liv h0] at hQ
    refine x_ildn qX12_findLive_278 rfl ?_
    refine x_aldn qX12_findLive_279 rfl trivial ?_
    refine x_getIe qX12_findLive_280 fX12_13 rfl k1 ?_
    refine x_icmp_ge_nt (tgt := 315) qX12_findLive_283 (by omega) (by omega) (by omega) (by omega) ?_
    refine x_ildn qX12_findLive_315 rfl ?_
    refine x_iret qX12_findLive_316 rfl (nar_b _) ?_
    exact hQ
  | succ m ih =>
    intro w hw
    have e96 : I' 96 w = b2I (liv fit nx W c1 0 w) := by
      have := hA w (by omega)
      rwa [Nat.mul_zero, Nat.zero_add] at this
    have fin : ∀ b, b = exb (liv fit nx W c1 0) (w + 1) → cm_Ex l g 1 0 0 mX12_findLive 308 [.ref 73, .int (nI c1), .int (b2I (exb (liv fit nx W c1 0) w)), .int (nI w), v4, v5] [.int (b2I b)] I' L (RR u hr tl) (DD u) Q := fun b hb => by
      rw [hb]
      refine x_ist2 qX12_findLive_308 (by decide) rfl ?_
      refine x_iinc3 qX12_findLive_309 (by decide) (cm_inc _) rfl ?_
      refine x_goto (tgt := 278) qX12_findLive_312 (by omega) ?_
      exact ih (w + 1) (by omega)
    refine x_ildn qX12_findLive_278 rfl ?_
    refine x_aldn qX12_findLive_279 rfl trivial ?_
    refine x_getIe qX12_findLive_280 fX12_13 rfl k1 ?_
    refine x_icmp_ge_nf (tgt := 315) qX12_findLive_283 (by omega) (by omega) (by omega) (by omega) ?_
    refine x_ildn qX12_findLive_286 rfl ?_
    refine x_if_le_n (tgt := 315) qX12_findLive_287 (by omega) (by omega) (fun e => absurd e (by omega)) (fun _ => ?_)
    refine x_ildn qX12_findLive_290 rfl ?_
    rw [exb_s] at fin
    cases hx : exb (liv fit nx W c1 0) w with
    | true =>
      rw [hx] at fin
      refine x_if_ne_t (tgt := 303) qX12_findLive_291 (by omega) (by decide) ?_
      refine x_iconst (v := nI 1) qX12_findLive_303 rfl ?_
      refine x_goto (tgt := 308) qX12_findLive_304 (by omega) ?_
      exact fin true rfl
    | false =>
      rw [hx] at fin
      refine x_if_ne_f (tgt := 303) qX12_findLive_291 (by omega) (by decide) ?_
      refine x_aldn qX12_findLive_294 rfl trivial ?_
      refine x_getR qX12_findLive_295 fX12_108 rfl rfl ?_
      refine x_ildn qX12_findLive_298 rfl ?_
      refine x_zalde qX12_findLive_299 dd_96 rfl (by omega) (by decide) e96 ?_
      cases hl : liv fit nx W c1 0 w with
      | true =>
        refine x_if_eq_f (tgt := 307) qX12_findLive_300 (by omega) (by decide) ?_
        refine x_iconst (v := nI 1) qX12_findLive_303 rfl ?_
        refine x_goto (tgt := 308) qX12_findLive_304 (by omega) ?_
        exact fin true (by rw [hl]; rfl)
      | false =>
        refine x_if_eq_t (tgt := 307) qX12_findLive_300 (by omega) (by decide) ?_
        refine x_iconst (v := nI 0) qX12_findLive_307 rfl ?_
        exact fin false (by rw [hl]; rfl)
theorem fl_back (P : LVp W c1 fit nx I) (h0 : 0 < c1) (hQ : ∀ I', (∀ r, r < c1 → A96 W (liv fit nx W c1) r I') → (∀ b, b ≠ 96 → I' b = I b) → Q (some (.int (b2I (tal fit nx W c1)))) I' L (RR u hr tl) (DD u)) : ∀ j (v3 v4 v5 : Value) I', j + 1 ≤ c1 → (∀ r, j ≤ r → r < c1 → A96 W (liv fit nx W c1) r I') → (∀ r, r < j → A96 W (fwd fit nx W) r I') → (∀ b, b ≠ 96 → I' b = I b) → cm_Ex l g 1 0 0 mX12_findLive 148 [.ref 73, .int (nI c1), .int (nI j + Int32.ofInt (-1)), v3, v4, v5] [] I' L (RR u hr tl) (DD u) Q := by
  obtain ⟨p1, p2, p3, p4, p5, p6⟩ := id P
  intro j
  induction j with
  | zero =>
    intro v3 v4 v5 I' hj hL hF hI
    refine x_ildn qX12_findLive_148 rfl ?_
    refine x_if_lt_t (tgt := 266) qX12_findLive_149 (by omega) (by decide) ?_
    refine x_ildn qX12_findLive_266 rfl ?_
    refine x_if_ne_t (tgt := 274) qX12_findLive_267 (by omega) (nI_ne0 h0 (by omega)) ?_
    refine x_iconst (v := nI 0) qX12_findLive_274 rfl ?_
    refine x_ist2 qX12_findLive_275 (by decide) rfl ?_
    refine x_iconst (v := nI 0) qX12_findLive_276 rfl ?_
    refine x_ist3 qX12_findLive_277 (by decide) rfl ?_
    exact fl_end P h0 I' _ _ hI (hL 0 (by omega) h0) (hQ I' (fun r hr2 => hL r (by omega) hr2) hI) W 0 (by omega)
  | succ j ih =>
    intro v3 v4 v5 I' hj hL hF hI
    rw [cm_dec]
    have mid : ∀ m w (v4 v5 : Value) I', w + m = W → (∀ r, j + 1 ≤ r → r < c1 → A96 W (liv fit nx W c1) r I') → (∀ r, r < j → A96 W (fwd fit nx W) r I') → (∀ w', w' < w → I' 96 (64 * j + w') = b2I (liv fit nx W c1 j w')) → (∀ w', w ≤ w' → w' < W → I' 96 (64 * j + w') = b2I (fwd fit nx W j w')) → (∀ b, b ≠ 96 → I' b = I b) → cm_Ex l g 1 0 0 mX12_findLive 154 [.ref 73, .int (nI c1), .int (nI j), .int (nI w), v4, v5] [] I' L (RR u hr tl) (DD u) Q := by
      intro m
      induction m with
      | zero =>
        intro w v4 v5 I' hw hL hF hP hR hI
        have k1 : I' 73 1 = nI W := by rw [hI 73 (by decide)]; exact p1
        refine x_ildn qX12_findLive_154 rfl ?_
        refine x_aldn qX12_findLive_155 rfl trivial ?_
        refine x_getIe qX12_findLive_156 fX12_13 rfl k1 ?_
        refine x_icmp_ge_nt (tgt := 260) qX12_findLive_159 (by omega) (by omega) (by omega) (by omega) ?_
        refine x_iinc2 qX12_findLive_260 (by decide) rfl rfl ?_
        refine x_goto (tgt := 148) qX12_findLive_263 (by omega) ?_
        refine ih _ _ _ I' (by omega) (fun r h1 h2 => ?_) hF hI
        by_cases e : r = j
        · subst e; exact fun w' hw' => hP w' (by omega)
        · exact hL r (by omega) h2
      | succ m ih2 =>
        intro w v4 v5 I' hw hL hF hP hR hI
        have k1 : I' 73 1 = nI W := by rw [hI 73 (by decide)]; exact p1
        have k96 := hR w (Nat.le_refl _) (by omega)
        have els := liv_succ (fit := fit) (nx := nx) (W := W) (len := c1) (r := j) (w := w) (by omega)
        have fin : ∀ b (v5 : Value), b = liv fit nx W c1 j w → cm_Ex l g 1 0 0 mX12_findLive 241 [.ref 73, .int (nI c1), .int (nI j), .int (nI w), .int (b2I b), v5] [] I' L (RR u hr tl) (DD u) Q := fun b v5 hb => by
          rw [hb]
          refine x_aldn qX12_findLive_241 rfl trivial ?_
          refine x_getR qX12_findLive_242 fX12_108 rfl rfl ?_
          refine x_bipush (v := nI 64) qX12_findLive_245 rfl ?_
          refine x_ildn qX12_findLive_247 rfl ?_
          refine x_imul_n qX12_findLive_248 ?_
          refine x_ildn qX12_findLive_249 rfl ?_
          refine x_iadd_n qX12_findLive_250 ?_
          refine x_ild qX12_findLive_251 rfl ?_
          refine x_zast qX12_findLive_253 dd_96 rfl (by omega) (by decide) (nar_b _) ?_
          refine x_iinc3 qX12_findLive_254 (by decide) (cm_inc _) rfl ?_
          refine x_goto (tgt := 154) qX12_findLive_257 (by omega) ?_
          refine ih2 (w + 1) _ _ _ (by omega) (fun r h1 h2 w' hw' => by rw [rdK (by omega)]; exact hL r h1 h2 w' hw') (fun r h1 w' hw' => by rw [rdK (by omega)]; exact hF r h1 w' hw') (fun w' hw' => ?_) (fun w' h1 h2 => by rw [rdK (by omega)]; exact hR w' (by omega) h2) (fun b g1 => by rw [cm_u_ne g1]; exact hI b g1)
          by_cases e : w' = w
          · subst e; exact rdE
          · rw [rdK (by omega)]; exact hP w' (by omega)
        have inn : fwd fit nx W j w = true → ∀ k v, v + k = W → cm_Ex l g 1 0 0 mX12_findLive 168 [.ref 73, .int (nI c1), .int (nI j), .int (nI w), .int (b2I (exb (fun v => liv fit nx W c1 (j + 1) v && nx w v) v)), .int (nI v)] [] I' L (RR u hr tl) (DD u) Q := by
          intro hfw k
          rw [hfw, Bool.true_and] at els
          rw [hfw] at k96
          induction k with
          | zero =>
            intro v hv
            have e : v = W := by omega
            subst e
            refine x_ild qX12_findLive_168 rfl ?_
            refine x_aldn qX12_findLive_170 rfl trivial ?_
            refine x_getIe qX12_findLive_171 fX12_13 rfl k1 ?_
            refine x_icmp_ge_nt (tgt := 241) qX12_findLive_174 (by omega) (by omega) (by omega) (by omega) ?_
            exact fin _ _ els.symm
          | succ k ih3 =>
            intro v hv
            have e1 : I' 96 (64 * (j + 1) + v) = b2I (liv fit nx W c1 (j + 1) v) := hL (j + 1) (Nat.le_refl _) (by omega) v (by omega)
            have e2 : I' 92 (64 * w + v) = b2I (nx w v) := by rw [hI 92 (by decide)]; exact p6 w (by omega) v (by omega)
            refine x_ild qX12_findLive_168 rfl ?_
            refine x_aldn qX12_findLive_170 rfl trivial ?_
            refine x_getIe qX12_findLive_171 fX12_13 rfl k1 ?_
            refine x_icmp_ge_nf (tgt := 241) qX12_findLive_174 (by omega) (by omega) (by omega) (by omega) ?_
            refine x_aldn qX12_findLive_177 rfl trivial ?_
            refine x_getR qX12_findLive_178 fX12_108 rfl rfl ?_
            refine x_bipush (v := nI 64) qX12_findLive_181 rfl ?_
            refine x_ildn qX12_findLive_183 rfl ?_
            refine x_imul_n qX12_findLive_184 ?_
            refine x_ildn qX12_findLive_185 rfl ?_
            refine x_iadd_n qX12_findLive_186 ?_
            refine x_zalde qX12_findLive_187 dd_96 rfl (by omega) (by decide) k96 ?_
            refine x_if_eq_f (tgt := 241) qX12_findLive_188 (by omega) (by decide) ?_
            refine x_ild qX12_findLive_191 rfl ?_
            cases hx : exb (fun v => liv fit nx W c1 (j + 1) v && nx w v) v with
            | true =>
              refine x_if_ne_t (tgt := 241) qX12_findLive_193 (by omega) (by decide) ?_
              exact fin true _ (els.trans (exb_mono hx (by omega))).symm
            | false =>
              refine x_if_ne_f (tgt := 241) qX12_findLive_193 (by omega) (by decide) ?_
              have fin2 : ∀ b, b = (liv fit nx W c1 (j + 1) v && nx w v) → cm_Ex l g 1 0 0 mX12_findLive 233 [.ref 73, .int (nI c1), .int (nI j), .int (nI w), .int (b2I false), .int (nI v)] [.int (b2I b)] I' L (RR u hr tl) (DD u) Q := fun b hb => by
                have q := ih3 (v + 1) (by omega)
                rw [exb_s, hx, Bool.false_or] at q
                rw [hb]
                refine x_ist4 qX12_findLive_233 (by decide) rfl ?_
                refine x_iinc5 qX12_findLive_235 (by decide) (cm_inc _) rfl ?_
                refine x_goto (tgt := 168) qX12_findLive_238 (by omega) ?_
                exact q
              refine x_aldn qX12_findLive_196 rfl trivial ?_
              refine x_getR qX12_findLive_197 fX12_108 rfl rfl ?_
              refine x_bipush (v := nI 64) qX12_findLive_200 rfl ?_
              refine x_ildn qX12_findLive_202 rfl ?_
              refine x_iconst (v := nI 1) qX12_findLive_203 rfl ?_
              refine x_iadd_n qX12_findLive_204 ?_
              refine x_imul_n qX12_findLive_205 ?_
              refine x_ild qX12_findLive_206 rfl ?_
              refine x_iadd_n qX12_findLive_208 ?_
              refine x_zalde qX12_findLive_209 dd_96 rfl (by omega) (by decide) e1 ?_
              cases hl : liv fit nx W c1 (j + 1) v with
              | false =>
                refine x_if_eq_t (tgt := 232) qX12_findLive_210 (by omega) (by decide) ?_
                refine x_iconst (v := nI 0) qX12_findLive_232 rfl ?_
                exact fin2 false (by rw [hl]; rfl)
              | true =>
                refine x_if_eq_f (tgt := 232) qX12_findLive_210 (by omega) (by decide) ?_
                refine x_aldn qX12_findLive_213 rfl trivial ?_
                refine x_getR qX12_findLive_214 fX12_95 rfl rfl ?_
                refine x_bipush (v := nI 64) qX12_findLive_217 rfl ?_
                refine x_ildn qX12_findLive_219 rfl ?_
                refine x_imul_n qX12_findLive_220 ?_
                refine x_ild qX12_findLive_221 rfl ?_
                refine x_iadd_n qX12_findLive_223 ?_
                refine x_zalde qX12_findLive_224 dd_92 rfl (by omega) (by decide) e2 ?_
                cases hn : nx w v with
                | false =>
                  refine x_if_eq_t (tgt := 232) qX12_findLive_225 (by omega) (by decide) ?_
                  refine x_iconst (v := nI 0) qX12_findLive_232 rfl ?_
                  exact fin2 false (by rw [hl, hn]; rfl)
                | true =>
                  refine x_if_eq_f (tgt := 232) qX12_findLive_225 (by omega) (by decide) ?_
                  refine x_iconst (v := nI 1) qX12_findLive_228 rfl ?_
                  refine x_goto (tgt := 233) qX12_findLive_229 (by omega) ?_
                  exact fin2 true (by rw [hl, hn]; rfl)
        refine x_ildn qX12_findLive_154 rfl ?_
        refine x_aldn qX12_findLive_155 rfl trivial ?_
        refine x_getIe qX12_findLive_156 fX12_13 rfl k1 ?_
        refine x_icmp_ge_nf (tgt := 260) qX12_findLive_159 (by omega) (by omega) (by omega) (by omega) ?_
        refine x_iconst (v := nI 0) qX12_findLive_162 rfl ?_
        refine x_ist4 qX12_findLive_163 (by decide) rfl ?_
        refine x_iconst (v := nI 0) qX12_findLive_165 rfl ?_
        refine x_ist5 qX12_findLive_166 (by decide) rfl ?_
        cases hfw : fwd fit nx W j w with
        | true => exact inn hfw W 0 (by omega)
        | false =>
          rw [hfw] at k96 els
          refine x_ild qX12_findLive_168 rfl ?_
          refine x_aldn qX12_findLive_170 rfl trivial ?_
          refine x_getIe qX12_findLive_171 fX12_13 rfl k1 ?_
          refine x_icmp_ge_nf (tgt := 241) qX12_findLive_174 (by omega) (by omega) (by omega) (by omega) ?_
          refine x_aldn qX12_findLive_177 rfl trivial ?_
          refine x_getR qX12_findLive_178 fX12_108 rfl rfl ?_
          refine x_bipush (v := nI 64) qX12_findLive_181 rfl ?_
          refine x_ildn qX12_findLive_183 rfl ?_
          refine x_imul_n qX12_findLive_184 ?_
          refine x_ildn qX12_findLive_185 rfl ?_
          refine x_iadd_n qX12_findLive_186 ?_
          refine x_zalde qX12_findLive_187 dd_96 rfl (by omega) (by decide) k96 ?_
          refine x_if_eq_t (tgt := 241) qX12_findLive_188 (by omega) (by decide) ?_
          exact fin false _ els.symm
    refine x_ildn qX12_findLive_148 rfl ?_
    refine x_if_lt_nf (tgt := 266) qX12_findLive_149 (by omega) (by omega) ?_
    refine x_iconst (v := nI 0) qX12_findLive_152 rfl ?_
    refine x_ist3 qX12_findLive_153 (by decide) rfl ?_
    exact mid W 0 _ _ I' (by omega) hL (fun r h1 => hF r (by omega)) (fun w' hw' => absurd hw' (by omega)) (fun w' _ h2 => hF j (by omega) w' h2) hI
theorem c_X12_findLive (P : LVp W c1 fit nx I) (hQ : ∀ I', (∀ r, r < c1 → A96 W (liv fit nx W c1) r I') → (∀ b, b ≠ 96 → I' b = I b) → Q (some (.int (b2I (tal fit nx W c1)))) I' L (RR u hr tl) (DD u)) : cm_Ex l g 1 0 0 mX12_findLive 0 [.ref 73, .float 0, .float 0, .float 0, .float 0, .float 0] [] I L (RR u hr tl) (DD u) Q := by
  obtain ⟨p1, p2, p3, p4, p5, p6⟩ := id P
  by_cases h0 : c1 = 0
  · have k1 := p1
    have et : tal fit nx W c1 = true := by unfold tal; rw [decide_eq_true h0]; rfl
    rw [et] at hQ
    have hq := hQ I (fun r hr2 => absurd hr2 (by omega)) (fun _ _ => rfl)
    rw [h0] at p3
    refine x_aldn qX12_findLive_0 rfl trivial ?_
    refine x_getR qX12_findLive_1 fX12_77 rfl rfl ?_
    refine x_iconst (v := nI 0) qX12_findLive_4 rfl ?_
    refine x_ialde qX12_findLive_5 dd_86 rfl (by omega) (by decide) p3 ?_
    refine x_ist1 qX12_findLive_6 (by decide) rfl ?_
    refine x_iconst (v := nI 0) qX12_findLive_7 rfl ?_
    refine x_ist2 qX12_findLive_8 (by decide) rfl ?_
    refine x_ildn qX12_findLive_9 rfl ?_
    refine x_ildn qX12_findLive_10 rfl ?_
    refine x_icmp_ge_nt (tgt := 144) qX12_findLive_11 (by omega) (by omega) (by omega) (by omega) ?_
    refine x_ildn qX12_findLive_144 rfl ?_
    refine x_iconst (v := nI 2) qX12_findLive_145 rfl ?_
    refine x_isub qX12_findLive_146 ?_
    refine x_ist2 qX12_findLive_147 (by decide) rfl ?_
    refine x_ildn qX12_findLive_148 rfl ?_
    refine x_if_lt_t (tgt := 266) qX12_findLive_149 (by omega) (by decide) ?_
    refine x_ildn qX12_findLive_266 rfl ?_
    refine x_if_ne_f (tgt := 274) qX12_findLive_267 (by omega) (by decide) ?_
    refine x_iconst (v := nI 1) qX12_findLive_270 rfl ?_
    refine x_goto (tgt := 275) qX12_findLive_271 (by omega) ?_
    refine x_ist2 qX12_findLive_275 (by decide) rfl ?_
    refine x_iconst (v := nI 0) qX12_findLive_276 rfl ?_
    refine x_ist3 qX12_findLive_277 (by decide) rfl ?_
    refine x_ildn qX12_findLive_278 rfl ?_
    refine x_aldn qX12_findLive_279 rfl trivial ?_
    refine x_getIe qX12_findLive_280 fX12_13 rfl k1 ?_
    refine x_icmp_ge_n (tgt := 315) qX12_findLive_283 (by omega) (by omega) (by omega) (fun h => ?_) (fun h => ?_)
    · refine x_ildn qX12_findLive_315 rfl ?_
      refine x_iret qX12_findLive_316 rfl rfl ?_
      exact hq
    · refine x_ildn qX12_findLive_286 rfl ?_
      refine x_if_le_t (tgt := 315) qX12_findLive_287 (by omega) (by decide) ?_
      refine x_ildn qX12_findLive_315 rfl ?_
      refine x_iret qX12_findLive_316 rfl rfl ?_
      exact hq
  · have hpos : 0 < c1 := by omega
    have fwdL : ∀ m r (v3 v4 v5 : Value) I', r + m = c1 → (∀ r', r' < r → A96 W (fwd fit nx W) r' I') → (∀ b, b ≠ 96 → I' b = I b) → cm_Ex l g 1 0 0 mX12_findLive 9 [.ref 73, .int (nI c1), .int (nI r), v3, v4, v5] [] I' L (RR u hr tl) (DD u) Q := by
      intro m
      induction m with
      | zero =>
        intro r v3 v4 v5 I' hre hF hI
        refine x_ildn qX12_findLive_9 rfl ?_
        refine x_ildn qX12_findLive_10 rfl ?_
        refine x_icmp_ge_nt (tgt := 144) qX12_findLive_11 (by omega) (by omega) (by omega) (by omega) ?_
        obtain ⟨k, rfl⟩ : ∃ k, c1 = k + 1 := ⟨c1 - 1, by omega⟩
        refine x_ildn qX12_findLive_144 rfl ?_
        refine x_iconst (v := nI 2) qX12_findLive_145 rfl ?_
        refine x_isub qX12_findLive_146 ?_
        rw [dec2]
        refine x_ist2 qX12_findLive_147 (by decide) rfl ?_
        refine fl_back P hpos hQ k _ _ _ I' (by omega) (fun r' h1 h2 w hw => ?_) (fun r' h1 => hF r' (by omega)) hI
        have e : r' = k + 1 - 1 := by omega
        rw [e, liv_last]
        exact hF (k + 1 - 1) (by omega) w hw
      | succ m ih =>
        intro r v3 v4 v5 I' hre hF hI
        have mid : ∀ k w (v4 v5 : Value) I', w + k = W → (∀ r', r' < r → A96 W (fwd fit nx W) r' I') → (∀ w', w' < w → I' 96 (64 * r + w') = b2I (fwd fit nx W r w')) → (∀ b, b ≠ 96 → I' b = I b) → cm_Ex l g 1 0 0 mX12_findLive 16 [.ref 73, .int (nI c1), .int (nI r), .int (nI w), v4, v5] [] I' L (RR u hr tl) (DD u) Q := by
          intro k
          induction k with
          | zero =>
            intro w v4 v5 I' hw hF hP hI
            have k1 : I' 73 1 = nI W := by rw [hI 73 (by decide)]; exact p1
            refine x_ildn qX12_findLive_16 rfl ?_
            refine x_aldn qX12_findLive_17 rfl trivial ?_
            refine x_getIe qX12_findLive_18 fX12_13 rfl k1 ?_
            refine x_icmp_ge_nt (tgt := 138) qX12_findLive_21 (by omega) (by omega) (by omega) (by omega) ?_
            refine x_iinc2 qX12_findLive_138 (by decide) (cm_inc _) rfl ?_
            refine x_goto (tgt := 9) qX12_findLive_141 (by omega) ?_
            refine ih (r + 1) _ _ _ I' (by omega) (fun r' h1 => ?_) hI
            by_cases e : r' = r
            · subst e; exact fun w' hw' => hP w' (by omega)
            · exact hF r' (by omega)
          | succ k ih2 =>
            intro w v4 v5 I' hw hF hP hI
            have k1 : I' 73 1 = nI W := by rw [hI 73 (by decide)]; exact p1
            have k95 : I' 95 (64 * r + w) = b2I (fit r w) := by rw [hI 95 (by decide)]; exact p5 r (by omega) w (by omega)
            have fin : ∀ b (v5 : Value), (b && fit r w) = fwd fit nx W r w → cm_Ex l g 1 0 0 mX12_findLive 97 [.ref 73, .int (nI c1), .int (nI r), .int (nI w), .int (b2I b), v5] [] I' L (RR u hr tl) (DD u) Q := fun b v5 hb => by
              have fin2 : ∀ x, x = fwd fit nx W r w → cm_Ex l g 1 0 0 mX12_findLive 131 [.ref 73, .int (nI c1), .int (nI r), .int (nI w), .int (b2I b), v5] [.int (b2I x), .int (nI (64 * r + w)), .ref 96] I' L (RR u hr tl) (DD u) Q := fun x hx => by
                rw [hx]
                refine x_zast qX12_findLive_131 dd_96 rfl (by omega) (by decide) (nar_b _) ?_
                refine x_iinc3 qX12_findLive_132 (by decide) (cm_inc _) rfl ?_
                refine x_goto (tgt := 16) qX12_findLive_135 (by omega) ?_
                refine ih2 (w + 1) _ _ _ (by omega) (fun r' h1 w' hw' => by rw [rdK (by omega)]; exact hF r' h1 w' hw') (fun w' hw' => ?_) (fun b g1 => by rw [cm_u_ne g1]; exact hI b g1)
                by_cases e : w' = w
                · subst e; exact rdE
                · rw [rdK (by omega)]; exact hP w' (by omega)
              refine x_aldn qX12_findLive_97 rfl trivial ?_
              refine x_getR qX12_findLive_98 fX12_108 rfl rfl ?_
              refine x_bipush (v := nI 64) qX12_findLive_101 rfl ?_
              refine x_ildn qX12_findLive_103 rfl ?_
              refine x_imul_n qX12_findLive_104 ?_
              refine x_ildn qX12_findLive_105 rfl ?_
              refine x_iadd_n qX12_findLive_106 ?_
              refine x_ild qX12_findLive_107 rfl ?_
              cases b with
              | false =>
                refine x_if_eq_t (tgt := 130) qX12_findLive_109 (by omega) (by decide) ?_
                refine x_iconst (v := nI 0) qX12_findLive_130 rfl ?_
                exact fin2 false (by rw [← hb]; rfl)
              | true =>
                refine x_if_eq_f (tgt := 130) qX12_findLive_109 (by omega) (by decide) ?_
                refine x_aldn qX12_findLive_112 rfl trivial ?_
                refine x_getR qX12_findLive_113 fX12_105 rfl rfl ?_
                refine x_bipush (v := nI 64) qX12_findLive_116 rfl ?_
                refine x_ildn qX12_findLive_118 rfl ?_
                refine x_imul_n qX12_findLive_119 ?_
                refine x_ildn qX12_findLive_120 rfl ?_
                refine x_iadd_n qX12_findLive_121 ?_
                refine x_zalde qX12_findLive_122 dd_95 rfl (by omega) (by decide) k95 ?_
                cases hf : fit r w with
                | false =>
                  refine x_if_eq_t (tgt := 130) qX12_findLive_123 (by omega) (by decide) ?_
                  refine x_iconst (v := nI 0) qX12_findLive_130 rfl ?_
                  exact fin2 false (by rw [← hb, hf]; rfl)
                | true =>
                  refine x_if_eq_f (tgt := 130) qX12_findLive_123 (by omega) (by decide) ?_
                  refine x_iconst (v := nI 1) qX12_findLive_126 rfl ?_
                  refine x_goto (tgt := 131) qX12_findLive_127 (by omega) ?_
                  exact fin2 true (by rw [← hb, hf]; rfl)
            refine x_ildn qX12_findLive_16 rfl ?_
            refine x_aldn qX12_findLive_17 rfl trivial ?_
            refine x_getIe qX12_findLive_18 fX12_13 rfl k1 ?_
            refine x_icmp_ge_nf (tgt := 138) qX12_findLive_21 (by omega) (by omega) (by omega) (by omega) ?_
            refine x_ildn qX12_findLive_24 rfl ?_
            by_cases hr0 : r = 0
            · subst hr0
              refine x_if_ne_f (tgt := 32) qX12_findLive_25 (by omega) (by decide) ?_
              refine x_iconst (v := nI 1) qX12_findLive_28 rfl ?_
              refine x_goto (tgt := 33) qX12_findLive_29 (by omega) ?_
              refine x_ist4 qX12_findLive_33 (by decide) rfl ?_
              refine x_iconst (v := nI 0) qX12_findLive_35 rfl ?_
              refine x_ist5 qX12_findLive_36 (by decide) rfl ?_
              refine x_ild qX12_findLive_38 rfl ?_
              refine x_aldn qX12_findLive_40 rfl trivial ?_
              refine x_getIe qX12_findLive_41 fX12_13 rfl k1 ?_
              refine x_icmp_ge_nf (tgt := 97) qX12_findLive_44 (by omega) (by omega) (by omega) (by omega) ?_
              refine x_ild qX12_findLive_47 rfl ?_
              refine x_if_ne_t (tgt := 97) qX12_findLive_49 (by omega) (by decide) ?_
              exact fin true _ (Bool.true_and _)
            · obtain ⟨q, rfl⟩ : ∃ q, r = q + 1 := ⟨r - 1, by omega⟩
              have ef : fwd fit nx W (q + 1) w = (exb (fun v => fwd fit nx W q v && nx v w) W && fit (q + 1) w) := by
                show (fit (q + 1) w && exb (fun v => fwd fit nx W q v && nx v w) W) = _
                rw [Bool.and_comm]
              have inn : ∀ k v, v + k = W → cm_Ex l g 1 0 0 mX12_findLive 38 [.ref 73, .int (nI c1), .int (nI (q + 1)), .int (nI w), .int (b2I (exb (fun v => fwd fit nx W q v && nx v w) v)), .int (nI v)] [] I' L (RR u hr tl) (DD u) Q := by
                intro k
                induction k with
                | zero =>
                  intro v hv
                  have e : v = W := by omega
                  subst e
                  refine x_ild qX12_findLive_38 rfl ?_
                  refine x_aldn qX12_findLive_40 rfl trivial ?_
                  refine x_getIe qX12_findLive_41 fX12_13 rfl k1 ?_
                  refine x_icmp_ge_nt (tgt := 97) qX12_findLive_44 (by omega) (by omega) (by omega) (by omega) ?_
                  exact fin _ _ ef.symm
                | succ k ih3 =>
                  intro v hv
                  have e1 : I' 96 (64 * (q + 1 - 1) + v) = b2I (fwd fit nx W q v) := hF q (by omega) v (by omega)
                  have e2 : I' 92 (64 * v + w) = b2I (nx v w) := by rw [hI 92 (by decide)]; exact p6 v (by omega) w (by omega)
                  refine x_ild qX12_findLive_38 rfl ?_
                  refine x_aldn qX12_findLive_40 rfl trivial ?_
                  refine x_getIe qX12_findLive_41 fX12_13 rfl k1 ?_
                  refine x_icmp_ge_nf (tgt := 97) qX12_findLive_44 (by omega) (by omega) (by omega) (by omega) ?_
                  refine x_ild qX12_findLive_47 rfl ?_
                  cases hx : exb (fun v => fwd fit nx W q v && nx v w) v with
                  | true =>
                    refine x_if_ne_t (tgt := 97) qX12_findLive_49 (by omega) (by decide) ?_
                    exact fin true _ (by rw [ef, exb_mono hx (by omega)])
                  | false =>
                    have fin2 : ∀ b, b = (fwd fit nx W q v && nx v w) → cm_Ex l g 1 0 0 mX12_findLive 89 [.ref 73, .int (nI c1), .int (nI (q + 1)), .int (nI w), .int (b2I false), .int (nI v)] [.int (b2I b)] I' L (RR u hr tl) (DD u) Q := fun b hb => by
                      have q2 := ih3 (v + 1) (by omega)
                      rw [exb_s, hx, Bool.false_or] at q2
                      rw [hb]
                      refine x_ist4 qX12_findLive_89 (by decide) rfl ?_
                      refine x_iinc5 qX12_findLive_91 (by decide) (cm_inc _) rfl ?_
                      refine x_goto (tgt := 38) qX12_findLive_94 (by omega) ?_
                      exact q2
                    refine x_if_ne_f (tgt := 97) qX12_findLive_49 (by omega) (by decide) ?_
                    refine x_aldn qX12_findLive_52 rfl trivial ?_
                    refine x_getR qX12_findLive_53 fX12_108 rfl rfl ?_
                    refine x_bipush (v := nI 64) qX12_findLive_56 rfl ?_
                    refine x_ildn qX12_findLive_58 rfl ?_
                    refine x_iconst (v := nI 1) qX12_findLive_59 rfl ?_
                    refine x_isub_n qX12_findLive_60 (by omega) ?_
                    refine x_imul_n qX12_findLive_61 ?_
                    refine x_ild qX12_findLive_62 rfl ?_
                    refine x_iadd_n qX12_findLive_64 ?_
                    refine x_zalde qX12_findLive_65 dd_96 rfl (by omega) (by decide) e1 ?_
                    cases hl : fwd fit nx W q v with
                    | false =>
                      refine x_if_eq_t (tgt := 88) qX12_findLive_66 (by omega) (by decide) ?_
                      refine x_iconst (v := nI 0) qX12_findLive_88 rfl ?_
                      exact fin2 false (by rw [hl]; rfl)
                    | true =>
                      refine x_if_eq_f (tgt := 88) qX12_findLive_66 (by omega) (by decide) ?_
                      refine x_aldn qX12_findLive_69 rfl trivial ?_
                      refine x_getR qX12_findLive_70 fX12_95 rfl rfl ?_
                      refine x_bipush (v := nI 64) qX12_findLive_73 rfl ?_
                      refine x_ild qX12_findLive_75 rfl ?_
                      refine x_imul_n qX12_findLive_77 ?_
                      refine x_ildn qX12_findLive_78 rfl ?_
                      refine x_iadd_n qX12_findLive_79 ?_
                      refine x_zalde qX12_findLive_80 dd_92 rfl (by omega) (by decide) e2 ?_
                      cases hn : nx v w with
                      | false =>
                        refine x_if_eq_t (tgt := 88) qX12_findLive_81 (by omega) (by decide) ?_
                        refine x_iconst (v := nI 0) qX12_findLive_88 rfl ?_
                        exact fin2 false (by rw [hl, hn]; rfl)
                      | true =>
                        refine x_if_eq_f (tgt := 88) qX12_findLive_81 (by omega) (by decide) ?_
                        refine x_iconst (v := nI 1) qX12_findLive_84 rfl ?_
                        refine x_goto (tgt := 89) qX12_findLive_85 (by omega) ?_
                        exact fin2 true (by rw [hl, hn]; rfl)
              refine x_if_ne_t (tgt := 32) qX12_findLive_25 (by omega) (nI_ne0 (by omega) (by omega)) ?_
              refine x_iconst (v := nI 0) qX12_findLive_32 rfl ?_
              refine x_ist4 qX12_findLive_33 (by decide) rfl ?_
              refine x_iconst (v := nI 0) qX12_findLive_35 rfl ?_
              refine x_ist5 qX12_findLive_36 (by decide) rfl ?_
              exact inn W 0 (by omega)
        refine x_ildn qX12_findLive_9 rfl ?_
        refine x_ildn qX12_findLive_10 rfl ?_
        refine x_icmp_ge_nf (tgt := 144) qX12_findLive_11 (by omega) (by omega) (by omega) (by omega) ?_
        refine x_iconst (v := nI 0) qX12_findLive_14 rfl ?_
        refine x_ist3 qX12_findLive_15 (by decide) rfl ?_
        exact mid W 0 _ _ I' (by omega) hF (fun w' hw' => absurd hw' (by omega)) hI
    refine x_aldn qX12_findLive_0 rfl trivial ?_
    refine x_getR qX12_findLive_1 fX12_77 rfl rfl ?_
    refine x_iconst (v := nI 0) qX12_findLive_4 rfl ?_
    refine x_ialde qX12_findLive_5 dd_86 rfl (by omega) (by decide) p3 ?_
    refine x_ist1 qX12_findLive_6 (by decide) rfl ?_
    refine x_iconst (v := nI 0) qX12_findLive_7 rfl ?_
    refine x_ist2 qX12_findLive_8 (by decide) rfl ?_
    exact fwdL c1 0 _ _ _ I (by omega) (fun r' h1 => absurd h1 (by omega)) (fun _ _ => rfl)
end M17
