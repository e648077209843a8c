/-! the law's calls, one by one -/
theorem lgs (v : Int64) : lg_cmp v v = 0 := by
  unfold lg_cmp
  simp
def LN (l : Launch) (g : cm_G) (m k : Nat) (Q : cm_Post) : Prop := ∀ (n : Nat) (kd mm : Nat → Nat) (len : Nat) (tx : Nat → Nat) (hs : List (List Cls)) (hx c1 : Nat) (w1 : Nat → Nat) (c2 : Nat) (w2 : Nat → Nat) (im : IM) (s : List Nat) (tp : TP) (I : cm_I) (L : cm_L) (hr tl : Option Nat), CI n kd mm len tx hs hx c1 w1 c2 w2 im s tp I L → MI n kd mm len tx hs hx c1 w1 c2 w2 im s tp I L → (∀ p, p < 6 → TBp (tp p)) → cm_Ex l g 40 m (3 * m) mL_law 1032 [.retAddr 3, .ref 0, .ref 73, .int (nI (6 * k))] [] I L (RR n hr tl) (DD n) Q
theorem TB_tape {tp : TP} {sr m : Int32} {p0 : Nat} (T : ∀ p, p < 6 → TBp (tp p)) : ∀ p, p < 6 → TBp (fuT tp p0 (tapV sr m) p) := fun p hp => by
  unfold fuT
  by_cases e : p = p0
  · rw [if_pos e]
    intro _ j _
    have e0 : (tapV sr m).2.2 j = 0 := by unfold tapV; split <;> rfl
    rw [e0]
    decide
  · rw [if_neg e]; exact T p hp
theorem cut_byte (x : Int64) : -128 ≤ (cutf 0 x).toInt ∧ (cutf 0 x).toInt ≤ 127 := by
  unfold cutf
  rw [if_pos rfl, Int32.toInt_toInt64, Int8.toInt_toInt32]
  have h1 := Int8.le_toInt x.toInt32.toInt8
  have h2 := Int8.toInt_lt x.toInt32.toInt8
  omega
theorem TB_item {tp : TP} {p0 i0 : Nat} {x : Int64} (T : ∀ p, p < 6 → TBp (tp p)) : ∀ p, p < 6 → TBp (fuT tp p0 (iteV (tp p0) i0 x) p) := fun p hp => by
  unfold fuT
  by_cases e : p = p0
  · rw [if_pos e]
    subst e
    intro h1 j hj
    have h1' : (tp p).1 = 1 := h1
    show -128 ≤ (if j = i0 then cutf ((tp p).1 - 1) x else (tp p).2.2 j).toInt ∧ (if j = i0 then cutf ((tp p).1 - 1) x else (tp p).2.2 j).toInt ≤ 127
    by_cases ej : j = i0
    · rw [if_pos ej, h1']
      exact cut_byte x
    · rw [if_neg ej]
      exact T p hp h1' j hj
  · rw [if_neg e]; exact T p hp
theorem TB_shift {tp : TP} {t i o j m : Int32} (T : ∀ p, p < 6 → TBp (tp p)) (SZ : ∀ p, p < 6 → (tp p).2.1 ≤ 60) (h : shiC tp t i o j m) : ∀ p, p < 6 → TBp (fuT tp (ix o) (shiV (tp (ix t)) (tp (ix o)) (ix i) (ix j) (ix m)) p) := fun p hp => by
  obtain ⟨⟨h1, h2⟩, h3, h4, ⟨h5, h6, h7⟩, h8⟩ := h
  have lt := (inB_ix h1).2
  unfold fuT
  by_cases e : p = ix o
  · rw [if_pos e]
    intro e1 q hq
    have e1' : (tp (ix o)).1 = 1 := e1
    show -128 ≤ (if ix j ≤ q ∧ q < ix j + ix m then (tp (ix t)).2.2 (ix i + (q - ix j)) else (tp (ix o)).2.2 q).toInt ∧ (if ix j ≤ q ∧ q < ix j + ix m then (tp (ix t)).2.2 (ix i + (q - ix j)) else (tp (ix o)).2.2 q).toInt ≤ 127
    by_cases ej : ix j ≤ q ∧ q < ix j + ix m
    · rw [if_pos ej]
      refine T (ix t) lt (h4.trans e1') _ ?_
      have a := ix_toInt h5
      have b := ix_toInt h6
      have c := SZ (ix t) lt
      omega
    · rw [if_neg ej]
      rw [← e]
      exact T p hp (by rw [e]; exact e1') q hq
  · rw [if_neg e]; exact T p hp
section LW
variable {l : Launch} {g : cm_G} {I : cm_I} {L : cm_L} {hr tl : Option Nat} {Q : cm_Post} {m k : Nat} {n : Nat} {kd mm : Nat → Nat} {len : Nat} {tx : Nat → Nat} {hs : List (List Cls)} {hx c1 : Nat} {w1 : Nat → Nat} {c2 : Nat} {w2 : Nat → Nat} {im : IM} {s : List Nat} {tp : TP}
theorem MI_KM {I' : cm_I} {L' : cm_L} (M : MI n kd mm len tx hs hx c1 w1 c2 w2 im s tp I L) (K : KM I I' L L') : MI n kd mm len tx hs hx c1 w1 c2 w2 im s tp I' L' := MI_fr M (fun k _ _ _ _ _ => by rw [(K 73 (by omega) (by omega)).1]) (fun b h1 h2 _ _ _ => (K b (by omega) h2).1) (K 104 (by omega) (by omega)).2
theorem CI_KC {I' : cm_I} {L' : cm_L} (C : CI n kd mm len tx hs hx c1 w1 c2 w2 im s tp I L) (K : KC I I' L L') : CI n kd mm len tx hs hx c1 w1 c2 w2 im s tp I' L' := CI_fr C (fun b _ _ _ h => (K b h).1) (fun b _ h => (K b h).2)
theorem lc_thing (h6 : 6 * k + 6 ≤ g.2.2.2.2.1) (C : CI n kd mm len tx hs hx c1 w1 c2 w2 im s tp I L) (M : MI n kd mm len tx hs hx c1 w1 c2 w2 im s tp I L) (T : ∀ p, p < 6 → TBp (tp p)) (nx : LN l g m k Q) : cm_Ex l g 40 (m + 1) (3 * (m + 1)) mL_law 164 [.retAddr 3, .ref 0, .ref 73, .int (nI (6 * k))] [] I L (RR n hr tl) (DD n) Q := by
  refine x_aldn qL_law_164 rfl trivial ?_
  refine x_aldn qL_law_165 rfl trivial ?_
  refine x_ildn qL_law_166 rfl ?_
  refine x_iconst (v := nI 1) qL_law_167 rfl ?_
  refine x_iadd_n qL_law_168 ?_
  refine x_sald qL_law_169 rfl (by omega) ?_
  refine x_aldn qL_law_170 rfl trivial ?_
  refine x_ildn qL_law_171 rfl ?_
  refine x_iconst (v := nI 2) qL_law_172 rfl ?_
  refine x_iadd_n qL_law_173 ?_
  refine x_sald qL_law_174 rfl (by omega) ?_
  refine x_cVm2 (d' := 6) (mc' := 1) (ms' := 3) (mc2 := m) (ms2 := 3 * m) qL_law_175 cL_13 rfl ⟨_, rfl, rfl⟩ rfl rfl (Nat.le_of_ble_eq_true rfl) (Nat.le_of_ble_eq_true rfl) (by decide) (by omega) (by omega) ?_
  by_cases h : thgC n mm c1 c2 (g.2.2.2.2.2 (6 * k + 1)) (g.2.2.2.2.2 (6 * k + 2))
  · refine c_X11_thing C (fun _ I1 L1 hr1 tl1 C1 K1 => ?_) (fun e => absurd h e)
    have M1 := MI_KM M K1
    refine x_aldn qL_law_178 rfl trivial ?_
    refine x_aldn qL_law_179 rfl trivial ?_
    refine x_ildn qL_law_180 rfl ?_
    refine x_iconst (v := nI 1) qL_law_181 rfl ?_
    refine x_iadd_n qL_law_182 ?_
    refine x_sald qL_law_183 rfl (by omega) ?_
    refine x_aldn qL_law_184 rfl trivial ?_
    refine x_ildn qL_law_185 rfl ?_
    refine x_iconst (v := nI 2) qL_law_186 rfl ?_
    refine x_iadd_n qL_law_187 ?_
    refine x_sald qL_law_188 rfl (by omega) ?_
    refine x_cV2 (d' := 2) qL_law_189 cL_17 rfl ⟨_, rfl, rfl⟩ rfl rfl (Nat.le_of_ble_eq_true rfl) (Nat.le_of_ble_eq_true rfl) (by decide) ?_
    refine c_X12_thing M1 (fun _ I2 L2 M2 K2 => ?_) (fun e => absurd h e)
    refine x_icmp_eq_t (tgt := 1032) qL_law_192 (by omega) rfl ?_
    exact nx _ _ _ _ _ _ _ _ _ _ _ _ _ _ _ _ _ _ (CI_KC C1 K2) M2 T
  · refine c_X11_thing C (fun e => absurd e h) (fun _ I1 L1 hr1 tl1 C1 K1 => ?_)
    have M1 := MI_KM M K1
    refine x_aldn qL_law_178 rfl trivial ?_
    refine x_aldn qL_law_179 rfl trivial ?_
    refine x_ildn qL_law_180 rfl ?_
    refine x_iconst (v := nI 1) qL_law_181 rfl ?_
    refine x_iadd_n qL_law_182 ?_
    refine x_sald qL_law_183 rfl (by omega) ?_
    refine x_aldn qL_law_184 rfl trivial ?_
    refine x_ildn qL_law_185 rfl ?_
    refine x_iconst (v := nI 2) qL_law_186 rfl ?_
    refine x_iadd_n qL_law_187 ?_
    refine x_sald qL_law_188 rfl (by omega) ?_
    refine x_cV2 (d' := 2) qL_law_189 cL_17 rfl ⟨_, rfl, rfl⟩ rfl rfl (Nat.le_of_ble_eq_true rfl) (Nat.le_of_ble_eq_true rfl) (by decide) ?_
    refine c_X12_thing M1 (fun e => absurd e h) (fun _ I2 L2 M2 K2 => ?_)
    refine x_icmp_eq_t (tgt := 1032) qL_law_192 (by omega) rfl ?_
    exact nx _ _ _ _ _ _ _ _ _ _ _ _ _ _ _ _ _ _ (CI_KC C1 K2) M2 T
theorem lc_of (h6 : 6 * k + 6 ≤ g.2.2.2.2.1) (C : CI n kd mm len tx hs hx c1 w1 c2 w2 im s tp I L) (M : MI n kd mm len tx hs hx c1 w1 c2 w2 im s tp I L) (T : ∀ p, p < 6 → TBp (tp p)) (nx : LN l g m k Q) : cm_Ex l g 40 (m + 1) (3 * (m + 1)) mL_law 197 [.retAddr 3, .ref 0, .ref 73, .int (nI (6 * k))] [] I L (RR n hr tl) (DD n) Q := by
  refine x_aldn qL_law_197 rfl trivial ?_
  refine x_aldn qL_law_198 rfl trivial ?_
  refine x_ildn qL_law_199 rfl ?_
  refine x_iconst (v := nI 1) qL_law_200 rfl ?_
  refine x_iadd_n qL_law_201 ?_
  refine x_sald qL_law_202 rfl (by omega) ?_
  refine x_aldn qL_law_203 rfl trivial ?_
  refine x_ildn qL_law_204 rfl ?_
  refine x_iconst (v := nI 2) qL_law_205 rfl ?_
  refine x_iadd_n qL_law_206 ?_
  refine x_sald qL_law_207 rfl (by omega) ?_
  refine x_cV2 (d' := 3) qL_law_208 cL_18 rfl ⟨_, rfl, rfl⟩ rfl rfl (Nat.le_of_ble_eq_true rfl) (Nat.le_of_ble_eq_true rfl) (by decide) ?_
  refine c_X11_of C (fun I1 L1 hr1 tl1 C1 K1 => ?_)
  have M1 := MI_KM M K1
  refine x_aldn qL_law_211 rfl trivial ?_
  refine x_aldn qL_law_212 rfl trivial ?_
  refine x_ildn qL_law_213 rfl ?_
  refine x_iconst (v := nI 1) qL_law_214 rfl ?_
  refine x_iadd_n qL_law_215 ?_
  refine x_sald qL_law_216 rfl (by omega) ?_
  refine x_aldn qL_law_217 rfl trivial ?_
  refine x_ildn qL_law_218 rfl ?_
  refine x_iconst (v := nI 2) qL_law_219 rfl ?_
  refine x_iadd_n qL_law_220 ?_
  refine x_sald qL_law_221 rfl (by omega) ?_
  refine x_cV2 (d' := 3) qL_law_222 cL_21 rfl ⟨_, rfl, rfl⟩ rfl rfl (Nat.le_of_ble_eq_true rfl) (Nat.le_of_ble_eq_true rfl) (by decide) ?_
  refine c_X12_of M1 (fun I2 L2 M2 K2 => ?_)
  refine x_icmp_eq_t (tgt := 1032) qL_law_225 (by omega) rfl ?_
  exact cm_up (nx _ _ _ _ _ _ _ _ _ _ _ _ _ _ _ _ _ _ (CI_KC C1 K2) M2 T) (Nat.le_refl _) (by omega) (by omega)
theorem lc_follows (h6 : 6 * k + 6 ≤ g.2.2.2.2.1) (C : CI n kd mm len tx hs hx c1 w1 c2 w2 im s tp I L) (M : MI n kd mm len tx hs hx c1 w1 c2 w2 im s tp I L) (T : ∀ p, p < 6 → TBp (tp p)) (nx : LN l g m k Q) : cm_Ex l g 40 (m + 1) (3 * (m + 1)) mL_law 230 [.retAddr 3, .ref 0, .ref 73, .int (nI (6 * k))] [] I L (RR n hr tl) (DD n) Q := by
  refine x_aldn qL_law_230 rfl trivial ?_
  refine x_aldn qL_law_231 rfl trivial ?_
  refine x_ildn qL_law_232 rfl ?_
  refine x_iconst (v := nI 1) qL_law_233 rfl ?_
  refine x_iadd_n qL_law_234 ?_
  refine x_sald qL_law_235 rfl (by omega) ?_
  refine x_aldn qL_law_236 rfl trivial ?_
  refine x_ildn qL_law_237 rfl ?_
  refine x_iconst (v := nI 2) qL_law_238 rfl ?_
  refine x_iadd_n qL_law_239 ?_
  refine x_sald qL_law_240 rfl (by omega) ?_
  refine x_aldn qL_law_241 rfl trivial ?_
  refine x_ildn qL_law_242 rfl ?_
  refine x_iconst (v := nI 3) qL_law_243 rfl ?_
  refine x_iadd_n qL_law_244 ?_
  refine x_sald qL_law_245 rfl (by omega) ?_
  refine x_cV3 (d' := 3) qL_law_246 cL_22 rfl ⟨_, rfl, rfl⟩ rfl rfl (Nat.le_of_ble_eq_true rfl) (Nat.le_of_ble_eq_true rfl) (by decide) ?_
  refine c_X11_follows C (fun I1 L1 hr1 tl1 C1 K1 => ?_)
  have M1 := MI_KM M K1
  refine x_aldn qL_law_249 rfl trivial ?_
  refine x_aldn qL_law_250 rfl trivial ?_
  refine x_ildn qL_law_251 rfl ?_
  refine x_iconst (v := nI 1) qL_law_252 rfl ?_
  refine x_iadd_n qL_law_253 ?_
  refine x_sald qL_law_254 rfl (by omega) ?_
  refine x_aldn qL_law_255 rfl trivial ?_
  refine x_ildn qL_law_256 rfl ?_
  refine x_iconst (v := nI 2) qL_law_257 rfl ?_
  refine x_iadd_n qL_law_258 ?_
  refine x_sald qL_law_259 rfl (by omega) ?_
  refine x_aldn qL_law_260 rfl trivial ?_
  refine x_ildn qL_law_261 rfl ?_
  refine x_iconst (v := nI 3) qL_law_262 rfl ?_
  refine x_iadd_n qL_law_263 ?_
  refine x_sald qL_law_264 rfl (by omega) ?_
  refine x_cV3 (d' := 3) qL_law_265 cL_26 rfl ⟨_, rfl, rfl⟩ rfl rfl (Nat.le_of_ble_eq_true rfl) (Nat.le_of_ble_eq_true rfl) (by decide) ?_
  refine c_X12_follows M1 (fun I2 L2 M2 K2 => ?_)
  refine x_icmp_eq_t (tgt := 1032) qL_law_268 (by omega) rfl ?_
  exact cm_up (nx _ _ _ _ _ _ _ _ _ _ _ _ _ _ _ _ _ _ (CI_KC C1 K2) M2 T) (Nat.le_refl _) (by omega) (by omega)
theorem lc_feed (h6 : 6 * k + 6 ≤ g.2.2.2.2.1) (C : CI n kd mm len tx hs hx c1 w1 c2 w2 im s tp I L) (M : MI n kd mm len tx hs hx c1 w1 c2 w2 im s tp I L) (T : ∀ p, p < 6 → TBp (tp p)) (nx : LN l g m k Q) : cm_Ex l g 40 (m + 1) (3 * (m + 1)) mL_law 273 [.retAddr 3, .ref 0, .ref 73, .int (nI (6 * k))] [] I L (RR n hr tl) (DD n) Q := by
  refine x_aldn qL_law_273 rfl trivial ?_
  refine x_aldn qL_law_274 rfl trivial ?_
  refine x_ildn qL_law_275 rfl ?_
  refine x_iconst (v := nI 1) qL_law_276 rfl ?_
  refine x_iadd_n qL_law_277 ?_
  refine x_sald qL_law_278 rfl (by omega) ?_
  refine x_aldn qL_law_279 rfl trivial ?_
  refine x_ildn qL_law_280 rfl ?_
  refine x_iconst (v := nI 2) qL_law_281 rfl ?_
  refine x_iadd_n qL_law_282 ?_
  refine x_sald qL_law_283 rfl (by omega) ?_
  refine x_cV2 (d' := 3) qL_law_284 cL_27 rfl ⟨_, rfl, rfl⟩ rfl rfl (Nat.le_of_ble_eq_true rfl) (Nat.le_of_ble_eq_true rfl) (by decide) ?_
  by_cases h : fedC len (g.2.2.2.2.2 (6 * k + 2))
  · refine c_X11_feed C (fun _ I1 L1 hr1 tl1 C1 K1 => ?_) (fun e => absurd h e)
    have M1 := MI_KM M K1
    refine x_aldn qL_law_287 rfl trivial ?_
    refine x_aldn qL_law_288 rfl trivial ?_
    refine x_ildn qL_law_289 rfl ?_
    refine x_iconst (v := nI 1) qL_law_290 rfl ?_
    refine x_iadd_n qL_law_291 ?_
    refine x_sald qL_law_292 rfl (by omega) ?_
    refine x_aldn qL_law_293 rfl trivial ?_
    refine x_ildn qL_law_294 rfl ?_
    refine x_iconst (v := nI 2) qL_law_295 rfl ?_
    refine x_iadd_n qL_law_296 ?_
    refine x_sald qL_law_297 rfl (by omega) ?_
    refine x_cV2 (d' := 2) qL_law_298 cL_30 rfl ⟨_, rfl, rfl⟩ rfl rfl (Nat.le_of_ble_eq_true rfl) (Nat.le_of_ble_eq_true rfl) (by decide) ?_
    refine c_X12_feed M1 (fun _ I2 L2 M2 K2 => ?_) (fun e => absurd h e)
    refine x_icmp_eq_t (tgt := 1032) qL_law_301 (by omega) rfl ?_
    exact cm_up (nx _ _ _ _ _ _ _ _ _ _ _ _ _ _ _ _ _ _ (CI_KC C1 K2) M2 T) (Nat.le_refl _) (by omega) (by omega)
  · refine c_X11_feed C (fun e => absurd e h) (fun _ I1 L1 hr1 tl1 C1 K1 => ?_)
    have M1 := MI_KM M K1
    refine x_aldn qL_law_287 rfl trivial ?_
    refine x_aldn qL_law_288 rfl trivial ?_
    refine x_ildn qL_law_289 rfl ?_
    refine x_iconst (v := nI 1) qL_law_290 rfl ?_
    refine x_iadd_n qL_law_291 ?_
    refine x_sald qL_law_292 rfl (by omega) ?_
    refine x_aldn qL_law_293 rfl trivial ?_
    refine x_ildn qL_law_294 rfl ?_
    refine x_iconst (v := nI 2) qL_law_295 rfl ?_
    refine x_iadd_n qL_law_296 ?_
    refine x_sald qL_law_297 rfl (by omega) ?_
    refine x_cV2 (d' := 2) qL_law_298 cL_30 rfl ⟨_, rfl, rfl⟩ rfl rfl (Nat.le_of_ble_eq_true rfl) (Nat.le_of_ble_eq_true rfl) (by decide) ?_
    refine c_X12_feed M1 (fun e => absurd e h) (fun _ I2 L2 M2 K2 => ?_)
    refine x_icmp_eq_t (tgt := 1032) qL_law_301 (by omega) rfl ?_
    exact cm_up (nx _ _ _ _ _ _ _ _ _ _ _ _ _ _ _ _ _ _ (CI_KC C1 K2) M2 T) (Nat.le_refl _) (by omega) (by omega)
theorem lc_house (h6 : 6 * k + 6 ≤ g.2.2.2.2.1) (C : CI n kd mm len tx hs hx c1 w1 c2 w2 im s tp I L) (M : MI n kd mm len tx hs hx c1 w1 c2 w2 im s tp I L) (T : ∀ p, p < 6 → TBp (tp p)) (nx : LN l g m k Q) : cm_Ex l g 40 (m + 1) (3 * (m + 1)) mL_law 306 [.retAddr 3, .ref 0, .ref 73, .int (nI (6 * k))] [] I L (RR n hr tl) (DD n) Q := by
  refine x_aldn qL_law_306 rfl trivial ?_
  refine x_cV0 (d' := 29) qL_law_307 cL_31 rfl ⟨_, rfl, rfl⟩ rfl rfl (Nat.le_of_ble_eq_true rfl) (Nat.le_of_ble_eq_true rfl) (by decide) ?_
  by_cases h : hs.length < 6
  · cases hp : pAll (pk len tx) len 12 0 [] with
    | mk p o =>
      cases o with
      | none =>
        refine c_X11_house C (fun e => absurd h e) (fun _ p2 e I1 L1 hr1 tl1 C1 K1 => ?_) (fun _ p2 cs e => (by rw [hp] at e; cases e))
        rw [hp] at e
        cases e
        have M1 := MI_KM M K1
        refine x_aldn qL_law_310 rfl trivial ?_
        refine x_cV0 (d' := 8) qL_law_311 cL_35 rfl ⟨_, rfl, rfl⟩ rfl rfl (Nat.le_of_ble_eq_true rfl) (Nat.le_of_ble_eq_true rfl) (by decide) ?_
        refine c_X12_house M1 (fun e => absurd h e) (fun _ p2 e I2 L2 M2 K2 => ?_) (fun _ p2 cs e => (by rw [hp] at e; cases e))
        rw [hp] at e
        cases e
        refine x_icmp_eq_t (tgt := 1032) qL_law_314 (by omega) rfl ?_
        exact cm_up (nx _ _ _ _ _ _ _ _ _ _ _ _ _ _ _ _ _ _ (CI_KC C1 K2) M2 T) (Nat.le_refl _) (by omega) (by omega)
      | some cs =>
        refine c_X11_house C (fun e => absurd h e) (fun _ p2 e => (by rw [hp] at e; cases e)) (fun _ p2 cs2 e I1 L1 hr1 tl1 C1 K1 => ?_)
        rw [hp] at e
        cases e
        have M1 := MI_KM M K1
        refine x_aldn qL_law_310 rfl trivial ?_
        refine x_cV0 (d' := 8) qL_law_311 cL_35 rfl ⟨_, rfl, rfl⟩ rfl rfl (Nat.le_of_ble_eq_true rfl) (Nat.le_of_ble_eq_true rfl) (by decide) ?_
        refine c_X12_house M1 (fun e => absurd h e) (fun _ p2 e => (by rw [hp] at e; cases e)) (fun _ p2 cs2 e I2 L2 M2 K2 => ?_)
        rw [hp] at e
        cases e
        refine x_icmp_eq_t (tgt := 1032) qL_law_314 (by omega) rfl ?_
        exact cm_up (nx _ _ _ _ _ _ _ _ _ _ _ _ _ _ _ _ _ _ (CI_KC C1 K2) M2 T) (Nat.le_refl _) (by omega) (by omega)
  · refine c_X11_house C (fun _ I1 L1 hr1 tl1 C1 K1 => ?_) (fun e => absurd e h) (fun e => absurd e h)
    have M1 := MI_KM M K1
    refine x_aldn qL_law_310 rfl trivial ?_
    refine x_cV0 (d' := 8) qL_law_311 cL_35 rfl ⟨_, rfl, rfl⟩ rfl rfl (Nat.le_of_ble_eq_true rfl) (Nat.le_of_ble_eq_true rfl) (by decide) ?_
    refine c_X12_house M1 (fun _ I2 L2 M2 K2 => ?_) (fun e => absurd e h) (fun e => absurd e h)
    refine x_icmp_eq_t (tgt := 1032) qL_law_314 (by omega) rfl ?_
    exact cm_up (nx _ _ _ _ _ _ _ _ _ _ _ _ _ _ _ _ _ _ (CI_KC C1 K2) M2 T) (Nat.le_refl _) (by omega) (by omega)
theorem lc_reading (h6 : 6 * k + 6 ≤ g.2.2.2.2.1) (C : CI n kd mm len tx hs hx c1 w1 c2 w2 im s tp I L) (M : MI n kd mm len tx hs hx c1 w1 c2 w2 im s tp I L) (T : ∀ p, p < 6 → TBp (tp p)) (nx : LN l g m k Q) : cm_Ex l g 40 (m + 1) (3 * (m + 1)) mL_law 319 [.retAddr 3, .ref 0, .ref 73, .int (nI (6 * k))] [] I L (RR n hr tl) (DD n) Q := by
  refine x_aldn qL_law_319 rfl trivial ?_
  refine x_aldn qL_law_320 rfl trivial ?_
  refine x_ildn qL_law_321 rfl ?_
  refine x_iconst (v := nI 1) qL_law_322 rfl ?_
  refine x_iadd_n qL_law_323 ?_
  refine x_sald qL_law_324 rfl (by omega) ?_
  refine x_aldn qL_law_325 rfl trivial ?_
  refine x_ildn qL_law_326 rfl ?_
  refine x_iconst (v := nI 2) qL_law_327 rfl ?_
  refine x_iadd_n qL_law_328 ?_
  refine x_sald qL_law_329 rfl (by omega) ?_
  refine x_cV2 (d' := 4) qL_law_330 cL_36 rfl ⟨_, rfl, rfl⟩ rfl rfl (Nat.le_of_ble_eq_true rfl) (Nat.le_of_ble_eq_true rfl) (by decide) ?_
  refine c_X11_reading C (fun h e I1 L1 hr1 tl1 C1 K1 => ?_) (fun h e I1 L1 hr1 tl1 C1 K1 => ?_) (fun h I1 L1 hr1 tl1 C1 K1 => ?_)
  · have M1 := MI_KM M K1
    refine x_aldn qL_law_333 rfl trivial ?_
    refine x_aldn qL_law_334 rfl trivial ?_
    refine x_ildn qL_law_335 rfl ?_
    refine x_iconst (v := nI 1) qL_law_336 rfl ?_
    refine x_iadd_n qL_law_337 ?_
    refine x_sald qL_law_338 rfl (by omega) ?_
    refine x_aldn qL_law_339 rfl trivial ?_
    refine x_ildn qL_law_340 rfl ?_
    refine x_iconst (v := nI 2) qL_law_341 rfl ?_
    refine x_iadd_n qL_law_342 ?_
    refine x_sald qL_law_343 rfl (by omega) ?_
    refine x_cV2 (d' := 2) qL_law_344 cL_39 rfl ⟨_, rfl, rfl⟩ rfl rfl (Nat.le_of_ble_eq_true rfl) (Nat.le_of_ble_eq_true rfl) (by decide) ?_
    refine c_X12_reading M1 (fun _ _ I2 L2 M2 K2 => ?_) (fun _ e2 => absurd (e.symm.trans e2) (by decide)) (fun h2 => absurd h (by rw [if_pos e] at h2; exact h2))
    refine x_icmp_eq_t (tgt := 1032) qL_law_347 (by omega) rfl ?_
    exact cm_up (nx _ _ _ _ _ _ _ _ _ _ _ _ _ _ _ _ _ _ (CI_KC C1 K2) M2 T) (Nat.le_refl _) (by omega) (by omega)
  · have M1 := MI_KM M K1
    refine x_aldn qL_law_333 rfl trivial ?_
    refine x_aldn qL_law_334 rfl trivial ?_
    refine x_ildn qL_law_335 rfl ?_
    refine x_iconst (v := nI 1) qL_law_336 rfl ?_
    refine x_iadd_n qL_law_337 ?_
    refine x_sald qL_law_338 rfl (by omega) ?_
    refine x_aldn qL_law_339 rfl trivial ?_
    refine x_ildn qL_law_340 rfl ?_
    refine x_iconst (v := nI 2) qL_law_341 rfl ?_
    refine x_iadd_n qL_law_342 ?_
    refine x_sald qL_law_343 rfl (by omega) ?_
    refine x_cV2 (d' := 2) qL_law_344 cL_39 rfl ⟨_, rfl, rfl⟩ rfl rfl (Nat.le_of_ble_eq_true rfl) (Nat.le_of_ble_eq_true rfl) (by decide) ?_
    refine c_X12_reading M1 (fun _ e2 => absurd (e2.symm.trans e) (by decide)) (fun _ _ I2 L2 M2 K2 => ?_) (fun h2 => absurd h (by rw [if_neg (by omega)] at h2; exact h2))
    refine x_icmp_eq_t (tgt := 1032) qL_law_347 (by omega) rfl ?_
    exact cm_up (nx _ _ _ _ _ _ _ _ _ _ _ _ _ _ _ _ _ _ (CI_KC C1 K2) M2 T) (Nat.le_refl _) (by omega) (by omega)
  · have M1 := MI_KM M K1
    refine x_aldn qL_law_333 rfl trivial ?_
    refine x_aldn qL_law_334 rfl trivial ?_
    refine x_ildn qL_law_335 rfl ?_
    refine x_iconst (v := nI 1) qL_law_336 rfl ?_
    refine x_iadd_n qL_law_337 ?_
    refine x_sald qL_law_338 rfl (by omega) ?_
    refine x_aldn qL_law_339 rfl trivial ?_
    refine x_ildn qL_law_340 rfl ?_
    refine x_iconst (v := nI 2) qL_law_341 rfl ?_
    refine x_iadd_n qL_law_342 ?_
    refine x_sald qL_law_343 rfl (by omega) ?_
    refine x_cV2 (d' := 2) qL_law_344 cL_39 rfl ⟨_, rfl, rfl⟩ rfl rfl (Nat.le_of_ble_eq_true rfl) (Nat.le_of_ble_eq_true rfl) (by decide) ?_
    refine c_X12_reading M1 (fun h2 e2 => absurd h2 (by rw [if_pos e2] at h; exact h)) (fun h2 e2 => absurd h2 (by rw [if_neg (by omega)] at h; exact h)) (fun _ I2 L2 M2 K2 => ?_)
    refine x_icmp_eq_t (tgt := 1032) qL_law_347 (by omega) rfl ?_
    exact cm_up (nx _ _ _ _ _ _ _ _ _ _ _ _ _ _ _ _ _ _ (CI_KC C1 K2) M2 T) (Nat.le_refl _) (by omega) (by omega)
theorem lc_clear (h6 : 6 * k + 6 ≤ g.2.2.2.2.1) (C : CI n kd mm len tx hs hx c1 w1 c2 w2 im s tp I L) (M : MI n kd mm len tx hs hx c1 w1 c2 w2 im s tp I L) (T : ∀ p, p < 6 → TBp (tp p)) (nx : LN l g m k Q) : cm_Ex l g 40 (m + 1) (3 * (m + 1)) mL_law 352 [.retAddr 3, .ref 0, .ref 73, .int (nI (6 * k))] [] I L (RR n hr tl) (DD n) Q := by
  refine x_aldn qL_law_352 rfl trivial ?_
  refine x_aldn qL_law_353 rfl trivial ?_
  refine x_ildn qL_law_354 rfl ?_
  refine x_iconst (v := nI 1) qL_law_355 rfl ?_
  refine x_iadd_n qL_law_356 ?_
  refine x_sald qL_law_357 rfl (by omega) ?_
  refine x_cV1 (d' := 4) qL_law_358 cL_40 rfl ⟨_, rfl, rfl⟩ rfl rfl (Nat.le_of_ble_eq_true rfl) (Nat.le_of_ble_eq_true rfl) (by decide) ?_
  refine c_X11_clear C (fun h e I1 L1 hr1 tl1 C1 K1 => ?_) (fun h e I1 L1 hr1 tl1 C1 K1 => ?_) (fun h I1 L1 hr1 tl1 C1 K1 => ?_)
  · have M1 := MI_KM M K1
    refine x_aldn qL_law_361 rfl trivial ?_
    refine x_aldn qL_law_362 rfl trivial ?_
    refine x_ildn qL_law_363 rfl ?_
    refine x_iconst (v := nI 1) qL_law_364 rfl ?_
    refine x_iadd_n qL_law_365 ?_
    refine x_sald qL_law_366 rfl (by omega) ?_
    refine x_cV1 (d' := 2) qL_law_367 cL_44 rfl ⟨_, rfl, rfl⟩ rfl rfl (Nat.le_of_ble_eq_true rfl) (Nat.le_of_ble_eq_true rfl) (by decide) ?_
    refine c_X12_clear M1 (fun _ _ I2 L2 M2 K2 => ?_) (fun _ e2 => absurd (e.symm.trans e2) (by decide)) (fun h2 => (by rw [h] at h2; cases h2))
    refine x_icmp_eq_t (tgt := 1032) qL_law_370 (by omega) rfl ?_
    exact cm_up (nx _ _ _ _ _ _ _ _ _ _ _ _ _ _ _ _ _ _ (CI_KC C1 K2) M2 T) (Nat.le_refl _) (by omega) (by omega)
  · have M1 := MI_KM M K1
    refine x_aldn qL_law_361 rfl trivial ?_
    refine x_aldn qL_law_362 rfl trivial ?_
    refine x_ildn qL_law_363 rfl ?_
    refine x_iconst (v := nI 1) qL_law_364 rfl ?_
    refine x_iadd_n qL_law_365 ?_
    refine x_sald qL_law_366 rfl (by omega) ?_
    refine x_cV1 (d' := 2) qL_law_367 cL_44 rfl ⟨_, rfl, rfl⟩ rfl rfl (Nat.le_of_ble_eq_true rfl) (Nat.le_of_ble_eq_true rfl) (by decide) ?_
    refine c_X12_clear M1 (fun _ e2 => absurd (e2.symm.trans e) (by decide)) (fun _ _ I2 L2 M2 K2 => ?_) (fun h2 => (by rw [h] at h2; cases h2))
    refine x_icmp_eq_t (tgt := 1032) qL_law_370 (by omega) rfl ?_
    exact cm_up (nx _ _ _ _ _ _ _ _ _ _ _ _ _ _ _ _ _ _ (CI_KC C1 K2) M2 T) (Nat.le_refl _) (by omega) (by omega)
  · have M1 := MI_KM M K1
    refine x_aldn qL_law_361 rfl trivial ?_
    refine x_aldn qL_law_362 rfl trivial ?_
    refine x_ildn qL_law_363 rfl ?_
    refine x_iconst (v := nI 1) qL_law_364 rfl ?_
    refine x_iadd_n qL_law_365 ?_
    refine x_sald qL_law_366 rfl (by omega) ?_
    refine x_cV1 (d' := 2) qL_law_367 cL_44 rfl ⟨_, rfl, rfl⟩ rfl rfl (Nat.le_of_ble_eq_true rfl) (Nat.le_of_ble_eq_true rfl) (by decide) ?_
    refine c_X12_clear M1 (fun h2 _ => (by rw [h] at h2; cases h2)) (fun h2 _ => (by rw [h] at h2; cases h2)) (fun _ I2 L2 M2 K2 => ?_)
    refine x_icmp_eq_t (tgt := 1032) qL_law_370 (by omega) rfl ?_
    exact cm_up (nx _ _ _ _ _ _ _ _ _ _ _ _ _ _ _ _ _ _ (CI_KC C1 K2) M2 T) (Nat.le_refl _) (by omega) (by omega)
theorem lc_fits (h6 : 6 * k + 6 ≤ g.2.2.2.2.1) (C : CI n kd mm len tx hs hx c1 w1 c2 w2 im s tp I L) (M : MI n kd mm len tx hs hx c1 w1 c2 w2 im s tp I L) (T : ∀ p, p < 6 → TBp (tp p)) (nx : LN l g m k Q) : cm_Ex l g 40 (m + 1) (3 * (m + 1)) mL_law 375 [.retAddr 3, .ref 0, .ref 73, .int (nI (6 * k))] [] I L (RR n hr tl) (DD n) Q := by
  refine x_aldn qL_law_375 rfl trivial ?_
  refine x_aldn qL_law_376 rfl trivial ?_
  refine x_ildn qL_law_377 rfl ?_
  refine x_iconst (v := nI 1) qL_law_378 rfl ?_
  refine x_iadd_n qL_law_379 ?_
  refine x_sald qL_law_380 rfl (by omega) ?_
  refine x_aldn qL_law_381 rfl trivial ?_
  refine x_ildn qL_law_382 rfl ?_
  refine x_iconst (v := nI 2) qL_law_383 rfl ?_
  refine x_iadd_n qL_law_384 ?_
  refine x_sald qL_law_385 rfl (by omega) ?_
  refine x_cV2 (d' := 7) qL_law_386 cL_45 rfl ⟨_, rfl, rfl⟩ rfl rfl (Nat.le_of_ble_eq_true rfl) (Nat.le_of_ble_eq_true rfl) (by decide) ?_
  refine c_X11_fits C (fun I1 L1 hr1 tl1 C1 K1 => ?_)
  have M1 := MI_KM M K1
  refine x_aldn qL_law_389 rfl trivial ?_
  refine x_aldn qL_law_390 rfl trivial ?_
  refine x_ildn qL_law_391 rfl ?_
  refine x_iconst (v := nI 1) qL_law_392 rfl ?_
  refine x_iadd_n qL_law_393 ?_
  refine x_sald qL_law_394 rfl (by omega) ?_
  refine x_aldn qL_law_395 rfl trivial ?_
  refine x_ildn qL_law_396 rfl ?_
  refine x_iconst (v := nI 2) qL_law_397 rfl ?_
  refine x_iadd_n qL_law_398 ?_
  refine x_sald qL_law_399 rfl (by omega) ?_
  refine x_cV2 (d' := 6) qL_law_400 cL_48 rfl ⟨_, rfl, rfl⟩ rfl rfl (Nat.le_of_ble_eq_true rfl) (Nat.le_of_ble_eq_true rfl) (by decide) ?_
  refine c_X12_fits M1 (fun I2 L2 M2 K2 => ?_)
  refine x_icmp_eq_t (tgt := 1032) qL_law_403 (by omega) rfl ?_
  exact cm_up (nx _ _ _ _ _ _ _ _ _ _ _ _ _ _ _ _ _ _ (CI_KC C1 K2) M2 T) (Nat.le_refl _) (by omega) (by omega)
theorem lc_tales (h6 : 6 * k + 6 ≤ g.2.2.2.2.1) (C : CI n kd mm len tx hs hx c1 w1 c2 w2 im s tp I L) (M : MI n kd mm len tx hs hx c1 w1 c2 w2 im s tp I L) (T : ∀ p, p < 6 → TBp (tp p)) (nx : LN l g m k Q) : cm_Ex l g 40 (m + 1) (3 * (m + 1)) mL_law 408 [.retAddr 3, .ref 0, .ref 73, .int (nI (6 * k))] [] I L (RR n hr tl) (DD n) Q := by
  refine x_aldn qL_law_408 rfl trivial ?_
  refine x_cV0 (d' := 7) qL_law_409 cL_49 rfl ⟨_, rfl, rfl⟩ rfl rfl (Nat.le_of_ble_eq_true rfl) (Nat.le_of_ble_eq_true rfl) (by decide) ?_
  refine c_X11_tales C (fun I1 L1 hr1 tl1 C1 K1 => ?_)
  have M1 := MI_KM M K1
  refine x_aldn qL_law_412 rfl trivial ?_
  refine x_cV0 (d' := 6) qL_law_413 cL_52 rfl ⟨_, rfl, rfl⟩ rfl rfl (Nat.le_of_ble_eq_true rfl) (Nat.le_of_ble_eq_true rfl) (by decide) ?_
  refine c_X12_tales M1 (fun I2 L2 M2 K2 => ?_)
  refine x_icmp_eq_t (tgt := 1032) qL_law_416 (by omega) rfl ?_
  exact cm_up (nx _ _ _ _ _ _ _ _ _ _ _ _ _ _ _ _ _ _ (CI_KC C1 K2) M2 T) (Nat.le_refl _) (by omega) (by omega)
theorem lc_may (h6 : 6 * k + 6 ≤ g.2.2.2.2.1) (C : CI n kd mm len tx hs hx c1 w1 c2 w2 im s tp I L) (M : MI n kd mm len tx hs hx c1 w1 c2 w2 im s tp I L) (T : ∀ p, p < 6 → TBp (tp p)) (nx : LN l g m k Q) : cm_Ex l g 40 (m + 1) (3 * (m + 1)) mL_law 421 [.retAddr 3, .ref 0, .ref 73, .int (nI (6 * k))] [] I L (RR n hr tl) (DD n) Q := by
  refine x_aldn qL_law_421 rfl trivial ?_
  refine x_aldn qL_law_422 rfl trivial ?_
  refine x_ildn qL_law_423 rfl ?_
  refine x_iconst (v := nI 1) qL_law_424 rfl ?_
  refine x_iadd_n qL_law_425 ?_
  refine x_sald qL_law_426 rfl (by omega) ?_
  refine x_cV1 (d' := 7) qL_law_427 cL_53 rfl ⟨_, rfl, rfl⟩ rfl rfl (Nat.le_of_ble_eq_true rfl) (Nat.le_of_ble_eq_true rfl) (by decide) ?_
  refine c_X11_may C (fun I1 L1 hr1 tl1 C1 K1 => ?_)
  have M1 := MI_KM M K1
  refine x_aldn qL_law_430 rfl trivial ?_
  refine x_aldn qL_law_431 rfl trivial ?_
  refine x_ildn qL_law_432 rfl ?_
  refine x_iconst (v := nI 1) qL_law_433 rfl ?_
  refine x_iadd_n qL_law_434 ?_
  refine x_sald qL_law_435 rfl (by omega) ?_
  refine x_cV1 (d' := 6) qL_law_436 cL_56 rfl ⟨_, rfl, rfl⟩ rfl rfl (Nat.le_of_ble_eq_true rfl) (Nat.le_of_ble_eq_true rfl) (by decide) ?_
  refine c_X12_may M1 (fun I2 L2 M2 K2 => ?_)
  refine x_icmp_eq_t (tgt := 1032) qL_law_439 (by omega) rfl ?_
  exact cm_up (nx _ _ _ _ _ _ _ _ _ _ _ _ _ _ _ _ _ _ (CI_KC C1 K2) M2 T) (Nat.le_refl _) (by omega) (by omega)
theorem lc_fewest (h6 : 6 * k + 6 ≤ g.2.2.2.2.1) (C : CI n kd mm len tx hs hx c1 w1 c2 w2 im s tp I L) (M : MI n kd mm len tx hs hx c1 w1 c2 w2 im s tp I L) (T : ∀ p, p < 6 → TBp (tp p)) (nx : LN l g m k Q) : cm_Ex l g 40 (m + 1) (3 * (m + 1)) mL_law 444 [.retAddr 3, .ref 0, .ref 73, .int (nI (6 * k))] [] I L (RR n hr tl) (DD n) Q := by
  refine x_aldn qL_law_444 rfl trivial ?_
  refine x_aldn qL_law_445 rfl trivial ?_
  refine x_ildn qL_law_446 rfl ?_
  refine x_iconst (v := nI 1) qL_law_447 rfl ?_
  refine x_iadd_n qL_law_448 ?_
  refine x_sald qL_law_449 rfl (by omega) ?_
  refine x_cV1 (d' := 7) qL_law_450 cL_57 rfl ⟨_, rfl, rfl⟩ rfl rfl (Nat.le_of_ble_eq_true rfl) (Nat.le_of_ble_eq_true rfl) (by decide) ?_
  refine c_X11_fewest C (fun I1 L1 hr1 tl1 C1 K1 => ?_)
  have M1 := MI_KM M K1
  refine x_aldn qL_law_453 rfl trivial ?_
  refine x_aldn qL_law_454 rfl trivial ?_
  refine x_ildn qL_law_455 rfl ?_
  refine x_iconst (v := nI 1) qL_law_456 rfl ?_
  refine x_iadd_n qL_law_457 ?_
  refine x_sald qL_law_458 rfl (by omega) ?_
  refine x_cV1 (d' := 6) qL_law_459 cL_60 rfl ⟨_, rfl, rfl⟩ rfl rfl (Nat.le_of_ble_eq_true rfl) (Nat.le_of_ble_eq_true rfl) (by decide) ?_
  refine c_X12_fewest M1 (fun I2 L2 M2 K2 => ?_)
  refine x_icmp_eq_t (tgt := 1032) qL_law_462 (by omega) rfl ?_
  exact cm_up (nx _ _ _ _ _ _ _ _ _ _ _ _ _ _ _ _ _ _ (CI_KC C1 K2) M2 T) (Nat.le_refl _) (by omega) (by omega)
theorem lc_gladdest (h6 : 6 * k + 6 ≤ g.2.2.2.2.1) (C : CI n kd mm len tx hs hx c1 w1 c2 w2 im s tp I L) (M : MI n kd mm len tx hs hx c1 w1 c2 w2 im s tp I L) (T : ∀ p, p < 6 → TBp (tp p)) (nx : LN l g m k Q) : cm_Ex l g 40 (m + 1) (3 * (m + 1)) mL_law 467 [.retAddr 3, .ref 0, .ref 73, .int (nI (6 * k))] [] I L (RR n hr tl) (DD n) Q := by
  refine x_aldn qL_law_467 rfl trivial ?_
  refine x_aldn qL_law_468 rfl trivial ?_
  refine x_ildn qL_law_469 rfl ?_
  refine x_iconst (v := nI 1) qL_law_470 rfl ?_
  refine x_iadd_n qL_law_471 ?_
  refine x_sald qL_law_472 rfl (by omega) ?_
  refine x_cV1 (d' := 7) qL_law_473 cL_61 rfl ⟨_, rfl, rfl⟩ rfl rfl (Nat.le_of_ble_eq_true rfl) (Nat.le_of_ble_eq_true rfl) (by decide) ?_
  refine c_X11_gladdest C (fun I1 L1 hr1 tl1 C1 K1 => ?_)
  have M1 := MI_KM M K1
  refine x_aldn qL_law_476 rfl trivial ?_
  refine x_aldn qL_law_477 rfl trivial ?_
  refine x_ildn qL_law_478 rfl ?_
  refine x_iconst (v := nI 1) qL_law_479 rfl ?_
  refine x_iadd_n qL_law_480 ?_
  refine x_sald qL_law_481 rfl (by omega) ?_
  refine x_cV1 (d' := 6) qL_law_482 cL_64 rfl ⟨_, rfl, rfl⟩ rfl rfl (Nat.le_of_ble_eq_true rfl) (Nat.le_of_ble_eq_true rfl) (by decide) ?_
  refine c_X12_gladdest M1 (fun I2 L2 M2 K2 => ?_)
  refine x_icmp_eq_t (tgt := 1032) qL_law_485 (by omega) rfl ?_
  exact cm_up (nx _ _ _ _ _ _ _ _ _ _ _ _ _ _ _ _ _ _ (CI_KC C1 K2) M2 T) (Nat.le_refl _) (by omega) (by omega)
theorem lc_sure (h6 : 6 * k + 6 ≤ g.2.2.2.2.1) (C : CI n kd mm len tx hs hx c1 w1 c2 w2 im s tp I L) (M : MI n kd mm len tx hs hx c1 w1 c2 w2 im s tp I L) (T : ∀ p, p < 6 → TBp (tp p)) (nx : LN l g m k Q) : cm_Ex l g 40 (m + 1) (3 * (m + 1)) mL_law 490 [.retAddr 3, .ref 0, .ref 73, .int (nI (6 * k))] [] I L (RR n hr tl) (DD n) Q := by
  refine x_aldn qL_law_490 rfl trivial ?_
  refine x_aldn qL_law_491 rfl trivial ?_
  refine x_ildn qL_law_492 rfl ?_
  refine x_iconst (v := nI 1) qL_law_493 rfl ?_
  refine x_iadd_n qL_law_494 ?_
  refine x_sald qL_law_495 rfl (by omega) ?_
  refine x_aldn qL_law_496 rfl trivial ?_
  refine x_ildn qL_law_497 rfl ?_
  refine x_iconst (v := nI 2) qL_law_498 rfl ?_
  refine x_iadd_n qL_law_499 ?_
  refine x_sald qL_law_500 rfl (by omega) ?_
  refine x_cV2 (d' := 7) qL_law_501 cL_65 rfl ⟨_, rfl, rfl⟩ rfl rfl (Nat.le_of_ble_eq_true rfl) (Nat.le_of_ble_eq_true rfl) (by decide) ?_
  refine c_X11_sure C (fun I1 L1 hr1 tl1 C1 K1 => ?_)
  have M1 := MI_KM M K1
  refine x_aldn qL_law_504 rfl trivial ?_
  refine x_aldn qL_law_505 rfl trivial ?_
  refine x_ildn qL_law_506 rfl ?_
  refine x_iconst (v := nI 1) qL_law_507 rfl ?_
  refine x_iadd_n qL_law_508 ?_
  refine x_sald qL_law_509 rfl (by omega) ?_
  refine x_aldn qL_law_510 rfl trivial ?_
  refine x_ildn qL_law_511 rfl ?_
  refine x_iconst (v := nI 2) qL_law_512 rfl ?_
  refine x_iadd_n qL_law_513 ?_
  refine x_sald qL_law_514 rfl (by omega) ?_
  refine x_cV2 (d' := 7) qL_law_515 cL_68 rfl ⟨_, rfl, rfl⟩ rfl rfl (Nat.le_of_ble_eq_true rfl) (Nat.le_of_ble_eq_true rfl) (by decide) ?_
  refine c_X12_sure M1 (fun I2 L2 M2 K2 => ?_)
  refine x_icmp_eq_t (tgt := 1032) qL_law_518 (by omega) rfl ?_
  exact cm_up (nx _ _ _ _ _ _ _ _ _ _ _ _ _ _ _ _ _ _ (CI_KC C1 K2) M2 T) (Nat.le_refl _) (by omega) (by omega)
theorem lc_alike (h6 : 6 * k + 6 ≤ g.2.2.2.2.1) (C : CI n kd mm len tx hs hx c1 w1 c2 w2 im s tp I L) (M : MI n kd mm len tx hs hx c1 w1 c2 w2 im s tp I L) (T : ∀ p, p < 6 → TBp (tp p)) (nx : LN l g m k Q) : cm_Ex l g 40 (m + 1) (3 * (m + 1)) mL_law 523 [.retAddr 3, .ref 0, .ref 73, .int (nI (6 * k))] [] I L (RR n hr tl) (DD n) Q := by
  refine x_aldn qL_law_523 rfl trivial ?_
  refine x_cV0 (d' := 4) qL_law_524 cL_69 rfl ⟨_, rfl, rfl⟩ rfl rfl (Nat.le_of_ble_eq_true rfl) (Nat.le_of_ble_eq_true rfl) (by decide) ?_
  refine c_X11_alike C (fun I1 L1 hr1 tl1 C1 K1 => ?_)
  have M1 := MI_KM M K1
  refine x_aldn qL_law_527 rfl trivial ?_
  refine x_cV0 (d' := 4) qL_law_528 cL_72 rfl ⟨_, rfl, rfl⟩ rfl rfl (Nat.le_of_ble_eq_true rfl) (Nat.le_of_ble_eq_true rfl) (by decide) ?_
  refine c_X12_alike M1 (fun I2 L2 M2 K2 => ?_)
  refine x_icmp_eq_t (tgt := 1032) qL_law_531 (by omega) rfl ?_
  exact cm_up (nx _ _ _ _ _ _ _ _ _ _ _ _ _ _ _ _ _ _ (CI_KC C1 K2) M2 T) (Nat.le_refl _) (by omega) (by omega)
theorem lc_secret (h6 : 6 * k + 6 ≤ g.2.2.2.2.1) (C : CI n kd mm len tx hs hx c1 w1 c2 w2 im s tp I L) (M : MI n kd mm len tx hs hx c1 w1 c2 w2 im s tp I L) (T : ∀ p, p < 6 → TBp (tp p)) (nx : LN l g m k Q) : cm_Ex l g 40 (m + 1) (3 * (m + 1)) mL_law 536 [.retAddr 3, .ref 0, .ref 73, .int (nI (6 * k))] [] I L (RR n hr tl) (DD n) Q := by
  refine x_aldn qL_law_536 rfl trivial ?_
  refine x_cV0 (d' := 7) qL_law_537 cL_73 rfl ⟨_, rfl, rfl⟩ rfl rfl (Nat.le_of_ble_eq_true rfl) (Nat.le_of_ble_eq_true rfl) (by decide) ?_
  refine c_X11_secret C (fun I1 L1 hr1 tl1 C1 K1 => ?_)
  have M1 := MI_KM M K1
  refine x_aldn qL_law_540 rfl trivial ?_
  refine x_cV0 (d' := 6) qL_law_541 cL_76 rfl ⟨_, rfl, rfl⟩ rfl rfl (Nat.le_of_ble_eq_true rfl) (Nat.le_of_ble_eq_true rfl) (by decide) ?_
  refine c_X12_secret M1 (fun I2 L2 M2 K2 => ?_)
  refine x_icmp_eq_t (tgt := 1032) qL_law_544 (by omega) rfl ?_
  exact cm_up (nx _ _ _ _ _ _ _ _ _ _ _ _ _ _ _ _ _ _ (CI_KC C1 K2) M2 T) (Nat.le_refl _) (by omega) (by omega)
end LW
