/-! CellarMeter: follows, fits, tales, may, fewest, gladdest, sure, secret, part, wires, coarse -/
section K33
variable {l : Launch} {g : cm_G} {I : cm_I} {L : cm_L} {hr tl : Option Nat} {Q : cm_Post} {n : Nat} {kd mm : Nat → Nat} {len : Nat} {tx : Nat → Nat} {hs : List (List Cls)} {hx c1 : Nat} {w1 : Nat → Nat} {c2 : Nat} {w2 : Nat → Nat} {im : IM} {s : List Nat} {tp : TP}
theorem KQ_FQ {a : Value} {I1 I' : cm_I} {L1 L' : cm_L} {hr tl : Option Nat} (hQ : KQ Q a n (CI n kd mm len tx hs hx c1 w1 c2 w2 im s tp) I L) (C1 : CI n kd mm len tx hs hx c1 w1 c2 w2 im s tp I1 L1) (K1 : KM I I1 L L1) (F : FQ I1 I' L1 L') : Q (some a) I' L' (RR n hr tl) (DD n) := by
  have q := CI_FQ C1 F
  exact hQ I' L' hr tl q.1 (KM_tr K1 q.2)
theorem c_X11_follows {t a b : Int32} (C : CI n kd mm len tx hs hx c1 w1 c2 w2 im s tp I L) (hQ : KQ Q (.int (folA n kd mm t a b)) n (CI n kd mm len tx hs hx c1 w1 c2 w2 im s tp) I L) : cm_Ex l g 3 0 0 mX11_follows 0 [.ref 0, .int t, .int a, .int b, .float 0] [] I L (RR n hr tl) (DD n) Q := by
  have hq := hQ I L hr tl C KM_rfl
  have H := C.1
  have hn4 := H.1
  refine x_aldn qX11_follows_0 rfl trivial ?_
  refine x_getR qX11_follows_1 fX11_12 rfl rfl ?_
  refine x_ildn qX11_follows_4 rfl ?_
  refine x_cV1 (d' := 1) qX11_follows_5 cX11_115 rfl ⟨_, rfl, rfl⟩ rfl rfl (Nat.le_of_ble_eq_true rfl) (Nat.le_of_ble_eq_true rfl) (by decide) ?_
  refine c_X3_thingAt H (fun j hj e => ?_) (fun h => ?_)
  · subst e
    obtain ⟨t0, t1, t2⟩ := H.2.2.2.2.2.2.1 j hj
    have hm := H.2.1 j hj
    have hk := H.2.2.1 j hj
    have eb := inB_nI hj (show n < 1000000 by omega)
    have ej := ix_nI (j := j) (by omega)
    have em : (I (106 + j) 2).toInt = mm j := by rw [t2, nI_toInt (by omega)]
    have no : ¬ (inB a (mm j) && inB b (mm j)) = true → folA n kd mm (nI j) a b = -1 := fun e => by
      unfold folA; rw [ej, eb, Bool.true_and, if_neg e]
    refine x_ast4 qX11_follows_8 (by decide) trivial rfl ?_
    refine x_ald qX11_follows_10 rfl trivial ?_
    refine x_ifnull qX11_follows_12 ?_
    refine x_ald qX11_follows_15 rfl trivial ?_
    refine x_ildn qX11_follows_17 rfl ?_
    refine x_cV1 (d' := 1) qX11_follows_18 cX11_138 (dd_th hj) ⟨_, rfl, rfl⟩ rfl rfl (Nat.le_of_ble_eq_true rfl) (Nat.le_of_ble_eq_true rfl) (by decide) ?_
    refine c_X9_hasState (dd_th hj) (fun ha => ?_) (fun ha => ?_)
    · rw [em] at ha
      have ha2 := inB_iff.mpr ha
      obtain ⟨ea, la⟩ := inB_ix ha2
      refine x_if_eq_f (tgt := 33) qX11_follows_21 (by omega) (by decide) ?_
      refine x_ald qX11_follows_24 rfl trivial ?_
      refine x_ildn qX11_follows_26 rfl ?_
      refine x_cV1 (d' := 1) qX11_follows_27 cX11_138 (dd_th hj) ⟨_, rfl, rfl⟩ rfl rfl (Nat.le_of_ble_eq_true rfl) (Nat.le_of_ble_eq_true rfl) (by decide) ?_
      refine c_X9_hasState (dd_th hj) (fun hb => ?_) (fun hb => ?_)
      · rw [em] at hb
        have hb2 := inB_iff.mpr hb
        obtain ⟨e2, lb⟩ := inB_ix hb2
        have ev : folA n kd mm (nI j) a b = (if nx (kd j) (mm j) (ix a) (ix b) then 1 else 0) := by
          unfold folA; rw [ej, eb, ha2, hb2]; rfl
        rw [ev] at hq
        refine x_if_ne_t (tgt := 35) qX11_follows_30 (by omega) (by decide) ?_
        refine x_ald qX11_follows_35 rfl trivial ?_
        refine x_getIe qX11_follows_37 fX11_119 (dd_th hj) t1 ?_
        refine x_ald qX11_follows_40 rfl trivial ?_
        refine x_getIe qX11_follows_42 fX11_124 (dd_th hj) t2 ?_
        refine x_ildn qX11_follows_45 rfl ?_
        refine x_ildn qX11_follows_46 rfl ?_
        rw [ea, e2]
        refine x_cS4 (d' := 2) qX11_follows_47 cX11_141 rfl rfl (Nat.le_of_ble_eq_true rfl) (Nat.le_of_ble_eq_true rfl) (by decide) ?_
        refine c_X4_mayFollow hk hm.2 hm.1 la lb (fun hx => ?_) (fun hx => ?_)
        · refine x_if_eq_f (tgt := 57) qX11_follows_50 (by omega) (by decide) ?_
          refine x_iconst (v := nI 1) qX11_follows_53 rfl ?_
          refine x_goto (tgt := 58) qX11_follows_54 (by omega) ?_
          refine x_iret qX11_follows_58 rfl rfl ?_
          rw [if_pos hx] at hq
          exact hq
        · refine x_if_eq_t (tgt := 57) qX11_follows_50 (by omega) (by decide) ?_
          refine x_iconst (v := nI 0) qX11_follows_57 rfl ?_
          refine x_iret qX11_follows_58 rfl rfl ?_
          rw [if_neg hx] at hq
          exact hq
      · rw [em] at hb
        rw [no (fun e => hb (inB_iff.mp (by rw [Bool.and_eq_true] at e; exact e.2)))] at hq
        refine x_if_ne_f (tgt := 35) qX11_follows_30 (by omega) (by decide) ?_
        refine x_iconst (v := -1) qX11_follows_33 rfl ?_
        refine x_iret qX11_follows_34 rfl rfl ?_
        exact hq
    · rw [em] at ha
      rw [no (fun e => ha (inB_iff.mp (by rw [Bool.and_eq_true] at e; exact e.1)))] at hq
      refine x_if_eq_t (tgt := 33) qX11_follows_21 (by omega) (by decide) ?_
      refine x_iconst (v := -1) qX11_follows_33 rfl ?_
      refine x_iret qX11_follows_34 rfl rfl ?_
      exact hq
  · have e : folA n kd mm t a b = -1 := by
      unfold folA; rw [if_neg (fun e => h (inB_iff.mp (by rw [Bool.and_eq_true] at e; exact e.1)))]
    rw [e] at hq
    refine x_ast4 qX11_follows_8 (by decide) trivial rfl ?_
    refine x_ald qX11_follows_10 rfl trivial ?_
    refine x_ifnull_n (a := 0) (tgt := 33) qX11_follows_12 (by omega) ?_
    refine x_iconst (v := -1) qX11_follows_33 rfl ?_
    refine x_iret qX11_follows_34 rfl rfl ?_
    exact hq
theorem c_X11_fits {r w : Int32} (C : CI n kd mm len tx hs hx c1 w1 c2 w2 im s tp I L) (hQ : KQ Q (.int (fitA n kd mm (hcs hs hx) c1 w1 r w)) n (CI n kd mm len tx hs hx c1 w1 c2 w2 im s tp) I L) : cm_Ex l g 7 0 0 mX11_fits 0 [.ref 0, .int r, .int w] [] I L (RR n hr tl) (DD n) Q := by
  have hq := hQ I L hr tl C KM_rfl
  have H := C.1
  have M := C.2.2.2.2.1
  have hW : wys mm n ≤ 64 := H.2.2.2.1
  have hl := M.2.1
  have no : ¬ (inB r c1 && inB w (wys mm n)) = true → fitA n kd mm (hcs hs hx) c1 w1 r w = -1 := fun e => by unfold fitA; rw [if_neg e]
  refine x_aldn qX11_fits_0 rfl trivial ?_
  refine x_getR qX11_fits_1 fX11_48 rfl rfl ?_
  refine x_ildn qX11_fits_4 rfl ?_
  refine x_cV1 (d' := 1) qX11_fits_5 cX11_160 (dd_M (Or.inl rfl)).1 ⟨_, rfl, rfl⟩ rfl rfl (Nat.le_of_ble_eq_true rfl) (Nat.le_of_ble_eq_true rfl) (by decide) ?_
  refine c_X5_has (Or.inl rfl) M.1 hl (fun h => ?_) (fun h => ?_)
  · have h2 := inB_iff.mpr h
    obtain ⟨er, lr⟩ := inB_ix h2
    refine x_if_eq_f (tgt := 22) qX11_fits_8 (by omega) (by decide) ?_
    refine x_aldn qX11_fits_11 rfl trivial ?_
    refine x_getR qX11_fits_12 fX11_12 rfl rfl ?_
    refine x_ildn qX11_fits_15 rfl ?_
    refine x_cV1 (d' := 1) qX11_fits_16 cX11_163 rfl ⟨_, rfl, rfl⟩ rfl rfl (Nat.le_of_ble_eq_true rfl) (Nat.le_of_ble_eq_true rfl) (by decide) ?_
    refine c_X3_hasWay H (fun hw => ?_) (fun hw => ?_)
    · have hw2 := inB_iff.mpr hw
      obtain ⟨ew, lw⟩ := inB_ix hw2
      have ev : fitA n kd mm (hcs hs hx) c1 w1 r w = (if F1 n kd mm (hcs hs hx) w1 (ix r) (ix w) then 1 else 0) := by
        unfold fitA; rw [h2, hw2]; rfl
      rw [ev] at hQ
      refine x_if_ne_t (tgt := 24) qX11_fits_19 (by omega) (by decide) ?_
      refine x_aldn qX11_fits_24 rfl trivial ?_
      refine x_cV0 (d' := 6) qX11_fits_25 cX11_166 rfl ⟨_, rfl, rfl⟩ rfl rfl (Nat.le_of_ble_eq_true rfl) (Nat.le_of_ble_eq_true rfl) (by decide) ?_
      refine c_X11_laid C (fun I' L' hD C' K' => ?_)
      have hq2 := hQ I' L' hr (some (hA hx)) C' K'
      refine x_ildn qX11_fits_28 rfl ?_
      refine x_ildn qX11_fits_29 rfl ?_
      rw [er, ew]
      refine x_cV2 (d' := 2) qX11_fits_30 cX11_170 rfl ⟨_, rfl, rfl⟩ rfl rfl (Nat.le_of_ble_eq_true rfl) (Nat.le_of_ble_eq_true rfl) (by decide) ?_
      refine c_X7_fitsAt C'.1 hD.1 hl lr lw hD.2.2.2.2 (fun hf => ?_) (fun hf => ?_)
      · refine x_if_eq_f (tgt := 40) qX11_fits_33 (by omega) (by decide) ?_
        refine x_iconst (v := nI 1) qX11_fits_36 rfl ?_
        refine x_goto (tgt := 41) qX11_fits_37 (by omega) ?_
        refine x_iret qX11_fits_41 rfl rfl ?_
        rw [if_pos (show F1 n kd mm (hcs hs hx) w1 (ix r) (ix w) = true from hf)] at hq2
        exact hq2
      · refine x_if_eq_t (tgt := 40) qX11_fits_33 (by omega) (by decide) ?_
        refine x_iconst (v := nI 0) qX11_fits_40 rfl ?_
        refine x_iret qX11_fits_41 rfl rfl ?_
        rw [if_neg (show ¬ F1 n kd mm (hcs hs hx) w1 (ix r) (ix w) = true from (Bool.not_eq_true _).mpr hf)] at hq2
        exact hq2
    · rw [no (fun e => hw (inB_iff.mp (by rw [Bool.and_eq_true] at e; exact e.2)))] at hq
      refine x_if_ne_f (tgt := 24) qX11_fits_19 (by omega) (by decide) ?_
      refine x_iconst (v := -1) qX11_fits_22 rfl ?_
      refine x_iret qX11_fits_23 rfl rfl ?_
      exact hq
  · rw [no (fun e => h (inB_iff.mp (by rw [Bool.and_eq_true] at e; exact e.1)))] at hq
    refine x_if_eq_t (tgt := 22) qX11_fits_8 (by omega) (by decide) ?_
    refine x_iconst (v := -1) qX11_fits_22 rfl ?_
    refine x_iret qX11_fits_23 rfl rfl ?_
    exact hq
theorem c_X11_tales (C : CI n kd mm len tx hs hx c1 w1 c2 w2 im s tp I L) (hQ : KQ Q (.int (talN n kd mm (hcs hs hx) c1 w1)) n (CI n kd mm len tx hs hx c1 w1 c2 w2 im s tp) I L) : cm_Ex l g 7 0 0 mX11_tales 0 [.ref 0] [] I L (RR n hr tl) (DD n) Q := by
  refine x_aldn qX11_tales_0 rfl trivial ?_
  refine x_cV0 (d' := 6) qX11_tales_1 cX11_166 rfl ⟨_, rfl, rfl⟩ rfl rfl (Nat.le_of_ble_eq_true rfl) (Nat.le_of_ble_eq_true rfl) (by decide) ?_
  refine c_X11_laid C (fun I' L' hD C' K' => ?_)
  refine x_cV0 (d' := 5) qX11_tales_4 cX11_174 rfl ⟨_, rfl, rfl⟩ rfl rfl (Nat.le_of_ble_eq_true rfl) (Nat.le_of_ble_eq_true rfl) (by decide) ?_
  refine c_X7_howMany C.2.2.2.2.1.2.1 hD.1 hD.2.1 C'.1 hD.2.2.2.2 (fun I2 hI2 => ?_)
  refine x_iret qX11_tales_7 rfl rfl ?_
  exact KQ_FQ hQ C' K' ⟨fun b h1 h2 => hI2 b (by omega) (by omega), fun _ _ => rfl⟩
theorem c_X11_may {r : Int32} (C : CI n kd mm len tx hs hx c1 w1 c2 w2 im s tp I L) (hQ : KQ Q (.int (mayA n kd mm (hcs hs hx) c1 w1 r)) n (CI n kd mm len tx hs hx c1 w1 c2 w2 im s tp) I L) : cm_Ex l g 7 0 0 mX11_may 0 [.ref 0, .int r] [] I L (RR n hr tl) (DD n) Q := by
  have hq := hQ I L hr tl C KM_rfl
  have M := C.2.2.2.2.1
  refine x_aldn qX11_may_0 rfl trivial ?_
  refine x_getR qX11_may_1 fX11_48 rfl rfl ?_
  refine x_ildn qX11_may_4 rfl ?_
  refine x_cV1 (d' := 1) qX11_may_5 cX11_160 (dd_M (Or.inl rfl)).1 ⟨_, rfl, rfl⟩ rfl rfl (Nat.le_of_ble_eq_true rfl) (Nat.le_of_ble_eq_true rfl) (by decide) ?_
  refine c_X5_has (Or.inl rfl) M.1 M.2.1 (fun h => ?_) (fun h => ?_)
  · have h2 := inB_iff.mpr h
    obtain ⟨er, lr⟩ := inB_ix h2
    have ev : mayA n kd mm (hcs hs hx) c1 w1 r = nI (cntB (F1 n kd mm (hcs hs hx) w1 (ix r)) (wys mm n)) := by unfold mayA; rw [if_pos h2]
    rw [ev] at hQ
    refine x_if_ne_t (tgt := 13) qX11_may_8 (by omega) (by decide) ?_
    refine x_aldn qX11_may_13 rfl trivial ?_
    refine x_cV0 (d' := 6) qX11_may_14 cX11_166 rfl ⟨_, rfl, rfl⟩ rfl rfl (Nat.le_of_ble_eq_true rfl) (Nat.le_of_ble_eq_true rfl) (by decide) ?_
    refine c_X11_laid C (fun I' L' hD C' K' => ?_)
    have hq2 := hQ I' L' hr (some (hA hx)) C' K'
    refine x_ildn qX11_may_17 rfl ?_
    rw [er]
    refine x_cV1 (d' := 2) qX11_may_18 cX11_178 rfl ⟨_, rfl, rfl⟩ rfl rfl (Nat.le_of_ble_eq_true rfl) (Nat.le_of_ble_eq_true rfl) (by decide) ?_
    refine c_X7_howManyFit C'.1 hD.1 M.2.1 lr hD.2.2.2.2 ?_
    refine x_iret qX11_may_21 rfl rfl ?_
    exact hq2
  · have ev : mayA n kd mm (hcs hs hx) c1 w1 r = -1 := by unfold mayA; rw [if_neg (fun e => h (inB_iff.mp e))]
    rw [ev] at hq
    refine x_if_ne_f (tgt := 13) qX11_may_8 (by omega) (by decide) ?_
    refine x_iconst (v := -1) qX11_may_11 rfl ?_
    refine x_iret qX11_may_12 rfl rfl ?_
    exact hq
theorem opI_some {i : Int32} {k : Nat} (hb : inB i k = true) : opI i = some (ix i) ∧ ¬ i = -1 := by
  have h2 := inB_iff.mp hb
  have : ¬ i = -1 := by intro e; subst e; exact absurd h2.1 (by decide)
  exact ⟨by unfold opI; rw [if_neg this], this⟩
theorem c_X11_fewest {i : Int32} (C : CI n kd mm len tx hs hx c1 w1 c2 w2 im s tp I L) (hQ : KQ Q (.int (fewA n kd mm (hcs hs hx) c1 w1 i)) n (CI n kd mm len tx hs hx c1 w1 c2 w2 im s tp) I L) : cm_Ex l g 7 0 0 mX11_fewest 0 [.ref 0, .int i] [] I L (RR n hr tl) (DD n) Q := by
  obtain ⟨hh, HC⟩ := CI_hh C
  have M := C.2.2.2.2.1
  have main : ∀ o, i = optI o → opI i = o → (∀ r, o = some r → r < c1) → (i = -1 ∨ inB i c1 = true) → cm_Ex l g 7 0 0 mX11_fewest 18 [.ref 0, .int i] [] I L (RR n hr tl) (DD n) Q := by
    intro o e1 e2 e3 e4
    have ev : fewA n kd mm (hcs hs hx) c1 w1 i = tlA (F1 n kd mm (hcs hs hx) w1) (nxt kd mm n) (wys mm n) c1 (fun _ => 0) (fun u v => (chI mm n 1 u v : Int)) 1 o := by unfold fewA; rw [if_pos e4, e2]
    rw [ev] at hQ
    subst e1
    refine x_aldn qX11_fewest_18 rfl trivial ?_
    refine x_cV0 (d' := 6) qX11_fewest_19 cX11_166 rfl ⟨_, rfl, rfl⟩ rfl rfl (Nat.le_of_ble_eq_true rfl) (Nat.le_of_ble_eq_true rfl) (by decide) ?_
    refine c_X11_laid C (fun I' L' hD C' K' => ?_)
    refine x_ildn qX11_fewest_22 rfl ?_
    refine x_cV1 (d' := 6) qX11_fewest_23 cX11_182 rfl ⟨_, rfl, rfl⟩ rfl rfl (Nat.le_of_ble_eq_true rfl) (Nat.le_of_ble_eq_true rfl) (by decide) ?_
    refine c_X7_ofFewest hh M.2.1 C'.1 (CI_hh C').2 hD e3 (fun I2 L2 F => ?_)
    refine x_iret qX11_fewest_26 rfl rfl ?_
    exact KQ_FQ hQ C' K' F
  refine x_ildn qX11_fewest_0 rfl ?_
  refine x_iconst (v := -1) qX11_fewest_1 rfl ?_
  refine x_icmp_eq (tgt := 18) qX11_fewest_2 (by omega) (fun h => ?_) (fun h => ?_)
  · subst h
    exact main none rfl rfl (fun r e => by cases e) (Or.inl rfl)
  · refine x_aldn qX11_fewest_5 rfl trivial ?_
    refine x_getR qX11_fewest_6 fX11_48 rfl rfl ?_
    refine x_ildn qX11_fewest_9 rfl ?_
    refine x_cV1 (d' := 1) qX11_fewest_10 cX11_160 (dd_M (Or.inl rfl)).1 ⟨_, rfl, rfl⟩ rfl rfl (Nat.le_of_ble_eq_true rfl) (Nat.le_of_ble_eq_true rfl) (by decide) ?_
    refine c_X5_has (Or.inl rfl) M.1 M.2.1 (fun h2 => ?_) (fun h2 => ?_)
    · have hb := inB_iff.mpr h2
      obtain ⟨er, lr⟩ := inB_ix hb
      refine x_if_ne_t (tgt := 18) qX11_fewest_13 (by omega) (by decide) ?_
      exact main (some (ix i)) er (opI_some hb).1 (fun r e => by cases e; exact lr) (Or.inr hb)
    · have hq := hQ I L hr tl C KM_rfl
      have ev : fewA n kd mm (hcs hs hx) c1 w1 i = -1 := by unfold fewA; rw [if_neg (fun e => by rcases e with e | e; exact h e; exact h2 (inB_iff.mp e))]
      rw [ev] at hq
      refine x_if_ne_f (tgt := 18) qX11_fewest_13 (by omega) (by decide) ?_
      refine x_iconst (v := -1) qX11_fewest_16 rfl ?_
      refine x_iret qX11_fewest_17 rfl rfl ?_
      exact hq
theorem c_X11_gladdest {i : Int32} (C : CI n kd mm len tx hs hx c1 w1 c2 w2 im s tp I L) (hQ : KQ Q (.int (glaA n kd mm (hcs hs hx) c1 w1 i)) n (CI n kd mm len tx hs hx c1 w1 c2 w2 im s tp) I L) : cm_Ex l g 7 0 0 mX11_gladdest 0 [.ref 0, .int i] [] I L (RR n hr tl) (DD n) Q := by
  obtain ⟨hh, HC⟩ := CI_hh C
  have M := C.2.2.2.2.1
  have main : ∀ o, i = optI o → opI i = o → (∀ r, o = some r → r < c1) → (i = -1 ∨ inB i c1 = true) → cm_Ex l g 7 0 0 mX11_gladdest 18 [.ref 0, .int i] [] I L (RR n hr tl) (DD n) Q := by
    intro o e1 e2 e3 e4
    have ev : glaA n kd mm (hcs hs hx) c1 w1 i = tlA (F1 n kd mm (hcs hs hx) w1) (nxt kd mm n) (wys mm n) c1 (fun w => -1 * (sumN (fun i => lst 1 i (hcs hs hx)) mm 15 n w : Nat)) (fun u v => (chI mm n 0 u v : Int)) (-1) o := by unfold glaA; rw [if_pos e4, e2]
    rw [ev] at hQ
    subst e1
    refine x_aldn qX11_gladdest_18 rfl trivial ?_
    refine x_cV0 (d' := 6) qX11_gladdest_19 cX11_166 rfl ⟨_, rfl, rfl⟩ rfl rfl (Nat.le_of_ble_eq_true rfl) (Nat.le_of_ble_eq_true rfl) (by decide) ?_
    refine c_X11_laid C (fun I' L' hD C' K' => ?_)
    refine x_ildn qX11_gladdest_22 rfl ?_
    refine x_cV1 (d' := 6) qX11_gladdest_23 cX11_185 rfl ⟨_, rfl, rfl⟩ rfl rfl (Nat.le_of_ble_eq_true rfl) (Nat.le_of_ble_eq_true rfl) (by decide) ?_
    refine c_X7_ofGladdest hh M.2.1 C'.1 (CI_hh C').2 hD e3 (fun I2 L2 F => ?_)
    refine x_iret qX11_gladdest_26 rfl rfl ?_
    exact KQ_FQ hQ C' K' F
  refine x_ildn qX11_gladdest_0 rfl ?_
  refine x_iconst (v := -1) qX11_gladdest_1 rfl ?_
  refine x_icmp_eq (tgt := 18) qX11_gladdest_2 (by omega) (fun h => ?_) (fun h => ?_)
  · subst h
    exact main none rfl rfl (fun r e => by cases e) (Or.inl rfl)
  · refine x_aldn qX11_gladdest_5 rfl trivial ?_
    refine x_getR qX11_gladdest_6 fX11_48 rfl rfl ?_
    refine x_ildn qX11_gladdest_9 rfl ?_
    refine x_cV1 (d' := 1) qX11_gladdest_10 cX11_160 (dd_M (Or.inl rfl)).1 ⟨_, rfl, rfl⟩ rfl rfl (Nat.le_of_ble_eq_true rfl) (Nat.le_of_ble_eq_true rfl) (by decide) ?_
    refine c_X5_has (Or.inl rfl) M.1 M.2.1 (fun h2 => ?_) (fun h2 => ?_)
    · have hb := inB_iff.mpr h2
      obtain ⟨er, lr⟩ := inB_ix hb
      refine x_if_ne_t (tgt := 18) qX11_gladdest_13 (by omega) (by decide) ?_
      exact main (some (ix i)) er (opI_some hb).1 (fun r e => by cases e; exact lr) (Or.inr hb)
    · have hq := hQ I L hr tl C KM_rfl
      have ev : glaA n kd mm (hcs hs hx) c1 w1 i = -1 := by unfold glaA; rw [if_neg (fun e => by rcases e with e | e; exact h e; exact h2 (inB_iff.mp e))]
      rw [ev] at hq
      refine x_if_ne_f (tgt := 18) qX11_gladdest_13 (by omega) (by decide) ?_
      refine x_iconst (v := -1) qX11_gladdest_16 rfl ?_
      refine x_iret qX11_gladdest_17 rfl rfl ?_
      exact hq
theorem c_X11_sure {r w : Int32} (C : CI n kd mm len tx hs hx c1 w1 c2 w2 im s tp I L) (hQ : KQ Q (.int (surA n kd mm (hcs hs hx) c1 w1 r w)) n (CI n kd mm len tx hs hx c1 w1 c2 w2 im s tp) I L) : cm_Ex l g 7 0 0 mX11_sure 0 [.ref 0, .int r, .int w] [] I L (RR n hr tl) (DD n) Q := by
  have hq := hQ I L hr tl C KM_rfl
  have M := C.2.2.2.2.1
  have no : ¬ (inB r c1 && inB w 2) = true → surA n kd mm (hcs hs hx) c1 w1 r w = -1 := fun e => by unfold surA; rw [if_neg e]
  refine x_aldn qX11_sure_0 rfl trivial ?_
  refine x_getR qX11_sure_1 fX11_48 rfl rfl ?_
  refine x_ildn qX11_sure_4 rfl ?_
  refine x_cV1 (d' := 1) qX11_sure_5 cX11_160 (dd_M (Or.inl rfl)).1 ⟨_, rfl, rfl⟩ rfl rfl (Nat.le_of_ble_eq_true rfl) (Nat.le_of_ble_eq_true rfl) (by decide) ?_
  refine c_X5_has (Or.inl rfl) M.1 M.2.1 (fun h => ?_) (fun h => ?_)
  · have h2 := inB_iff.mpr h
    obtain ⟨er, lr⟩ := inB_ix h2
    refine x_if_eq_f (tgt := 18) qX11_sure_8 (by omega) (by decide) ?_
    refine x_ildn qX11_sure_11 rfl ?_
    refine x_cS1 (d' := 1) qX11_sure_12 cX11_188 rfl rfl (Nat.le_of_ble_eq_true rfl) (Nat.le_of_ble_eq_true rfl) (by decide) ?_
    refine c_X11_isEither (fun hw => ?_) (fun hw => ?_)
    · obtain ⟨ew, lw⟩ := inB_ix hw
      have ev : surA n kd mm (hcs hs hx) c1 w1 r w = (if tal (F1 n kd mm (hcs hs hx) w1) (nxt kd mm n) (wys mm n) c1 then nI (bhs (srb (liv (F1 n kd mm (hcs hs hx) w1) (nxt kd mm n) (wys mm n) c1 (ix r)) mm (wys mm n) (ix w == 0)) n) else 0) := by
        unfold surA; rw [h2, hw]; rfl
      rw [ev] at hQ
      refine x_if_ne_t (tgt := 20) qX11_sure_15 (by omega) (by decide) ?_
      refine x_aldn qX11_sure_20 rfl trivial ?_
      refine x_cV0 (d' := 6) qX11_sure_21 cX11_166 rfl ⟨_, rfl, rfl⟩ rfl rfl (Nat.le_of_ble_eq_true rfl) (Nat.le_of_ble_eq_true rfl) (by decide) ?_
      refine c_X11_laid C (fun I' L' hD C' K' => ?_)
      refine x_ildn qX11_sure_24 rfl ?_
      refine x_ildn qX11_sure_25 rfl ?_
      rw [er, ew]
      rcases (by omega : ix w = 0 ∨ ix w = 1) with e0 | e0
      · rw [e0] at hQ ⊢
        refine x_if_ne_f (tgt := 33) qX11_sure_26 (by omega) (by decide) ?_
        refine x_iconst (v := nI 1) qX11_sure_29 rfl ?_
        refine x_goto (tgt := 34) qX11_sure_30 (by omega) ?_
        refine x_cV2 (d' := 6) qX11_sure_34 cX11_191 rfl ⟨_, rfl, rfl⟩ rfl rfl (Nat.le_of_ble_eq_true rfl) (Nat.le_of_ble_eq_true rfl) (by decide) ?_
        refine c_X7_thingsOn (b := 1) (Or.inr rfl) lr M.2.1 C'.1 hD (fun L2 F => ?_)
        refine x_iret qX11_sure_37 rfl rfl ?_
        exact KQ_FQ hQ C' K' F
      · rw [e0] at hQ ⊢
        refine x_if_ne_t (tgt := 33) qX11_sure_26 (by omega) (by decide) ?_
        refine x_iconst (v := nI 0) qX11_sure_33 rfl ?_
        refine x_cV2 (d' := 6) qX11_sure_34 cX11_191 rfl ⟨_, rfl, rfl⟩ rfl rfl (Nat.le_of_ble_eq_true rfl) (Nat.le_of_ble_eq_true rfl) (by decide) ?_
        refine c_X7_thingsOn (b := 0) (Or.inl rfl) lr M.2.1 C'.1 hD (fun L2 F => ?_)
        refine x_iret qX11_sure_37 rfl rfl ?_
        exact KQ_FQ hQ C' K' F
    · rw [no (fun e => by rw [hw, Bool.and_false] at e; cases e)] at hq
      refine x_if_ne_f (tgt := 20) qX11_sure_15 (by omega) (by decide) ?_
      refine x_iconst (v := -1) qX11_sure_18 rfl ?_
      refine x_iret qX11_sure_19 rfl rfl ?_
      exact hq
  · rw [no (fun e => h (inB_iff.mp (by rw [Bool.and_eq_true] at e; exact e.1)))] at hq
    refine x_if_eq_t (tgt := 18) qX11_sure_8 (by omega) (by decide) ?_
    refine x_iconst (v := -1) qX11_sure_18 rfl ?_
    refine x_iret qX11_sure_19 rfl rfl ?_
    exact hq
theorem c_X11_secret (C : CI n kd mm len tx hs hx c1 w1 c2 w2 im s tp I L) (hQ : KQ Q (.int (scrA n kd mm (hcs hs hx) c1 w1)) n (CI n kd mm len tx hs hx c1 w1 c2 w2 im s tp) I L) : cm_Ex l g 7 0 0 mX11_secret 0 [.ref 0] [] I L (RR n hr tl) (DD n) Q := by
  refine x_aldn qX11_secret_0 rfl trivial ?_
  refine x_cV0 (d' := 6) qX11_secret_1 cX11_166 rfl ⟨_, rfl, rfl⟩ rfl rfl (Nat.le_of_ble_eq_true rfl) (Nat.le_of_ble_eq_true rfl) (by decide) ?_
  refine c_X11_laid C (fun I' L' hD C' K' => ?_)
  refine x_cV0 (d' := 6) qX11_secret_4 cX11_198 rfl ⟨_, rfl, rfl⟩ rfl rfl (Nat.le_of_ble_eq_true rfl) (Nat.le_of_ble_eq_true rfl) (by decide) ?_
  refine c_X7_leastSecret (CI_hh C').1 C'.1 (CI_hh C').2 C'.2.2.2.2.1 hD (fun L2 F => ?_)
  refine x_iret qX11_secret_7 rfl rfl ?_
  exact KQ_FQ hQ C' K' F
theorem c_X11_part {t w : Int32} (C : CI n kd mm len tx hs hx c1 w1 c2 w2 im s tp I L) (hQ : KQ Q (.int (parA n kd mm (hcs hs hx) c1 w1 t w)) n (CI n kd mm len tx hs hx c1 w1 c2 w2 im s tp) I L) : cm_Ex l g 7 0 0 mX11_part 0 [.ref 0, .int t, .int w] [] I L (RR n hr tl) (DD n) Q := by
  have hq := hQ I L hr tl C KM_rfl
  have M := C.2.2.2.2.1
  have H := C.1
  have hn4 := H.1
  have no : ¬ (inB t n && inB w 2) = true → parA n kd mm (hcs hs hx) c1 w1 t w = -1 := fun e => by unfold parA; rw [if_neg e]
  refine x_aldn qX11_part_0 rfl trivial ?_
  refine x_getR qX11_part_1 fX11_12 rfl rfl ?_
  refine x_ildn qX11_part_4 rfl ?_
  refine x_cV1 (d' := 1) qX11_part_5 cX11_115 rfl ⟨_, rfl, rfl⟩ rfl rfl (Nat.le_of_ble_eq_true rfl) (Nat.le_of_ble_eq_true rfl) (by decide) ?_
  refine c_X3_thingAt H (fun j hj e => ?_) (fun h => ?_)
  · subst e
    have eb := inB_nI hj (show n < 1000000 by omega)
    have ej := ix_nI (j := j) (by omega)
    refine x_ifnull qX11_part_8 ?_
    refine x_ildn qX11_part_11 rfl ?_
    refine x_cS1 (d' := 1) qX11_part_12 cX11_188 rfl rfl (Nat.le_of_ble_eq_true rfl) (Nat.le_of_ble_eq_true rfl) (by decide) ?_
    refine c_X11_isEither (fun hw => ?_) (fun hw => ?_)
    · obtain ⟨ew, lw⟩ := inB_ix hw
      have ev : parA n kd mm (hcs hs hx) c1 w1 (nI j) w = tlA (F1 n kd mm (hcs hs hx) w1) (nxt kd mm n) (wys mm n) c1 (fun v => (1 - 2 * (ix w : Int)) * (sumN (fun i => lst 0 i (hcs hs hx)) mm (2 ^ j) n v : Nat)) (fun u v => (chI mm n 0 u v : Int)) (1 - 2 * (ix w : Int)) none := by
        unfold parA; rw [eb, hw, ej]; rfl
      rw [ev] at hQ
      refine x_if_ne_t (tgt := 20) qX11_part_15 (by omega) (by decide) ?_
      refine x_aldn qX11_part_20 rfl trivial ?_
      refine x_cV0 (d' := 6) qX11_part_21 cX11_166 rfl ⟨_, rfl, rfl⟩ rfl rfl (Nat.le_of_ble_eq_true rfl) (Nat.le_of_ble_eq_true rfl) (by decide) ?_
      refine c_X11_laid C (fun I' L' hD C' K' => ?_)
      refine x_ildn qX11_part_24 rfl ?_
      refine x_ildn qX11_part_25 rfl ?_
      refine x_iconst (v := nI 1) qX11_part_26 rfl ?_
      rw [ew]
      rcases (by omega : ix w = 0 ∨ ix w = 1) with e0 | e0
      · rw [e0] at hQ ⊢
        refine x_icmp_ne_t (tgt := 34) qX11_part_27 (by omega) (by decide) ?_
        refine x_iconst (v := nI 0) qX11_part_34 rfl ?_
        refine x_cV2 (d' := 6) qX11_part_35 cX11_201 rfl ⟨_, rfl, rfl⟩ rfl rfl (Nat.le_of_ble_eq_true rfl) (Nat.le_of_ble_eq_true rfl) (by decide) ?_
        refine c_X7_partOf (b := 0) (CI_hh C').1 (by omega) (Or.inl rfl) M.2.1 C'.1 (CI_hh C').2 hD (fun I2 L2 F => ?_)
        refine x_iret qX11_part_38 rfl rfl ?_
        exact KQ_FQ hQ C' K' F
      · rw [e0] at hQ ⊢
        refine x_icmp_ne_f (tgt := 34) qX11_part_27 (by omega) (by decide) ?_
        refine x_iconst (v := nI 1) qX11_part_30 rfl ?_
        refine x_goto (tgt := 35) qX11_part_31 (by omega) ?_
        refine x_cV2 (d' := 6) qX11_part_35 cX11_201 rfl ⟨_, rfl, rfl⟩ rfl rfl (Nat.le_of_ble_eq_true rfl) (Nat.le_of_ble_eq_true rfl) (by decide) ?_
        refine c_X7_partOf (b := 1) (CI_hh C').1 (by omega) (Or.inr rfl) M.2.1 C'.1 (CI_hh C').2 hD (fun I2 L2 F => ?_)
        refine x_iret qX11_part_38 rfl rfl ?_
        exact KQ_FQ hQ C' K' F
    · rw [no (fun e => by rw [hw, Bool.and_false] at e; cases e)] at hq
      refine x_if_ne_f (tgt := 20) qX11_part_15 (by omega) (by decide) ?_
      refine x_iconst (v := -1) qX11_part_18 rfl ?_
      refine x_iret qX11_part_19 rfl rfl ?_
      exact hq
  · rw [no (fun e => h (inB_iff.mp (by rw [Bool.and_eq_true] at e; exact e.1)))] at hq
    refine x_ifnull_n (a := 0) (tgt := 18) qX11_part_8 (by omega) ?_
    refine x_iconst (v := -1) qX11_part_18 rfl ?_
    refine x_iret qX11_part_19 rfl rfl ?_
    exact hq
theorem c_X11_wires {w : Int32} (C : CI n kd mm len tx hs hx c1 w1 c2 w2 im s tp I L) (hQ : KQ Q (.int (wirA n kd mm (hcs hs hx) c1 w1 c2 w2 w)) n (CI n kd mm len tx hs hx c1 w1 c2 w2 im s tp) I L) : cm_Ex l g 7 0 0 mX11_wires 0 [.ref 0, .int w] [] I L (RR n hr tl) (DD n) Q := by
  have hq := hQ I L hr tl C KM_rfl
  have M := C.2.2.2.2.1
  have M2 := C.2.2.2.2.2.1
  have hl1 := M.2.1
  have hl2 := M2.2.1
  refine x_ildn qX11_wires_0 rfl ?_
  refine x_cS1 (d' := 1) qX11_wires_1 cX11_188 rfl rfl (Nat.le_of_ble_eq_true rfl) (Nat.le_of_ble_eq_true rfl) (by decide) ?_
  refine c_X11_isEither (fun hw => ?_) (fun hw => ?_)
  · obtain ⟨ew, lw⟩ := inB_ix hw
    refine x_if_ne_t (tgt := 9) qX11_wires_4 (by omega) (by decide) ?_
    refine x_aldn qX11_wires_9 rfl trivial ?_
    refine x_getR qX11_wires_10 fX11_52 rfl rfl ?_
    refine x_getIe qX11_wires_13 fX11_104 (dd_M (Or.inr (Or.inl rfl))).1 M2.1 ?_
    refine x_aldn qX11_wires_16 rfl trivial ?_
    refine x_getR qX11_wires_17 fX11_48 rfl rfl ?_
    refine x_getIe qX11_wires_20 fX11_104 (dd_M (Or.inl rfl)).1 M.1 ?_
    refine x_icmp_eq_n (tgt := 29) qX11_wires_23 (by omega) (by omega) (by omega) (fun h => ?_) (fun h => ?_)
    · have ev : wirA n kd mm (hcs hs hx) c1 w1 c2 w2 w = (if ix w = 1 then optS (fst1 (wrp (opn kd mm n (btk (hcs hs hx))) (nxt kd mm n) (sumN (fun i => lst 0 i (hcs hs hx)) mm 15 n) w1 w2 (fun i => lst 0 i (hcs hs hx)) mm (lst 3 0 (hcs hs hx)) (wys mm n) c1 n) (2 ^ n) 0) else nI (cntB (wrp (opn kd mm n (btk (hcs hs hx))) (nxt kd mm n) (sumN (fun i => lst 0 i (hcs hs hx)) mm 15 n) w1 w2 (fun i => lst 0 i (hcs hs hx)) mm (lst 3 0 (hcs hs hx)) (wys mm n) c1 n) (2 ^ n))) := by
        unfold wirA; rw [if_pos hw, if_pos h]
      rw [ev] at hQ
      refine x_aldn qX11_wires_29 rfl trivial ?_
      refine x_cV0 (d' := 6) qX11_wires_30 cX11_166 rfl ⟨_, rfl, rfl⟩ rfl rfl (Nat.le_of_ble_eq_true rfl) (Nat.le_of_ble_eq_true rfl) (by decide) ?_
      refine c_X11_laid C (fun I' L' hD C' K' => ?_)
      have M2' := C'.2.2.2.2.2.1
      rw [h] at M2'
      refine x_aldn qX11_wires_33 rfl trivial ?_
      refine x_getR qX11_wires_34 fX11_52 rfl rfl ?_
      refine x_ildn qX11_wires_37 rfl ?_
      refine x_iconst (v := nI 1) qX11_wires_38 rfl ?_
      rw [ew]
      rcases (by omega : ix w = 0 ∨ ix w = 1) with e0 | e0
      · rw [e0] at hQ ⊢
        refine x_icmp_ne_t (tgt := 46) qX11_wires_39 (by omega) (by decide) ?_
        refine x_iconst (v := nI 0) qX11_wires_46 rfl ?_
        refine x_cV2 (d' := 6) qX11_wires_47 cX11_204 rfl ⟨_, rfl, rfl⟩ rfl rfl (Nat.le_of_ble_eq_true rfl) (Nat.le_of_ble_eq_true rfl) (by decide) ?_
        refine c_X7_wiredSets (b := 0) (Or.inl rfl) (CI_hh C').1 C'.1 (CI_hh C').2 C'.2.2.2.2.1 M2' hD (fun I2 L2 F => ?_)
        refine x_iret qX11_wires_50 rfl rfl ?_
        exact KQ_FQ hQ C' K' F
      · rw [e0] at hQ ⊢
        refine x_icmp_ne_f (tgt := 46) qX11_wires_39 (by omega) (by decide) ?_
        refine x_iconst (v := nI 1) qX11_wires_42 rfl ?_
        refine x_goto (tgt := 47) qX11_wires_43 (by omega) ?_
        refine x_cV2 (d' := 6) qX11_wires_47 cX11_204 rfl ⟨_, rfl, rfl⟩ rfl rfl (Nat.le_of_ble_eq_true rfl) (Nat.le_of_ble_eq_true rfl) (by decide) ?_
        refine c_X7_wiredSets (b := 1) (Or.inr rfl) (CI_hh C').1 C'.1 (CI_hh C').2 C'.2.2.2.2.1 M2' hD (fun I2 L2 F => ?_)
        refine x_iret qX11_wires_50 rfl rfl ?_
        exact KQ_FQ hQ C' K' F
    · have ev : wirA n kd mm (hcs hs hx) c1 w1 c2 w2 w = -3 := by unfold wirA; rw [if_pos hw, if_neg h]
      rw [ev] at hq
      refine x_bipush (v := -3) qX11_wires_26 rfl ?_
      refine x_iret qX11_wires_28 rfl rfl ?_
      exact hq
  · have ev : wirA n kd mm (hcs hs hx) c1 w1 c2 w2 w = -1 := by unfold wirA; rw [if_neg (by rw [hw]; decide)]
    rw [ev] at hq
    refine x_if_ne_f (tgt := 9) qX11_wires_4 (by omega) (by decide) ?_
    refine x_iconst (v := -1) qX11_wires_7 rfl ?_
    refine x_iret qX11_wires_8 rfl rfl ?_
    exact hq
theorem c_X11_coarse {r t : Int32} (C : CI n kd mm len tx hs hx c1 w1 c2 w2 im s tp I L) (hQ : KQ Q (.int (coaA n kd mm (hcs hs hx) c1 w1 r t)) n (CI n kd mm len tx hs hx c1 w1 c2 w2 im s tp) I L) : cm_Ex l g 7 0 0 mX11_coarse 0 [.ref 0, .int r, .int t] [] I L (RR n hr tl) (DD n) Q := by
  have hq := hQ I L hr tl C KM_rfl
  have M := C.2.2.2.2.1
  have H := C.1
  have hn4 := H.1
  have no : ¬ (inB r c1 && inB t n) = true → coaA n kd mm (hcs hs hx) c1 w1 r t = -1 := fun e => by unfold coaA; rw [if_neg e]
  refine x_aldn qX11_coarse_0 rfl trivial ?_
  refine x_getR qX11_coarse_1 fX11_48 rfl rfl ?_
  refine x_ildn qX11_coarse_4 rfl ?_
  refine x_cV1 (d' := 1) qX11_coarse_5 cX11_160 (dd_M (Or.inl rfl)).1 ⟨_, rfl, rfl⟩ rfl rfl (Nat.le_of_ble_eq_true rfl) (Nat.le_of_ble_eq_true rfl) (by decide) ?_
  refine c_X5_has (Or.inl rfl) M.1 M.2.1 (fun h => ?_) (fun h => ?_)
  · have h2 := inB_iff.mpr h
    obtain ⟨er, lr⟩ := inB_ix h2
    refine x_if_eq_f (tgt := 22) qX11_coarse_8 (by omega) (by decide) ?_
    refine x_aldn qX11_coarse_11 rfl trivial ?_
    refine x_getR qX11_coarse_12 fX11_12 rfl rfl ?_
    refine x_ildn qX11_coarse_15 rfl ?_
    refine x_cV1 (d' := 1) qX11_coarse_16 cX11_115 rfl ⟨_, rfl, rfl⟩ rfl rfl (Nat.le_of_ble_eq_true rfl) (Nat.le_of_ble_eq_true rfl) (by decide) ?_
    refine c_X3_thingAt H (fun j hj e => ?_) (fun h => ?_)
    · subst e
      have eb := inB_nI hj (show n < 1000000 by omega)
      have ej := ix_nI (j := j) (by omega)
      have ev : coaA n kd mm (hcs hs hx) c1 w1 r (nI j) = optS (fst1 (cop (opn kd mm n (btk (hcs hs hx))) (nxt kd mm n) (sumN (fun i => lst 0 i (hcs hs hx)) mm 15 n) w1 mm (lst 3 0 (hcs hs hx)) (wys mm n) c1 (ix r) j) 60 1) := by
        unfold coaA; rw [h2, eb, ej]; rfl
      rw [ev] at hQ
      refine x_ifnonnull (tgt := 24) qX11_coarse_19 (by omega) ?_
      refine x_aldn qX11_coarse_24 rfl trivial ?_
      refine x_cV0 (d' := 6) qX11_coarse_25 cX11_166 rfl ⟨_, rfl, rfl⟩ rfl rfl (Nat.le_of_ble_eq_true rfl) (Nat.le_of_ble_eq_true rfl) (by decide) ?_
      refine c_X11_laid C (fun I' L' hD C' K' => ?_)
      refine x_ildn qX11_coarse_28 rfl ?_
      refine x_ildn qX11_coarse_29 rfl ?_
      rw [er]
      refine x_cV2 (d' := 6) qX11_coarse_30 cX11_208 rfl ⟨_, rfl, rfl⟩ rfl rfl (Nat.le_of_ble_eq_true rfl) (Nat.le_of_ble_eq_true rfl) (by decide) ?_
      refine c_X7_leastCoarse (CI_hh C').1 lr hj C'.1 (CI_hh C').2 C'.2.2.2.2.1 hD (fun L2 F => ?_)
      refine x_iret qX11_coarse_33 rfl rfl ?_
      exact KQ_FQ hQ C' K' F
    · rw [no (fun e => h (inB_iff.mp (by rw [Bool.and_eq_true] at e; exact e.2)))] at hq
      refine x_ifnonnull_n (a := 0) qX11_coarse_19 ?_
      refine x_iconst (v := -1) qX11_coarse_22 rfl ?_
      refine x_iret qX11_coarse_23 rfl rfl ?_
      exact hq
  · rw [no (fun e => h (inB_iff.mp (by rw [Bool.and_eq_true] at e; exact e.1)))] at hq
    refine x_if_eq_t (tgt := 22) qX11_coarse_8 (by omega) (by decide) ?_
    refine x_iconst (v := -1) qX11_coarse_22 rfl ?_
    refine x_iret qX11_coarse_23 rfl rfl ?_
    exact hq
end K33
