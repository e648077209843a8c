/-! CellarMeter: house, image, undo, act, trace, taken, count -/
theorem hA_apart {h j b : Nat} (hh : h < 7) (hj : j < 7) (hne : h ≠ j) (h1 : hA j ≤ b) (h2 : b ≤ hA j + 3) : b < hA h ∨ hA h + 3 < b := by
  have a := hA_c hh
  have c := hA_c hj
  omega
theorem IMG_app {im : IM} {hs : List (List Cls)} {cs : List Cls} {I : cm_I} (M : IMG im hs I) : IMG im (hs ++ [cs]) I := by
  cases im with
  | none => exact M
  | some q =>
    obtain ⟨a, x, b, y, z⟩ := q
    obtain ⟨m1, m2, m3, m4, m5⟩ := M
    exact ⟨m1, m2, m3, m4, by rw [List.length_append]; rcases m5 with h | h; exact Or.inl (by simp only [List.length_cons, List.length_nil]; omega); exact Or.inr h⟩
section K36
variable {l : Launch} {g : cm_G} {I : cm_I} {L : cm_L} {hr tl : Option Nat} {Q : cm_Post} {n : Nat} {kd mm : Nat → Nat} {len : Nat} {tx : Nat → Nat} {hs : List (List Cls)} {hx c1 : Nat} {w1 : Nat → Nat} {c2 : Nat} {w2 : Nat → Nat} {im : IM} {s : List Nat} {tp : TP}
theorem c_X11_house (C : CI n kd mm len tx hs hx c1 w1 c2 w2 im s tp I L) (hful : ¬ hs.length < 6 → KQ Q (.int (-4)) n (CI n kd mm len tx hs hx c1 w1 c2 w2 im s tp) I L) (hno : hs.length < 6 → ∀ p, pAll (pk len tx) len 12 0 [] = (p, none) → KQ Q (.int (-10 - nI p)) n (CI n kd mm 0 tx hs hx c1 w1 c2 w2 im s tp) I L)
  (hok : hs.length < 6 → ∀ p cs, pAll (pk len tx) len 12 0 [] = (p, some cs) → KQ Q (.int (nI hs.length)) n (CI n kd mm 0 tx (hs ++ [cs]) hs.length c1 w1 c2 w2 im s tp) I L) : cm_Ex l g 29 0 0 mX11_house 0 [.ref 0, .float 0] [] I L (RR n hr tl) (DD n) Q := by
  obtain ⟨a1, a2, ⟨b1, b2, b3, b4⟩, ⟨d1, d2⟩, e1, e2, f, ⟨g1, g2⟩, kk⟩ := id C
  refine x_aldn qX11_house_0 rfl trivial ?_
  refine x_getIe qX11_house_1 fX11_83 rfl b1 ?_
  refine x_if_lt_nf (tgt := 19) qX11_house_4 (by omega) (by omega) ?_
  refine x_aldn qX11_house_7 rfl trivial ?_
  refine x_getIe qX11_house_8 fX11_83 rfl b1 ?_
  refine x_aldn qX11_house_11 rfl trivial ?_
  refine x_getR qX11_house_12 fX11_36 rfl rfl ?_
  refine x_alen qX11_house_15 rfl (by decide) rfl ?_
  refine x_icmp_lt_n (tgt := 22) qX11_house_16 (by omega) (by omega) (by omega) (fun h16 => ?_) (fun h16 => ?_)
  · have hc := hA_c (h := hs.length) (by omega)
    have old : ∀ I', FR hs.length I I' → ∀ h cs, hs[h]? = some cs → HS h cs I' := fun I' F h cs hh => by
      have hl : h < hs.length := (List.getElem?_eq_some_iff.mp hh).1
      have hch := hA_c (h := h) (by omega)
      exact HS_fr (b3 h cs hh) (fun b h1 h2 => F b (by omega) (hA_apart (by omega) (by omega) (by omega) h1 h2))
    have old6 : ∀ I', FR hs.length I I' → HS 6 [] I' := fun I' F => by
      have hch := hA_c (h := 6) (by omega)
      exact HS_fr b4 (fun b h1 h2 => F b (by omega) (hA_apart (by omega) (by omega) (by omega) h1 h2))
    refine x_aldn qX11_house_22 rfl trivial ?_
    refine x_getR qX11_house_23 fX11_30 rfl rfl ?_
    refine x_aldn qX11_house_26 rfl trivial ?_
    refine x_getR qX11_house_27 fX11_36 rfl rfl ?_
    refine x_aldn qX11_house_30 rfl trivial ?_
    refine x_getIe qX11_house_31 fX11_83 rfl b1 ?_
    refine x_aalde qX11_house_34 rfl (by decide) rfl (by omega) (by decide) (rr_hs h16) ?_
    refine x_cV1 (d' := 28) qX11_house_35 cX11_151 rfl ⟨_, rfl, rfl⟩ rfl rfl (Nat.le_of_ble_eq_true rfl) (Nat.le_of_ble_eq_true rfl) (by decide) ?_
    refine c_X2_fill (h := hs.length) (by omega) a2 (fun p cs I' hp S F => ?_) (fun p I' hp S F => ?_)
    · have h0 : I' 0 = I 0 := F 0 (by omega) (by omega)
      have hS : HS hs.length cs I' := RC_HS hp S
      refine x_ist1 qX11_house_38 (by decide) rfl ?_
      refine x_aldn qX11_house_39 rfl trivial ?_
      refine x_getR qX11_house_40 fX11_21 rfl rfl ?_
      refine x_iconst (v := nI 0) qX11_house_43 rfl ?_
      refine x_putI qX11_house_44 fX11_145 (Or.inl rfl) rfl ?_
      refine x_ildn qX11_house_47 rfl ?_
      refine x_if_lt_t (tgt := 56) qX11_house_48 (by omega) (by decide) ?_
      refine x_aldn qX11_house_56 rfl trivial ?_
      refine x_aldn qX11_house_57 rfl trivial ?_
      refine x_getIe qX11_house_58 fX11_83 rfl ((congrFun ((cm_u_ne (by decide)).trans h0) 12).trans b1) ?_
      refine x_putI qX11_house_61 fX11_87 (Or.inl rfl) rfl ?_
      have h12 : cm_u (cm_u I' 7 1 (nI 0)) 0 13 (nI hs.length) 0 12 = nI hs.length := by
        rw [cm_uu]
        show cm_u I' 7 1 (nI 0) 0 12 = _
        rw [cm_u_ne (by decide), h0]; exact b1
      refine x_aldn qX11_house_64 rfl trivial ?_
      refine x_dup qX11_house_65 rfl ?_
      refine x_getIe qX11_house_66 fX11_83 rfl h12 ?_
      refine x_iconst (v := nI 1) qX11_house_69 rfl ?_
      refine x_iadd_n qX11_house_70 ?_
      refine x_putI qX11_house_71 fX11_83 (Or.inl rfl) rfl ?_
      refine x_aldn qX11_house_74 rfl trivial ?_
      refine x_getI qX11_house_75 fX11_87 rfl ?_
      refine x_iret qX11_house_78 rfl rfl ?_
      have fr : ∀ b, b ≠ 0 → b ≠ 7 → cm_u (cm_u (cm_u I' 7 1 (nI 0)) 0 13 (nI hs.length)) 0 12 (nI (hs.length + 1)) b = I' b := fun b h1 h2 => by rw [cm_u_ne h1, cm_u_ne h1, cm_u_ne h2]
      refine hok h16 p cs hp _ L _ _ ⟨?_, ⟨?_, by omega, fun p hp => by omega⟩, ⟨?_, ?_, fun h cs' hh => ?_, ?_⟩, ⟨Or.inl (by simp), ?_⟩, ?_, ?_, ?_, ⟨?_, g2⟩, ?_⟩ (fun b h1 h2 => ⟨by rw [fr b (by omega) (by omega)]; exact F b (by omega) (by omega), rfl⟩)
      · exact HI_frame a1 (fun b hb => by rw [fr b (by omega) (by omega)]; exact F b (by omega) (by omega)) (fun _ _ => rfl)
      · rw [cm_u_ne (by decide), cm_u_ne (by decide), cm_uu]; rfl
      · rw [cm_uu, List.length_append]; rfl
      · rw [List.length_append]; simp only [List.length_cons, List.length_nil]; omega
      · have hl : h < (hs ++ [cs]).length := (List.getElem?_eq_some_iff.mp hh).1
        rw [List.length_append] at hl
        simp only [List.length_cons, List.length_nil] at hl
        have hch := hA_c (h := h) (by omega)
        by_cases e : h < hs.length
        · rw [List.getElem?_append_left e] at hh
          exact HS_fr (old I' F h cs' hh) (fun b h1 h2 => fr b (by omega) (by omega))
        · have e2 : h = hs.length := by omega
          subst e2
          rw [List.getElem?_append_right (Nat.le_refl _), Nat.sub_self] at hh
          cases hh
          exact HS_fr hS (fun b h1 h2 => fr b (by omega) (by omega))
      · have hch := hA_c (h := 6) (by omega)
        exact HS_fr (old6 I' F) (fun b h1 h2 => fr b (by omega) (by omega))
      · rw [cm_uu, cm_uu]
        show nI hs.length = _
        unfold hxI; rw [if_neg (by omega)]
      · exact MT_fr e1 (by rw [fr 15 (by omega) (by omega)]; exact F 15 (by omega) (by omega)) (by rw [fr 16 (by omega) (by omega)]; exact F 16 (by omega) (by omega))
      · exact MT_fr e2 (by rw [fr 17 (by omega) (by omega)]; exact F 17 (by omega) (by omega)) (by rw [fr 18 (by omega) (by omega)]; exact F 18 (by omega) (by omega))
      · refine IMG_app (IMG_fr f ?_ ?_ (fun b h1 h2 => by rw [fr b (by omega) (by omega)]; exact F b (by omega) (by omega)))
        · rw [cm_uu, cm_uu, cm_u_ne (by decide), h0]; rfl
        · rw [cm_uu, cm_uu, cm_u_ne (by decide), h0]; rfl
      · exact TRC_fr g1 (by rw [fr 34 (by omega) (by omega)]; exact F 34 (by omega) (by omega)) (by rw [fr 35 (by omega) (by omega)]; exact F 35 (by omega) (by omega))
      · exact TPS_fr kk (fun b h1 h2 => by rw [fr b (by omega) (by omega)]; exact F b (by omega) (by omega)) (fun _ _ _ => rfl)
    · have h0 : I' 0 = I 0 := F 0 (by omega) (by omega)
      have hp100 : p ≤ 100 := by have := S.2.1; have := a2.2.1; omega
      refine x_ist1 qX11_house_38 (by decide) rfl ?_
      refine x_aldn qX11_house_39 rfl trivial ?_
      refine x_getR qX11_house_40 fX11_21 rfl rfl ?_
      refine x_iconst (v := nI 0) qX11_house_43 rfl ?_
      refine x_putI qX11_house_44 fX11_145 (Or.inl rfl) rfl ?_
      refine x_ildn qX11_house_47 rfl ?_
      refine x_if_lt_f (tgt := 56) qX11_house_48 (by omega) (nI_pos (by omega)) ?_
      refine x_bipush (v := -10) qX11_house_51 rfl ?_
      refine x_ildn qX11_house_53 rfl ?_
      refine x_isub qX11_house_54 ?_
      refine x_iret qX11_house_55 rfl rfl ?_
      have fr : ∀ b, b ≠ 7 → cm_u I' 7 1 (nI 0) b = I' b := fun b h1 => cm_u_ne h1
      refine hno h16 p hp _ L _ _ ⟨?_, ⟨?_, by omega, fun p hp => by omega⟩, ⟨?_, b2, fun h cs' hh => ?_, ?_⟩, ⟨d1, ?_⟩, ?_, ?_, ?_, ⟨?_, g2⟩, ?_⟩ (fun b h1 h2 => ⟨by rw [fr b (by omega)]; exact F b (by omega) (by omega), rfl⟩)
      · exact HI_frame a1 (fun b hb => by rw [fr b (by omega)]; exact F b (by omega) (by omega)) (fun _ _ => rfl)
      · rw [cm_uu]; rfl
      · rw [fr 0 (by decide), h0]; exact b1
      · have hl : h < hs.length := (List.getElem?_eq_some_iff.mp hh).1
        have hch := hA_c (h := h) (by omega)
        exact HS_fr (old I' F h cs' hh) (fun b h1 h2 => fr b (by omega))
      · have hch := hA_c (h := 6) (by omega)
        exact HS_fr (old6 I' F) (fun b h1 h2 => fr b (by omega))
      · rw [fr 0 (by decide), h0]; exact d2
      · exact MT_fr e1 (by rw [fr 15 (by omega)]; exact F 15 (by omega) (by omega)) (by rw [fr 16 (by omega)]; exact F 16 (by omega) (by omega))
      · exact MT_fr e2 (by rw [fr 17 (by omega)]; exact F 17 (by omega) (by omega)) (by rw [fr 18 (by omega)]; exact F 18 (by omega) (by omega))
      · exact IMG_fr f (by rw [fr 0 (by decide), h0]) (by rw [fr 0 (by decide), h0]) (fun b h1 h2 => by rw [fr b (by omega)]; exact F b (by omega) (by omega))
      · exact TRC_fr g1 (by rw [fr 34 (by omega)]; exact F 34 (by omega) (by omega)) (by rw [fr 35 (by omega)]; exact F 35 (by omega) (by omega))
      · exact TPS_fr kk (fun b h1 h2 => by rw [fr b (by omega)]; exact F b (by omega) (by omega)) (fun _ _ _ => rfl)
  · have hq := hful (by omega) I L hr tl C KM_rfl
    refine x_bipush (v := -4) qX11_house_19 rfl ?_
    refine x_iret qX11_house_21 rfl rfl ?_
    exact hq
theorem MT_copy {k j c : Nat} {w : Nat → Nat} (M : MT j c w I) : MT k c w (cm_u (fun b i => if b = k + 1 ∧ i < 12 then I (j + 1) i else I b i) k 1 (I j 1)) := by
  obtain ⟨a, b, d⟩ := M
  refine ⟨by rw [cm_uu]; exact a, b, fun i hi => ?_⟩
  rw [cm_u_ne (by omega)]
  show (if k + 1 = k + 1 ∧ i < 12 then _ else _) = _ ∧ _
  rw [if_pos ⟨rfl, by omega⟩]
  exact d i hi
theorem MT_cfr {k j b : Nat} {v : Int32} (h1 : b ≠ k) (h2 : b ≠ k + 1) : cm_u (fun b i => if b = k + 1 ∧ i < 12 then I (j + 1) i else I b i) k 1 v b = I b := by
  rw [cm_u_ne h1]
  funext i
  show (if b = k + 1 ∧ i < 12 then _ else _) = _
  rw [if_neg (fun e => h2 e.1)]
theorem c_X11_image (C : CI n kd mm len tx hs hx c1 w1 c2 w2 im s tp I L) (hQ : KQ Q (.int (nI c1)) n (CI n kd mm len tx hs hx c1 w1 c2 w2 (some (c1, w1, c2, w2, hx)) s tp) I L) : cm_Ex l g 2 0 0 mX11_image 0 [.ref 0] [] I L (RR n hr tl) (DD n) Q := by
  obtain ⟨a1, a2, ⟨b1, b2, b3, b4⟩, ⟨d1, d2⟩, e1, e2, f, ⟨g1, g2⟩, kk⟩ := id C
  refine x_aldn qX11_image_0 rfl trivial ?_
  refine x_getR qX11_image_1 fX11_55 rfl rfl ?_
  refine x_aldn qX11_image_4 rfl trivial ?_
  refine x_getR qX11_image_5 fX11_48 rfl rfl ?_
  refine x_cV1 (d' := 1) qX11_image_8 cX11_226 rfl ⟨_, rfl, rfl⟩ rfl rfl (Nat.le_of_ble_eq_true rfl) (Nat.le_of_ble_eq_true rfl) (by decide) ?_
  refine c_X5_copy (k := 19) (j := 15) (Or.inr (Or.inr (Or.inl rfl))) (Or.inl rfl) (by decide) ?_
  have M1 := MT_copy (k := 19) e1
  have fr1 : ∀ b, b ≠ 19 → b ≠ 20 → cm_u (fun b i => if b = 19 + 1 ∧ i < 12 then I (15 + 1) i else I b i) 19 1 (I 15 1) b = I b := fun b h1 h2 => MT_cfr (k := 19) (j := 15) h1 h2
  generalize cm_u (fun b i => if b = 19 + 1 ∧ i < 12 then I (15 + 1) i else I b i) 19 1 (I 15 1) = I1 at *
  refine x_aldn qX11_image_11 rfl trivial ?_
  refine x_getR qX11_image_12 fX11_58 rfl rfl ?_
  refine x_aldn qX11_image_15 rfl trivial ?_
  refine x_getR qX11_image_16 fX11_52 rfl rfl ?_
  refine x_cV1 (d' := 1) qX11_image_19 cX11_226 rfl ⟨_, rfl, rfl⟩ rfl rfl (Nat.le_of_ble_eq_true rfl) (Nat.le_of_ble_eq_true rfl) (by decide) ?_
  refine c_X5_copy (k := 21) (j := 17) (Or.inr (Or.inr (Or.inr rfl))) (Or.inr (Or.inl rfl)) (by decide) ?_
  have M2 := MT_copy (I := I1) (k := 21) (MT_fr e2 (fr1 17 (by decide) (by decide)) (fr1 18 (by decide) (by decide)))
  have fr2 : ∀ b, b ≠ 21 → b ≠ 22 → cm_u (fun b i => if b = 21 + 1 ∧ i < 12 then I1 (17 + 1) i else I1 b i) 21 1 (I1 17 1) b = I1 b := fun b h1 h2 => MT_cfr (k := 21) (j := 17) h1 h2
  generalize cm_u (fun b i => if b = 21 + 1 ∧ i < 12 then I1 (17 + 1) i else I1 b i) 21 1 (I1 17 1) = I2 at *
  have fr : ∀ b, b < 19 ∨ 22 < b → I2 b = I b := fun b hb => by rw [fr2 b (by omega) (by omega)]; exact fr1 b (by omega) (by omega)
  have h0 : I2 0 = I 0 := fr 0 (by omega)
  refine x_aldn qX11_image_22 rfl trivial ?_
  refine x_aldn qX11_image_23 rfl trivial ?_
  refine x_getIe qX11_image_24 fX11_87 rfl ((congrFun h0 13).trans d2) ?_
  refine x_putI qX11_image_27 fX11_90 (Or.inl rfl) rfl ?_
  refine x_aldn qX11_image_30 rfl trivial ?_
  refine x_iconst (v := nI 1) qX11_image_31 rfl ?_
  refine x_putZ qX11_image_32 fX11_93 (Or.inl rfl) rfl (by decide) ?_
  refine x_aldn qX11_image_35 rfl trivial ?_
  refine x_getR qX11_image_36 fX11_48 rfl rfl ?_
  refine x_getIe qX11_image_39 fX11_104 (dd_M (Or.inl rfl)).1 ((congrFun ((cm_u_ne (by decide)).trans ((cm_u_ne (by decide)).trans (fr 15 (by omega)))) 1).trans e1.1) ?_
  refine x_iret qX11_image_42 rfl rfl ?_
  have fr3 : ∀ b, b ≠ 0 → cm_u (cm_u I2 0 14 (hxI hx)) 0 15 (nI 1) b = I2 b := fun b h1 => by rw [cm_u_ne h1, cm_u_ne h1]
  have fr4 : ∀ b, b ≠ 0 → b < 19 ∨ 22 < b → cm_u (cm_u I2 0 14 (hxI hx)) 0 15 (nI 1) b = I b := fun b h1 h2 => by rw [fr3 b h1]; exact fr b h2
  refine hQ _ L _ _ ⟨?_, ?_, ⟨?_, b2, fun h cs' hh => ?_, ?_⟩, ⟨d1, ?_⟩, ?_, ?_, ⟨?_, ?_, ?_, ?_, d1⟩, ⟨?_, g2⟩, ?_⟩ (fun b h1 h2 => ⟨fr4 b (by omega) (by omega), rfl⟩)
  · exact HI_frame a1 (fun b hb => fr4 b (by omega) (by omega)) (fun _ _ => rfl)
  · exact TX_fr2 a2 (fr4 7 (by omega) (by omega)) (fr4 8 (by omega) (by omega))
  · rw [cm_uu, cm_uu]
    show I2 0 12 = _
    rw [h0]; exact b1
  · have hl : h < hs.length := (List.getElem?_eq_some_iff.mp hh).1
    have hch := hA_c (h := h) (by omega)
    exact HS_fr (b3 h cs' hh) (fun b h1 h2 => fr4 b (by omega) (by omega))
  · have hch := hA_c (h := 6) (by omega)
    exact HS_fr b4 (fun b h1 h2 => fr4 b (by omega) (by omega))
  · rw [cm_uu, cm_uu]
    show I2 0 13 = _
    rw [h0]; exact d2
  · exact MT_fr e1 (fr4 15 (by omega) (by omega)) (fr4 16 (by omega) (by omega))
  · exact MT_fr e2 (fr4 17 (by omega) (by omega)) (fr4 18 (by omega) (by omega))
  · rw [cm_uu]; rfl
  · exact MT_fr M1 (by rw [fr3 19 (by omega)]; exact fr2 19 (by omega) (by omega)) (by rw [fr3 20 (by omega)]; exact fr2 20 (by omega) (by omega))
  · exact MT_fr M2 (fr3 21 (by omega)) (fr3 22 (by omega))
  · rw [cm_uu, cm_uu]; rfl
  · exact TRC_fr g1 (fr4 34 (by omega) (by omega)) (fr4 35 (by omega) (by omega))
  · exact TPS_fr kk (fun b h1 h2 => fr4 b (by omega) (by omega)) (fun _ _ _ => rfl)
theorem c_X11_undo (C : CI n kd mm len tx hs hx c1 w1 c2 w2 im s tp I L) (hno : im = none → KQ Q (.int (-3)) n (CI n kd mm len tx hs hx c1 w1 c2 w2 im s tp) I L) (hok : ∀ a x b y z, im = some (a, x, b, y, z) → KQ Q (.int (nI a)) n (CI n kd mm len tx hs z a x b y im s tp) I L) : cm_Ex l g 2 0 0 mX11_undo 0 [.ref 0] [] I L (RR n hr tl) (DD n) Q := by
  obtain ⟨a1, a2, ⟨b1, b2, b3, b4⟩, ⟨d1, d2⟩, e1, e2, f, ⟨g1, g2⟩, kk⟩ := id C
  cases him : im with
  | none =>
    rw [him] at f
    have hq := hno him I L hr tl (him ▸ C) KM_rfl
    refine x_aldn qX11_undo_0 rfl trivial ?_
    refine x_getZe qX11_undo_1 fX11_93 rfl (show I 0 15 = 0 from f) ?_
    refine x_if_ne_f (tgt := 10) qX11_undo_4 (by omega) (by decide) ?_
    refine x_bipush (v := -3) qX11_undo_7 rfl ?_
    refine x_iret qX11_undo_9 rfl rfl ?_
    exact hq
  | some q =>
    obtain ⟨a, x, b, y, z⟩ := q
    rw [him] at f
    obtain ⟨m1, m2, m3, m4, m5⟩ := id f
    refine x_aldn qX11_undo_0 rfl trivial ?_
    refine x_getZe qX11_undo_1 fX11_93 rfl m1 ?_
    refine x_if_ne_t (tgt := 10) qX11_undo_4 (by omega) (by decide) ?_
    refine x_aldn qX11_undo_10 rfl trivial ?_
    refine x_getR qX11_undo_11 fX11_48 rfl rfl ?_
    refine x_aldn qX11_undo_14 rfl trivial ?_
    refine x_getR qX11_undo_15 fX11_55 rfl rfl ?_
    refine x_cV1 (d' := 1) qX11_undo_18 cX11_226 rfl ⟨_, rfl, rfl⟩ rfl rfl (Nat.le_of_ble_eq_true rfl) (Nat.le_of_ble_eq_true rfl) (by decide) ?_
    refine c_X5_copy (k := 15) (j := 19) (Or.inl rfl) (Or.inr (Or.inr (Or.inl rfl))) (by decide) ?_
    have M1 := MT_copy (k := 15) m2
    have fr1 : ∀ b, b ≠ 15 → b ≠ 16 → cm_u (fun b i => if b = 15 + 1 ∧ i < 12 then I (19 + 1) i else I b i) 15 1 (I 19 1) b = I b := fun b h1 h2 => MT_cfr (k := 15) (j := 19) h1 h2
    generalize cm_u (fun b i => if b = 15 + 1 ∧ i < 12 then I (19 + 1) i else I b i) 15 1 (I 19 1) = I1 at *
    refine x_aldn qX11_undo_21 rfl trivial ?_
    refine x_getR qX11_undo_22 fX11_52 rfl rfl ?_
    refine x_aldn qX11_undo_25 rfl trivial ?_
    refine x_getR qX11_undo_26 fX11_58 rfl rfl ?_
    refine x_cV1 (d' := 1) qX11_undo_29 cX11_226 rfl ⟨_, rfl, rfl⟩ rfl rfl (Nat.le_of_ble_eq_true rfl) (Nat.le_of_ble_eq_true rfl) (by decide) ?_
    refine c_X5_copy (k := 17) (j := 21) (Or.inr (Or.inl rfl)) (Or.inr (Or.inr (Or.inr rfl))) (by decide) ?_
    have M2 := MT_copy (I := I1) (k := 17) (MT_fr m3 (fr1 21 (by decide) (by decide)) (fr1 22 (by decide) (by decide)))
    have fr2 : ∀ b, b ≠ 17 → b ≠ 18 → cm_u (fun b i => if b = 17 + 1 ∧ i < 12 then I1 (21 + 1) i else I1 b i) 17 1 (I1 21 1) b = I1 b := fun b h1 h2 => MT_cfr (k := 17) (j := 21) h1 h2
    generalize cm_u (fun b i => if b = 17 + 1 ∧ i < 12 then I1 (21 + 1) i else I1 b i) 17 1 (I1 21 1) = I2 at *
    have fr : ∀ b, b < 15 ∨ 18 < b → I2 b = I b := fun b hb => by rw [fr2 b (by omega) (by omega)]; exact fr1 b (by omega) (by omega)
    have h0 : I2 0 = I 0 := fr 0 (by omega)
    have M1' : MT 15 a x I2 := MT_fr M1 (fr2 15 (by omega) (by omega)) (fr2 16 (by omega) (by omega))
    refine x_aldn qX11_undo_32 rfl trivial ?_
    refine x_aldn qX11_undo_33 rfl trivial ?_
    refine x_getIe qX11_undo_34 fX11_90 rfl ((congrFun h0 14).trans m4) ?_
    refine x_putI qX11_undo_37 fX11_87 (Or.inl rfl) rfl ?_
    refine x_aldn qX11_undo_40 rfl trivial ?_
    refine x_getR qX11_undo_41 fX11_48 rfl rfl ?_
    refine x_getIe qX11_undo_44 fX11_104 (dd_M (Or.inl rfl)).1 ((congrFun (cm_u_ne (by decide)) 1).trans M1'.1) ?_
    refine x_iret qX11_undo_47 rfl rfl ?_
    have fr3 : ∀ b, b ≠ 0 → cm_u I2 0 13 (hxI z) b = I2 b := fun b h1 => by rw [cm_u_ne h1]
    have fr4 : ∀ b, b ≠ 0 → b < 15 ∨ 18 < b → cm_u I2 0 13 (hxI z) b = I b := fun b h1 h2 => by rw [fr3 b h1]; exact fr b h2
    refine hok a x b y z him _ L _ _ ⟨?_, ?_, ⟨?_, b2, fun h cs' hh => ?_, ?_⟩, ⟨m5, ?_⟩, ?_, ?_, ?_, ⟨?_, g2⟩, ?_⟩ (fun b h1 h2 => ⟨fr4 b (by omega) (by omega), rfl⟩)
    · exact HI_frame a1 (fun b hb => fr4 b (by omega) (by omega)) (fun _ _ => rfl)
    · exact TX_fr2 a2 (fr4 7 (by omega) (by omega)) (fr4 8 (by omega) (by omega))
    · rw [cm_uu]
      show I2 0 12 = _
      rw [h0]; exact b1
    · have hl : h < hs.length := (List.getElem?_eq_some_iff.mp hh).1
      have hch := hA_c (h := h) (by omega)
      exact HS_fr (b3 h cs' hh) (fun b h1 h2 => fr4 b (by omega) (by omega))
    · have hch := hA_c (h := 6) (by omega)
      exact HS_fr b4 (fun b h1 h2 => fr4 b (by omega) (by omega))
    · rw [cm_uu]; rfl
    · exact MT_fr M1' (fr3 15 (by omega)) (fr3 16 (by omega))
    · exact MT_fr M2 (fr3 17 (by omega)) (fr3 18 (by omega))
    · rw [him]
      exact IMG_fr f (by rw [cm_uu, ← h0]; rfl) (by rw [cm_uu, ← h0]; rfl) (fun b h1 h2 => fr4 b (by omega) (by omega))
    · exact TRC_fr g1 (fr4 34 (by omega) (by omega)) (fr4 35 (by omega) (by omega))
    · exact TPS_fr kk (fun b h1 h2 => fr4 b (by omega) (by omega)) (fun _ _ _ => rfl)
end K36
