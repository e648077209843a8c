/-! CellarMeter: feed, house, reading, clear -/
def fedC (len : Nat) (k : Int32) : Prop := (0 ≤ k.toInt ∧ k.toInt ≤ 4) ∧ len + ix k ≤ 100
def fedA (k : Int32) : Int32 := if 0 ≤ k.toInt ∧ k.toInt ≤ 4 then -4 else -2
def rdgC (c : Nat) (m w : Int32) : Prop := inB m 2 = true ∧ (0 ≤ w.toInt ∧ w.toInt ≤ 9999) ∧ c < 12
def rdgA (m w : Int32) : Int32 := if inB m 2 then (if 0 ≤ w.toInt ∧ w.toInt ≤ 9999 then -4 else -2) else -1
section K35
variable {l : Launch} {g : cm_G} {I : cm_I} {L : cm_L} {hr tl : Option Nat} {Q : cm_Post} {n : Nat} {kd mm : Nat → Nat} {len : Nat} {tx : Nat → Nat} {hs : List (List Cls)} {hx c1 : Nat} {w1 : Nat → Nat} {c2 : Nat} {w2 : Nat → Nat} {im : IM} {s : List Nat} {tp : TP}
theorem TX_add {m : Nat} {f : Nat → Nat} {v : Int32} (T : TX m f I) (hm : m < 100) (hv : v = nI (f m)) (hf : f m < 256) : TX (m + 1) f (cm_u (cm_u I 8 m v) 7 1 (nI (m + 1))) := by
  obtain ⟨a, b, c⟩ := T
  refine ⟨?_, by omega, fun p hp => ?_⟩
  · rw [cm_uu]; rfl
  · rw [cm_u_ne (by decide), cm_uu]
    show (if p = m then _ else _) = _ ∧ _
    by_cases e : p = m
    · subst e; rw [if_pos rfl]; exact ⟨hv, hf⟩
    · rw [if_neg e]; exact c p (by omega)
theorem CI_tx {I' : cm_I} {len' : Nat} {tx' : Nat → Nat} (C : CI n kd mm len tx hs hx c1 w1 c2 w2 im s tp I L) (T : TX len' tx' I') (hI : ∀ b, b ≠ 7 → b ≠ 8 → I' b = I b) : CI n kd mm len' tx' hs hx c1 w1 c2 w2 im s tp I' L := by
  obtain ⟨a1, a2, ⟨b1, b2, b3, b4⟩, ⟨d1, d2⟩, e1, e2, f, ⟨g1, g2⟩, kk⟩ := C
  have h0 : I' 0 = I 0 := hI 0 (by omega) (by omega)
  refine ⟨HI_frame a1 (fun b hb => hI b (by omega) (by omega)) (fun _ _ => rfl), T, ⟨by rw [h0]; exact b1, b2, fun h cs hh => ?_, ?_⟩, ⟨d1, by rw [h0]; exact d2⟩, ?_, ?_, ?_, ⟨?_, g2⟩, ?_⟩
  · have hl : h < hs.length := (List.getElem?_eq_some_iff.mp hh).1
    have hc := hA_c (h := h) (by omega)
    exact HS_fr (b3 h cs hh) (fun b h1 h2 => hI b (by omega) (by omega))
  · have hc := hA_c (h := 6) (by omega)
    exact HS_fr b4 (fun b h1 h2 => hI b (by omega) (by omega))
  · exact MT_fr e1 (hI _ (by omega) (by omega)) (hI _ (by omega) (by omega))
  · exact MT_fr e2 (hI _ (by omega) (by omega)) (hI _ (by omega) (by omega))
  · exact IMG_fr f (by rw [h0]) (by rw [h0]) (fun b h1 h2 => hI b (by omega) (by omega))
  · exact TRC_fr g1 (hI _ (by omega) (by omega)) (hI _ (by omega) (by omega))
  · exact TPS_fr kk (fun b h1 h2 => hI b (by omega) (by omega)) (fun b h1 h2 => rfl)
theorem c_X11_feed {x k : Int32} (C : CI n kd mm len tx hs hx c1 w1 c2 w2 im s tp I L) (hok : fedC len k → KQ Q (.int (nI (len + ix k))) n (CI n kd mm (len + ix k) (fdx tx len x (ix k)) hs hx c1 w1 c2 w2 im s tp) I L) (hno : ¬ fedC len k → KQ Q (.int (fedA k)) n (CI n kd mm len tx hs hx c1 w1 c2 w2 im s tp) I L) : cm_Ex l g 3 0 0 mX11_feed 0 [.ref 0, .int x, .int k, .float 0] [] I L (RR n hr tl) (DD n) Q := by
  have T := C.2.1
  have hlen := T.2.1
  have hno' : ¬ fedC len k → Q (some (.int (fedA k))) I L (RR n hr tl) (DD n) := fun h => hno h I L hr tl C KM_rfl
  have e4 : (nI 4).toInt = 4 := by decide
  have bad : ¬ (0 ≤ k.toInt ∧ k.toInt ≤ 4) → cm_Ex l g 3 0 0 mX11_feed 9 [.ref 0, .int x, .int k, .float 0] [] I L (RR n hr tl) (DD n) Q := fun h => by
    have hq := hno' (fun e => h e.1)
    unfold fedA at hq
    rw [if_neg h] at hq
    refine x_bipush (v := -2) qX11_feed_9 rfl ?_
    refine x_iret qX11_feed_11 rfl rfl ?_
    exact hq
  refine x_ildn qX11_feed_0 rfl ?_
  refine x_if_lt (tgt := 9) qX11_feed_1 (by omega) (fun h1 => ?_) (fun h1 => ?_)
  · rw [Int32.lt_iff_toInt_lt, t0i] at h1
    exact bad (by omega)
  · rw [Int32.lt_iff_toInt_lt, t0i] at h1
    refine x_ildn qX11_feed_4 rfl ?_
    refine x_iconst (v := nI 4) qX11_feed_5 rfl ?_
    refine x_icmp_le (tgt := 12) qX11_feed_6 (by omega) (fun h6 => ?_) (fun h6 => ?_)
    · rw [Int32.le_iff_toInt_le, e4] at h6
      have ek := nI_ix (x := k) (by omega)
      have hk4 : ix k ≤ 4 := by unfold ix; omega
      generalize hkk : ix k = kk at *
      subst ek
      refine x_aldn qX11_feed_12 rfl trivial ?_
      refine x_getR qX11_feed_13 fX11_21 rfl rfl ?_
      refine x_getIe qX11_feed_16 fX11_145 rfl T.1 ?_
      refine x_ildn qX11_feed_19 rfl ?_
      refine x_iadd_n qX11_feed_20 ?_
      refine x_bipush (v := nI 100) qX11_feed_21 rfl ?_
      refine x_icmp_le_n (tgt := 29) qX11_feed_23 (by omega) (by omega) (by omega) (fun h23 => ?_) (fun h23 => ?_)
      · have hq := hok ⟨⟨by omega, h6⟩, by omega⟩
        refine x_ildn qX11_feed_29 rfl ?_
        refine x_iconst (v := nI 1) qX11_feed_30 rfl ?_
        refine x_isub qX11_feed_31 ?_
        rw [sub1_dec]
        refine x_ist3 qX11_feed_32 (by decide) rfl ?_
        have loop : ∀ j I', j ≤ kk → TX (len + (kk - j)) (fdx tx len x kk) I' → (∀ b, b ≠ 7 → b ≠ 8 → I' b = I b) → cm_Ex l g 3 0 0 mX11_feed 33 [.ref 0, .int x, .int (nI kk), .int (nI j + Int32.ofInt (-1))] [] I' L (RR n hr tl) (DD n) Q := by
          intro j
          induction j with
          | zero =>
            intro I' hj T' hI
            refine x_ildn qX11_feed_33 rfl ?_
            refine x_if_lt_t (tgt := 60) qX11_feed_34 (by omega) (by decide) ?_
            refine x_aldn qX11_feed_60 rfl trivial ?_
            refine x_getR qX11_feed_61 fX11_21 rfl rfl ?_
            refine x_getIe qX11_feed_64 fX11_145 rfl T'.1 ?_
            refine x_iret qX11_feed_67 rfl rfl ?_
            refine hq I' L hr tl (CI_tx C T' hI) (fun b h1 h2 => ⟨hI b (by omega) (by omega), rfl⟩)
          | succ j ih =>
            intro I' hj T' hI
            rw [cm_dec]
            have hb : fdx tx len x kk (len + (kk - (j + 1))) = byt x j := by
              unfold fdx
              rw [if_neg (by omega), show kk - 1 - (len + (kk - (j + 1)) - len) = j by omega]
            have T2 := TX_add (v := nI (byt x j)) T' (by omega) (by rw [hb]) (by rw [hb]; exact byt_lt _ _)
            refine x_ildn qX11_feed_33 rfl ?_
            refine x_if_lt_nf (tgt := 60) qX11_feed_34 (by omega) (by omega) ?_
            refine x_aldn qX11_feed_37 rfl trivial ?_
            refine x_getR qX11_feed_38 fX11_21 rfl rfl ?_
            refine x_ildn qX11_feed_41 rfl ?_
            refine x_bipush (v := nI 8) qX11_feed_42 rfl ?_
            refine x_ildn qX11_feed_44 rfl ?_
            refine x_imul_n qX11_feed_45 ?_
            refine x_iushr qX11_feed_46 ?_
            refine x_sipush (v := nI 255) qX11_feed_47 rfl ?_
            refine x_iand qX11_feed_50 ?_
            rw [ush_byte (by omega)]
            refine x_cV1 (d' := 1) qX11_feed_51 cX11_148 rfl ⟨_, rfl, rfl⟩ rfl rfl (Nat.le_of_ble_eq_true rfl) (Nat.le_of_ble_eq_true rfl) (by decide) ?_
            refine c_X8_add T'.1 (by omega) ?_
            rw [show len + (kk - (j + 1)) + 1 = len + (kk - j) by omega] at T2
            rw [show len + (kk - (j + 1)) + 1 = len + (kk - j) by omega]
            refine x_iinc3 qX11_feed_54 (by decide) rfl rfl ?_
            refine x_goto (tgt := 33) qX11_feed_57 (by omega) ?_
            exact ih _ (by omega) T2 (fun b h1 h2 => by rw [cm_u_ne h1, cm_u_ne h2]; exact hI b h1 h2)
        refine loop kk I (Nat.le_refl _) ?_ (fun _ _ _ => rfl)
        rw [Nat.sub_self, Nat.add_zero]
        refine ⟨T.1, T.2.1, fun p hp => ?_⟩
        have e : fdx tx len x kk p = tx p := by unfold fdx; rw [if_pos hp]
        rw [e]
        exact T.2.2 p hp
      · have hq := hno' (fun e => by have := e.2; rw [hkk] at this; omega)
        unfold fedA at hq
        rw [if_pos ⟨by omega, h6⟩] at hq
        refine x_bipush (v := -4) qX11_feed_26 rfl ?_
        refine x_iret qX11_feed_28 rfl rfl ?_
        exact hq
    · rw [Int32.le_iff_toInt_le, e4] at h6
      exact bad (by omega)
theorem c_X11_meterAt {m : Int32} (ht : inB m 2 = true → Q (some (.ref (15 + 2 * ix m))) I L (RR n hr tl) (DD n)) (hf : inB m 2 = false → Q (some .null) I L (RR n hr tl) (DD n)) : cm_Ex l g 1 0 0 mX11_meterAt 0 [.ref 0, .int m] [] I L (RR n hr tl) (DD n) Q := by
  have key : inB m 2 = true → m = 0 ∨ m = 1 := fun h => by
    obtain ⟨e, h2⟩ := inB_ix h
    rcases (by omega : ix m = 0 ∨ ix m = 1) with h | h
    · left; rw [e, h]; rfl
    · right; rw [e, h]; rfl
  refine x_ildn qX11_meterAt_0 rfl ?_
  refine x_if_ne (tgt := 9) qX11_meterAt_1 (by omega) (fun h1 => ?_) (fun h1 => ?_)
  · refine x_ildn qX11_meterAt_9 rfl ?_
    refine x_iconst (v := 1) qX11_meterAt_10 rfl ?_
    refine x_icmp_ne (tgt := 21) qX11_meterAt_11 (by omega) (fun h11 => ?_) (fun h11 => ?_)
    · refine x_null qX11_meterAt_21 ?_
      refine x_aret qX11_meterAt_22 rfl trivial ?_
      refine hf ?_
      cases hb : inB m 2 with
      | false => rfl
      | true => rcases key hb with h | h; exact absurd h h1; exact absurd h h11
    · subst h11
      have := ht (by decide)
      refine x_aldn qX11_meterAt_14 rfl trivial ?_
      refine x_getR qX11_meterAt_15 fX11_52 rfl rfl ?_
      refine x_goto (tgt := 22) qX11_meterAt_18 (by omega) ?_
      refine x_aret qX11_meterAt_22 rfl trivial ?_
      exact this
  · subst h1
    have := ht (by decide)
    refine x_aldn qX11_meterAt_4 rfl trivial ?_
    refine x_getR qX11_meterAt_5 fX11_48 rfl rfl ?_
    refine x_aret qX11_meterAt_8 rfl trivial ?_
    exact this
theorem CI_m1 {I' : cm_I} {c' : Nat} {w' : Nat → Nat} (C : CI n kd mm len tx hs hx c1 w1 c2 w2 im s tp I L) (M : MT 15 c' w' I') (hI : ∀ b, b ≠ 15 → b ≠ 16 → I' b = I b) : CI n kd mm len tx hs hx c' w' c2 w2 im s tp I' L := by
  obtain ⟨a1, a2, ⟨b1, b2, b3, b4⟩, ⟨d1, d2⟩, e1, e2, f, ⟨g1, g2⟩, kk⟩ := C
  have h0 : I' 0 = I 0 := hI 0 (by omega) (by omega)
  refine ⟨HI_frame a1 (fun b hb => hI b (by omega) (by omega)) (fun _ _ => rfl), TX_fr2 a2 (hI 7 (by omega) (by omega)) (hI 8 (by omega) (by omega)), ⟨by rw [h0]; exact b1, b2, fun h cs hh => ?_, ?_⟩, ⟨d1, by rw [h0]; exact d2⟩, M, ?_, ?_, ⟨?_, g2⟩, ?_⟩
  · have hl : h < hs.length := (List.getElem?_eq_some_iff.mp hh).1
    have hc := hA_c (h := h) (by omega)
    exact HS_fr (b3 h cs hh) (fun b h1 h2 => hI b (by omega) (by omega))
  · have hc := hA_c (h := 6) (by omega)
    exact HS_fr b4 (fun b h1 h2 => hI b (by omega) (by omega))
  · exact MT_fr e2 (hI _ (by omega) (by omega)) (hI _ (by omega) (by omega))
  · exact IMG_fr f (by rw [h0]) (by rw [h0]) (fun b h1 h2 => hI b (by omega) (by omega))
  · exact TRC_fr g1 (hI _ (by omega) (by omega)) (hI _ (by omega) (by omega))
  · exact TPS_fr kk (fun b h1 h2 => hI b (by omega) (by omega)) (fun b h1 h2 => rfl)
theorem CI_m2 {I' : cm_I} {c' : Nat} {w' : Nat → Nat} (C : CI n kd mm len tx hs hx c1 w1 c2 w2 im s tp I L) (M : MT 17 c' w' I') (hI : ∀ b, b ≠ 17 → b ≠ 18 → I' b = I b) : CI n kd mm len tx hs hx c1 w1 c' w' im s tp I' L := by
  obtain ⟨a1, a2, ⟨b1, b2, b3, b4⟩, ⟨d1, d2⟩, e1, e2, f, ⟨g1, g2⟩, kk⟩ := C
  have h0 : I' 0 = I 0 := hI 0 (by omega) (by omega)
  refine ⟨HI_frame a1 (fun b hb => hI b (by omega) (by omega)) (fun _ _ => rfl), TX_fr2 a2 (hI 7 (by omega) (by omega)) (hI 8 (by omega) (by omega)), ⟨by rw [h0]; exact b1, b2, fun h cs hh => ?_, ?_⟩, ⟨d1, by rw [h0]; exact d2⟩, ?_, M, ?_, ⟨?_, g2⟩, ?_⟩
  · have hl : h < hs.length := (List.getElem?_eq_some_iff.mp hh).1
    have hc := hA_c (h := h) (by omega)
    exact HS_fr (b3 h cs hh) (fun b h1 h2 => hI b (by omega) (by omega))
  · have hc := hA_c (h := 6) (by omega)
    exact HS_fr b4 (fun b h1 h2 => hI b (by omega) (by omega))
  · exact MT_fr e1 (hI _ (by omega) (by omega)) (hI _ (by omega) (by omega))
  · exact IMG_fr f (by rw [h0]) (by rw [h0]) (fun b h1 h2 => hI b (by omega) (by omega))
  · exact TRC_fr g1 (hI _ (by omega) (by omega)) (hI _ (by omega) (by omega))
  · exact TPS_fr kk (fun b h1 h2 => hI b (by omega) (by omega)) (fun b h1 h2 => rfl)
theorem MT_add {k c : Nat} {w : Nat → Nat} {x : Nat} (M : MT k c w I) (hc : c < 12) (hx : x ≤ 9999) : MT k (c + 1) (fup w c x) (cm_u (cm_u I (k + 1) c (nI x)) k 1 (nI (c + 1))) := by
  obtain ⟨a, b, d⟩ := M
  refine ⟨by rw [cm_uu]; rfl, by omega, fun i hi => ?_⟩
  rw [cm_u_ne (by omega), cm_uu]
  show (if i = c then _ else _) = _ ∧ _
  unfold fup
  by_cases e : i = c
  · subst e; rw [if_pos rfl, if_pos rfl]; exact ⟨rfl, hx⟩
  · rw [if_neg e, if_neg e]; exact d i (by omega)
theorem rd_main {k c : Nat} {w : Nat → Nat} {x m : Int32} (hM : isM k) (M : MT k c w I) (hbad : ¬ (0 ≤ x.toInt ∧ x.toInt ≤ 9999) → Q (some (.int (-2))) I L (RR n hr tl) (DD n)) (hful : 0 ≤ x.toInt ∧ x.toInt ≤ 9999 → ¬ c < 12 → Q (some (.int (-4))) I L (RR n hr tl) (DD n))
  (hok : 0 ≤ x.toInt ∧ x.toInt ≤ 9999 → c < 12 → ∀ I', MT k (c + 1) (fup w c (ix x)) I' → (∀ b, b ≠ k → b ≠ k + 1 → I' b = I b) → Q (some (.int (nI (c + 1)))) I' L (RR n hr tl) (DD n)) : cm_Ex l g 3 0 0 mX11_reading 6 [.ref 0, .int m, .int x, .ref k] [] I L (RR n hr tl) (DD n) Q := by
  have hc := M.2.1
  have e9 : (nI 9999).toInt = 9999 := by decide
  refine x_aldn qX11_reading_6 rfl trivial ?_
  refine x_ifnonnull (tgt := 12) qX11_reading_7 (by omega) ?_
  refine x_ildn qX11_reading_12 rfl ?_
  refine x_if_lt (tgt := 23) qX11_reading_13 (by omega) (fun h13 => ?_) (fun h13 => ?_)
  · rw [Int32.lt_iff_toInt_lt, t0i] at h13
    refine x_bipush (v := -2) qX11_reading_23 rfl ?_
    refine x_iret qX11_reading_25 rfl rfl ?_
    exact hbad (by omega)
  · rw [Int32.lt_iff_toInt_lt, t0i] at h13
    refine x_ildn qX11_reading_16 rfl ?_
    refine x_sipush (v := nI 9999) qX11_reading_17 rfl ?_
    refine x_icmp_le (tgt := 26) qX11_reading_20 (by omega) (fun h20 => ?_) (fun h20 => ?_)
    · rw [Int32.le_iff_toInt_le, e9] at h20
      have hx : 0 ≤ x.toInt ∧ x.toInt ≤ 9999 := ⟨by omega, h20⟩
      refine x_aldn qX11_reading_26 rfl trivial ?_
      refine x_getIe qX11_reading_27 fX11_104 (dd_M hM).1 M.1 ?_
      refine x_bipush (v := nI 12) qX11_reading_30 rfl ?_
      refine x_icmp_lt_n (tgt := 38) qX11_reading_32 (by omega) (by omega) (by omega) (fun h32 => ?_) (fun h32 => ?_)
      · have M2 := MT_add (x := ix x) M h32 (by unfold ix; omega)
        rw [← nI_ix hx.1] at M2
        have hq := hok hx h32 _ M2 (fun b h1 h2 => by rw [cm_u_ne h1, cm_u_ne h2])
        refine x_aldn qX11_reading_38 rfl trivial ?_
        refine x_ildn qX11_reading_39 rfl ?_
        refine x_cV1 (d' := 1) qX11_reading_40 cX11_159 (dd_M hM).1 ⟨_, rfl, rfl⟩ rfl rfl (Nat.le_of_ble_eq_true rfl) (Nat.le_of_ble_eq_true rfl) (by decide) ?_
        refine c_X5_add hM M.1 h32 ?_
        refine x_aldn qX11_reading_43 rfl trivial ?_
        refine x_getIe qX11_reading_44 fX11_104 (dd_M hM).1 M2.1 ?_
        refine x_iret qX11_reading_47 rfl rfl ?_
        exact hq
      · refine x_bipush (v := -4) qX11_reading_35 rfl ?_
        refine x_iret qX11_reading_37 rfl rfl ?_
        exact hful hx (by omega)
    · rw [Int32.le_iff_toInt_le, e9] at h20
      refine x_bipush (v := -2) qX11_reading_23 rfl ?_
      refine x_iret qX11_reading_25 rfl rfl ?_
      exact hbad (by omega)
theorem c_X11_reading {m x : Int32} (C : CI n kd mm len tx hs hx c1 w1 c2 w2 im s tp I L) (h1 : rdgC c1 m x → ix m = 0 → KQ Q (.int (nI (c1 + 1))) n (CI n kd mm len tx hs hx (c1 + 1) (fup w1 c1 (ix x)) c2 w2 im s tp) I L) (h2 : rdgC c2 m x → ix m = 1 → KQ Q (.int (nI (c2 + 1))) n (CI n kd mm len tx hs hx c1 w1 (c2 + 1) (fup w2 c2 (ix x)) im s tp) I L) (hno : ¬ rdgC (if ix m = 0 then c1 else c2) m x → KQ Q (.int (rdgA m x)) n (CI n kd mm len tx hs hx c1 w1 c2 w2 im s tp) I L) : cm_Ex l g 4 0 0 mX11_reading 0 [.ref 0, .int m, .int x, .float 0] [] I L (RR n hr tl) (DD n) Q := by
  have hno' : ¬ rdgC (if ix m = 0 then c1 else c2) m x → Q (some (.int (rdgA m x))) I L (RR n hr tl) (DD n) := fun h => hno h I L hr tl C KM_rfl
  refine x_aldn qX11_reading_0 rfl trivial ?_
  refine x_ildn qX11_reading_1 rfl ?_
  refine x_cV1 (d' := 1) qX11_reading_2 cX11_155 rfl ⟨_, rfl, rfl⟩ rfl rfl (Nat.le_of_ble_eq_true rfl) (Nat.le_of_ble_eq_true rfl) (by decide) ?_
  refine c_X11_meterAt (fun hm => ?_) (fun hm => ?_)
  · obtain ⟨em, lm⟩ := inB_ix hm
    refine x_ast3 qX11_reading_5 (by decide) trivial rfl ?_
    rcases (by omega : ix m = 0 ∨ ix m = 1) with e0 | e0
    · rw [e0] at hno' ⊢
      refine cm_up (rd_main (Or.inl rfl) C.2.2.2.2.1 (fun h => ?_) (fun h hc => ?_) (fun h hc I' M' hI' => ?_)) (by decide) (by decide) (by decide)
      · have := hno' (fun e => h e.2.1)
        unfold rdgA at this
        rw [if_pos hm, if_neg h] at this
        exact this
      · have := hno' (fun e => hc e.2.2)
        unfold rdgA at this
        rw [if_pos hm, if_pos h] at this
        exact this
      · exact h1 ⟨hm, h, hc⟩ e0 I' L hr tl (CI_m1 C M' hI') (fun b a1 a2 => ⟨hI' b (by omega) (by omega), rfl⟩)
    · rw [e0] at hno' ⊢
      refine cm_up (rd_main (Or.inr (Or.inl rfl)) C.2.2.2.2.2.1 (fun h => ?_) (fun h hc => ?_) (fun h hc I' M' hI' => ?_)) (by decide) (by decide) (by decide)
      · have := hno' (fun e => h e.2.1)
        unfold rdgA at this
        rw [if_pos hm, if_neg h] at this
        exact this
      · have := hno' (fun e => hc e.2.2)
        unfold rdgA at this
        rw [if_pos hm, if_pos h] at this
        exact this
      · exact h2 ⟨hm, h, hc⟩ e0 I' L hr tl (CI_m2 C M' hI') (fun b a1 a2 => ⟨hI' b (by omega) (by omega), rfl⟩)
  · have hq := hno' (fun e => by have e1 := e.1; rw [hm] at e1; cases e1)
    unfold rdgA at hq
    rw [if_neg (by rw [hm]; decide)] at hq
    refine x_ast3 qX11_reading_5 (by decide) trivial rfl ?_
    refine x_aldn qX11_reading_6 rfl trivial ?_
    refine x_ifnonnull_n (a := 0) qX11_reading_7 ?_
    refine x_iconst (v := -1) qX11_reading_10 rfl ?_
    refine x_iret qX11_reading_11 rfl rfl ?_
    exact hq
theorem c_X11_clear {m : Int32} (C : CI n kd mm len tx hs hx c1 w1 c2 w2 im s tp I L) (h1 : inB m 2 = true → ix m = 0 → KQ Q (.int (nI c1)) n (CI n kd mm len tx hs hx 0 w1 c2 w2 im s tp) I L) (h2 : inB m 2 = true → ix m = 1 → KQ Q (.int (nI c2)) n (CI n kd mm len tx hs hx c1 w1 0 w2 im s tp) I L) (hno : inB m 2 = false → KQ Q (.int (-1)) n (CI n kd mm len tx hs hx c1 w1 c2 w2 im s tp) I L) : cm_Ex l g 4 0 0 mX11_clear 0 [.ref 0, .int m, .float 0, .float 0] [] I L (RR n hr tl) (DD n) Q := by
  refine x_aldn qX11_clear_0 rfl trivial ?_
  refine x_ildn qX11_clear_1 rfl ?_
  refine x_cV1 (d' := 1) qX11_clear_2 cX11_155 rfl ⟨_, rfl, rfl⟩ rfl rfl (Nat.le_of_ble_eq_true rfl) (Nat.le_of_ble_eq_true rfl) (by decide) ?_
  refine c_X11_meterAt (fun hm => ?_) (fun hm => ?_)
  · obtain ⟨em, lm⟩ := inB_ix hm
    rcases (by omega : ix m = 0 ∨ ix m = 1) with e0 | e0
    · rw [e0]
      have M := C.2.2.2.2.1
      refine x_ast2 qX11_clear_5 (by decide) trivial rfl ?_
      refine x_aldn qX11_clear_6 rfl trivial ?_
      refine x_ifnonnull (tgt := 12) qX11_clear_7 (by omega) ?_
      refine x_aldn qX11_clear_12 rfl trivial ?_
      refine x_getIe qX11_clear_13 fX11_104 (dd_M (Or.inl rfl)).1 M.1 ?_
      refine x_ist3 qX11_clear_16 (by decide) rfl ?_
      refine x_aldn qX11_clear_17 rfl trivial ?_
      refine x_iconst (v := nI 0) qX11_clear_18 rfl ?_
      refine x_putI qX11_clear_19 fX11_104 (Or.inl rfl) (dd_M (Or.inl rfl)).1 ?_
      refine x_ildn qX11_clear_22 rfl ?_
      refine x_iret qX11_clear_23 rfl rfl ?_
      refine h1 hm e0 _ L hr tl (CI_m1 C ⟨?_, by omega, fun i hi => by omega⟩ (fun b a1 a2 => cm_u_ne a1)) (fun b a1 a2 => ⟨cm_u_ne (by omega), rfl⟩)
      rw [cm_uu]; rfl
    · rw [e0]
      have M := C.2.2.2.2.2.1
      refine x_ast2 qX11_clear_5 (by decide) trivial rfl ?_
      refine x_aldn qX11_clear_6 rfl trivial ?_
      refine x_ifnonnull (tgt := 12) qX11_clear_7 (by omega) ?_
      refine x_aldn qX11_clear_12 rfl trivial ?_
      refine x_getIe qX11_clear_13 fX11_104 (dd_M (Or.inr (Or.inl rfl))).1 M.1 ?_
      refine x_ist3 qX11_clear_16 (by decide) rfl ?_
      refine x_aldn qX11_clear_17 rfl trivial ?_
      refine x_iconst (v := nI 0) qX11_clear_18 rfl ?_
      refine x_putI qX11_clear_19 fX11_104 (Or.inl rfl) (dd_M (Or.inr (Or.inl rfl))).1 ?_
      refine x_ildn qX11_clear_22 rfl ?_
      refine x_iret qX11_clear_23 rfl rfl ?_
      refine h2 hm e0 _ L hr tl (CI_m2 C ⟨?_, by omega, fun i hi => by omega⟩ (fun b a1 a2 => cm_u_ne a1)) (fun b a1 a2 => ⟨cm_u_ne (by omega), rfl⟩)
      rw [cm_uu]; rfl
  · have hq := hno hm I L hr tl C KM_rfl
    refine x_ast2 qX11_clear_5 (by decide) trivial rfl ?_
    refine x_aldn qX11_clear_6 rfl trivial ?_
    refine x_ifnonnull_n (a := 0) qX11_clear_7 ?_
    refine x_iconst (v := -1) qX11_clear_10 rfl ?_
    refine x_iret qX11_clear_11 rfl rfl ?_
    exact hq
end K35
