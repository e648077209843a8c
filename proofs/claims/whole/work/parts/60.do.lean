/-! CellarMeter: thing, feed, house, reading, clear, image, undo, act, trace, taken, count -/
def thgA (n : Nat) (mm : Nat → Nat) (c1 c2 : Nat) (k m : Int32) : Int32 := if inB k 7 then (if 2 ≤ m.toInt ∧ m.toInt ≤ 4 then (if 0 < c1 ∨ 0 < c2 then -3 else -4) else -2) else -1
def thgC (n : Nat) (mm : Nat → Nat) (c1 c2 : Nat) (k m : Int32) : Prop := inB k 7 = true ∧ (2 ≤ m.toInt ∧ m.toInt ≤ 4) ∧ (c1 = 0 ∧ c2 = 0) ∧ (n < 4 ∧ wys mm n * ix m ≤ 64)
def fdx (tx : Nat → Nat) (len : Nat) (x : Int32) (n : Nat) : Nat → Nat := fun p => if p < len then tx p else byt x (n - 1 - (p - len))
def takA (n : Nat) (kd : Nat → Nat) (t k : Int32) : Int32 := if inB k 7 then (if inB t n then (if undr (kd (ix t)) (ix k) then nI (kd (ix t)) else -12) else -11) else -2
def traA (s : List Nat) (i : Int32) : Int32 := if inB i s.length && decide (i.toInt < 20) then nI (s.getD (ix i) 0) else -1
def cntA (n : Nat) (mm : Nat → Nat) (c1 c2 nh len ran : Nat) (w : Int32) : Int32 := if w = 0 then nI n else if w = 1 then nI (wys mm n) else if w = 2 then nI c1 else if w = 3 then nI c2 else if w = 4 then nI nh else if w = 5 then nI len else if w = 6 then nI ran else -2
theorem byt_lt (x : Int32) (i : Nat) : byt x i < 256 := Nat.mod_lt _ (by decide)
section K34
variable {l : Launch} {g : cm_G} {I : cm_I} {L : cm_L} {hr tl : Option Nat} {Q : cm_Post} {n : Nat} {kd mm : Nat → Nat} {len : Nat} {tx : Nat → Nat} {hs : List (List Cls)} {hx c1 : Nat} {w1 : Nat → Nat} {c2 : Nat} {w2 : Nat → Nat} {im : IM} {s : List Nat} {tp : TP}
theorem c_X11_thing {k m : Int32} (C : CI n kd mm len tx hs hx c1 w1 c2 w2 im s tp I L) (hok : thgC n mm c1 c2 k m → KQ Q (.int (nI n)) (n + 1) (CI (n + 1) (fup kd n (ix k)) (fup mm n (ix m)) len tx hs hx c1 w1 c2 w2 im s tp) I L) (hno : ¬ thgC n mm c1 c2 k m → KQ Q (.int (thgA n mm c1 c2 k m)) n (CI n kd mm len tx hs hx c1 w1 c2 w2 im s tp) I L) : cm_Ex l g 6 1 3 mX11_thing 0 [.ref 0, .int k, .int m] [] I L (RR n hr tl) (DD n) Q := by
  have H := C.1
  have hn4 := H.1
  have hW : wys mm n ≤ 64 := H.2.2.2.1
  have M1 := C.2.2.2.2.1
  have M2 := C.2.2.2.2.2.1
  have l1 := M1.2.1
  have l2 := M2.2.1
  have hno' : ¬ thgC n mm c1 c2 k m → Q (some (.int (thgA n mm c1 c2 k m))) I L (RR n hr tl) (DD n) := fun h => hno h I L hr tl C KM_rfl
  have e2 : (nI 2).toInt = 2 := by decide
  have e4 : (nI 4).toInt = 4 := by decide
  refine x_ildn qX11_thing_0 rfl ?_
  refine x_cS1 (d' := 1) qX11_thing_1 cX11_98 rfl rfl (Nat.le_of_ble_eq_true rfl) (Nat.le_of_ble_eq_true rfl) (by decide) ?_
  refine c_X4_isKind (fun hk => ?_) (fun hk => ?_)
  · have hkb := inB_iff.mpr hk
    obtain ⟨ek, lk⟩ := inB_ix hkb
    refine x_if_ne_t (tgt := 9) qX11_thing_4 (by omega) (by decide) ?_
    refine x_ildn qX11_thing_9 rfl ?_
    refine x_iconst (v := nI 2) qX11_thing_10 rfl ?_
    refine x_icmp_lt (tgt := 19) qX11_thing_11 (by omega) (fun h11 => ?_) (fun h11 => ?_)
    · rw [Int32.lt_iff_toInt_lt, e2] at h11
      have hq := hno' (fun e => by have := e.2.1.1; omega)
      unfold thgA at hq
      rw [if_pos hkb, if_neg (by omega)] at hq
      refine x_bipush (v := -2) qX11_thing_19 rfl ?_
      refine x_iret qX11_thing_21 rfl rfl ?_
      exact hq
    · rw [Int32.lt_iff_toInt_lt, e2] at h11
      refine x_ildn qX11_thing_14 rfl ?_
      refine x_iconst (v := nI 4) qX11_thing_15 rfl ?_
      refine x_icmp_le (tgt := 22) qX11_thing_16 (by omega) (fun h16 => ?_) (fun h16 => ?_)
      · rw [Int32.le_iff_toInt_le, e4] at h16
        have em := nI_ix (x := m) (by omega)
        have hm4 : ix m ≤ 4 := by unfold ix; omega
        have hm2 : 2 ≤ ix m := by unfold ix; omega
        have full : thgA n mm c1 c2 k m = (if 0 < c1 ∨ 0 < c2 then -3 else -4) := by
          unfold thgA; rw [if_pos hkb, if_pos ⟨by omega, h16⟩]
        have st3 : 0 < c1 ∨ 0 < c2 → cm_Ex l g 6 1 3 mX11_thing 42 [.ref 0, .int k, .int m] [] I L (RR n hr tl) (DD n) Q := fun h => by
          have hq := hno' (fun e => by have := e.2.2.1; omega)
          rw [full, if_pos h] at hq
          refine x_bipush (v := -3) qX11_thing_42 rfl ?_
          refine x_iret qX11_thing_44 rfl rfl ?_
          exact hq
        refine x_aldn qX11_thing_22 rfl trivial ?_
        refine x_getR qX11_thing_23 fX11_48 rfl rfl ?_
        refine x_getIe qX11_thing_26 fX11_104 (dd_M (Or.inl rfl)).1 M1.1 ?_
        refine x_if_gt_n (tgt := 42) qX11_thing_29 (by omega) (by omega) (fun h29 => st3 (Or.inl h29)) (fun h29 => ?_)
        refine x_aldn qX11_thing_32 rfl trivial ?_
        refine x_getR qX11_thing_33 fX11_52 rfl rfl ?_
        refine x_getIe qX11_thing_36 fX11_104 (dd_M (Or.inr (Or.inl rfl))).1 M2.1 ?_
        refine x_if_le_n (tgt := 45) qX11_thing_39 (by omega) (by omega) (fun h39 => ?_) (fun h39 => st3 (Or.inr h39))
        refine x_aldn qX11_thing_45 rfl trivial ?_
        refine x_getR qX11_thing_46 fX11_12 rfl rfl ?_
        refine x_ildn qX11_thing_49 rfl ?_
        rw [em]
        refine x_cV1 (d' := 1) qX11_thing_50 cX11_107 rfl ⟨_, rfl, rfl⟩ rfl rfl (Nat.le_of_ble_eq_true rfl) (Nat.le_of_ble_eq_true rfl) (by decide) ?_
        refine c_X3_hasRoomFor H hm4 (fun hr0 => ?_) (fun hr0 => ?_)
        · have hq := hok ⟨hkb, ⟨by omega, h16⟩, ⟨h29, h39⟩, hr0⟩
          refine x_if_ne_t (tgt := 59) qX11_thing_53 (by omega) (by decide) ?_
          refine x_aldn qX11_thing_59 rfl trivial ?_
          refine x_getR qX11_thing_60 fX11_12 rfl rfl ?_
          refine x_ildn qX11_thing_63 rfl ?_
          refine x_ildn qX11_thing_64 rfl ?_
          rw [ek]
          refine x_callV (as := [.int (nI (ix k)), .int (nI (ix m))]) (rest := []) (mc' := 1) (ms' := 3) (mc2 := 0) (ms2 := 0) (d' := 5) qX11_thing_65 cX11_110 dd_1 ⟨_, rfl, rfl⟩ rfl rfl rfl rfl (Nat.le_of_ble_eq_true rfl) (Nat.le_of_ble_eq_true rfl) (by decide) rfl rfl ?_
          refine c_X3_add H (by omega) hr0.2 lk hm4 hm2 (fun I' L' H' hI' hL' => ?_)
          have C' : CI (n + 1) (fup kd n (ix k)) (fup mm n (ix m)) len tx hs hx c1 w1 c2 w2 im s tp I' L' := by
            obtain ⟨a1, a2, ⟨b1, b2, b3, b4⟩, ⟨d1, d2⟩, e1, e2, f, ⟨g1, g2⟩, kk⟩ := id C
            have h0 : I' 0 = I 0 := hI' 0 (by omega) (by omega) (by omega)
            refine ⟨H', TX_fr2 a2 (hI' 7 (by omega) (by omega) (by omega)) (hI' 8 (by omega) (by omega) (by omega)), ⟨by rw [h0]; exact b1, b2, fun h cs hh => ?_, ?_⟩, ⟨d1, by rw [h0]; exact d2⟩, ?_, ?_, ?_, ⟨?_, g2⟩, ?_⟩
            · have hl : h < hs.length := (List.getElem?_eq_some_iff.mp hh).1
              have hc := hA_c (h := h) (by omega)
              exact HS_fr (b3 h cs hh) (fun b h1 h2 => hI' b (by omega) (by omega) (by omega))
            · have hc := hA_c (h := 6) (by omega)
              exact HS_fr b4 (fun b h1 h2 => hI' b (by omega) (by omega) (by omega))
            · exact MT_fr e1 (hI' _ (by omega) (by omega) (by omega)) (hI' _ (by omega) (by omega) (by omega))
            · exact MT_fr e2 (hI' _ (by omega) (by omega) (by omega)) (hI' _ (by omega) (by omega) (by omega))
            · exact IMG_fr f (by rw [h0]) (by rw [h0]) (fun b h1 h2 => hI' b (by omega) (by omega) (by omega))
            · exact TRC_fr g1 (hI' _ (by omega) (by omega) (by omega)) (hI' _ (by omega) (by omega) (by omega))
            · exact TPS_fr kk (fun b h1 h2 => hI' b (by omega) (by omega) (by omega)) (fun b h1 h2 => hL' b (by omega) (by omega) (by omega) (by omega) (by omega))
          have K' : KM I I' L L' := fun b h1 h2 => ⟨hI' b (by omega) (by omega) (by omega), hL' b (by omega) (by omega) (by omega) (by omega) (by omega)⟩
          have hq2 := hq I' L' hr tl C' K'
          refine x_aldn qX11_thing_68 rfl trivial ?_
          refine x_getR qX11_thing_69 fX11_12 rfl rfl ?_
          refine x_getIe qX11_thing_72 fX11_114 rfl H'.2.2.2.2.1 ?_
          refine x_iconst (v := nI 1) qX11_thing_75 rfl ?_
          refine x_isub_n qX11_thing_76 (by omega) ?_
          rw [Nat.add_sub_cancel]
          refine x_iret qX11_thing_77 rfl rfl ?_
          exact hq2
        · have hq := hno' (fun e => hr0 e.2.2.2)
          rw [full, if_neg (by omega)] at hq
          refine x_if_ne_f (tgt := 59) qX11_thing_53 (by omega) (by decide) ?_
          refine x_bipush (v := -4) qX11_thing_56 rfl ?_
          refine x_iret qX11_thing_58 rfl rfl ?_
          exact hq
      · rw [Int32.le_iff_toInt_le, e4] at h16
        have hq := hno' (fun e => by have := e.2.1.2; omega)
        unfold thgA at hq
        rw [if_pos hkb, if_neg (by omega)] at hq
        refine x_bipush (v := -2) qX11_thing_19 rfl ?_
        refine x_iret qX11_thing_21 rfl rfl ?_
        exact hq
  · have hkb : ¬ inB k 7 = true := fun e => hk (inB_iff.mp e)
    have hq := hno' (fun e => hkb e.1)
    unfold thgA at hq
    rw [if_neg hkb] at hq
    refine x_if_ne_f (tgt := 9) qX11_thing_4 (by omega) (by decide) ?_
    refine x_iconst (v := -1) qX11_thing_7 rfl ?_
    refine x_iret qX11_thing_8 rfl rfl ?_
    exact hq
end K34
