/-! CellarMeter: of, follows, fits, tales, may, fewest, gladdest, sure, secret, part, wires, coarse -/
def inB (x : Int32) (k : Nat) : Bool := decide (0 ≤ x.toInt) && decide (x.toInt < k)
def ix (x : Int32) : Nat := x.toInt.toNat
theorem inB_iff {x : Int32} {k : Nat} : inB x k = true ↔ 0 ≤ x.toInt ∧ x.toInt < k := by simp [inB]
theorem ix_nI {j : Nat} (h : j < 1000000) : ix (nI j) = j := by
  unfold ix; rw [nI_toInt (by omega)]; omega
theorem inB_nI {j k : Nat} (h : j < k) (h2 : k < 1000000) : inB (nI j) k = true := inB_iff.mpr (by rw [nI_toInt (by omega)]; omega)
theorem nI_ix {x : Int32} (h : 0 ≤ x.toInt) : x = nI (ix x) := by
  have := x.toInt_lt
  apply Int32.toInt_inj.mp
  unfold ix
  rw [nI_toInt (by omega)]; omega
theorem inB_ix {x : Int32} {k : Nat} (h : inB x k = true) : x = nI (ix x) ∧ ix x < k := by
  have h2 := inB_iff.mp h
  refine ⟨nI_ix h2.1, ?_⟩
  unfold ix; omega
theorem sub_ix {x : Int32} {k : Nat} (h : (k : Int) ≤ x.toInt) : x - nI k = nI (ix x - k) := by
  have e := nI_ix (x := x) (by omega)
  conv => lhs; rw [e]
  exact pk_sub (by unfold ix; omega)
/-- a contract's end where the state P stands behind the call -/
def KQ (Q : cm_Post) (a : Value) (n : Nat) (P : cm_I → cm_L → Prop) (I : cm_I) (L : cm_L) : Prop := ∀ I' L' hr tl, P I' L' → KM I I' L L' → Q (some a) I' L' (RR n hr tl) (DD n)
def ofA (n : Nat) (kd mm : Nat → Nat) (cs : List Cls) (t w : Int32) : Int32 := if inB t n then (if w = 0 then nI (kd (ix t)) else if w = 1 then nI (mm (ix t)) else if 10 ≤ w.toInt ∧ w.toInt < 10 + mm (ix t) then nI (lst 0 (4 * ix t + (ix w - 10)) cs) else if 20 ≤ w.toInt ∧ w.toInt < 20 + mm (ix t) then nI (lst 1 (4 * ix t + (ix w - 20)) cs) else -1) else -1
def folA (n : Nat) (kd mm : Nat → Nat) (t a b : Int32) : Int32 := if inB t n && (inB a (mm (ix t)) && inB b (mm (ix t))) then (if nx (kd (ix t)) (mm (ix t)) (ix a) (ix b) then 1 else 0) else -1
def fitA (n : Nat) (kd mm : Nat → Nat) (cs : List Cls) (c1 : Nat) (w1 : Nat → Nat) (r w : Int32) : Int32 := if inB r c1 && inB w (wys mm n) then (if F1 n kd mm cs w1 (ix r) (ix w) then 1 else 0) else -1
def talN (n : Nat) (kd mm : Nat → Nat) (cs : List Cls) (c1 : Nat) (w1 : Nat → Nat) : Int32 := nI (cnt (F1 n kd mm cs w1) (nxt kd mm n) (wys mm n) c1 % 1000003)
def mayA (n : Nat) (kd mm : Nat → Nat) (cs : List Cls) (c1 : Nat) (w1 : Nat → Nat) (r : Int32) : Int32 := if inB r c1 then nI (cntB (F1 n kd mm cs w1 (ix r)) (wys mm n)) else -1
def opI (x : Int32) : Option Nat := if x = -1 then none else some (ix x)
def fewA (n : Nat) (kd mm : Nat → Nat) (cs : List Cls) (c1 : Nat) (w1 : Nat → Nat) (i : Int32) : Int32 := if i = -1 ∨ inB i c1 = true then tlA (F1 n kd mm cs w1) (nxt kd mm n) (wys mm n) c1 (fun _ => 0) (fun u v => (chI mm n 1 u v : Int)) 1 (opI i) else -1
def glaA (n : Nat) (kd mm : Nat → Nat) (cs : List Cls) (c1 : Nat) (w1 : Nat → Nat) (i : Int32) : Int32 := if i = -1 ∨ inB i c1 = true then tlA (F1 n kd mm cs w1) (nxt kd mm n) (wys mm n) c1 (fun w => -1 * (sumN (fun i => lst 1 i cs) mm 15 n w : Nat)) (fun u v => (chI mm n 0 u v : Int)) (-1) (opI i) else -1
def surA (n : Nat) (kd mm : Nat → Nat) (cs : List Cls) (c1 : Nat) (w1 : Nat → Nat) (r w : Int32) : Int32 := if inB r c1 && inB w 2 then (if tal (F1 n kd mm cs w1) (nxt kd mm n) (wys mm n) c1 then nI (bhs (srb (liv (F1 n kd mm cs w1) (nxt kd mm n) (wys mm n) c1 (ix r)) mm (wys mm n) (ix w == 0)) n) else 0) else -1
def scrA (n : Nat) (kd mm : Nat → Nat) (cs : List Cls) (c1 : Nat) (w1 : Nat → Nat) : Int32 := secA (opn kd mm n (btk cs)) (nxt kd mm n) (sumN (fun i => lst 0 i cs) mm 15 n) w1 (lst 3 0 cs) (wys mm n) c1
def parA (n : Nat) (kd mm : Nat → Nat) (cs : List Cls) (c1 : Nat) (w1 : Nat → Nat) (t w : Int32) : Int32 := if inB t n && inB w 2 then tlA (F1 n kd mm cs w1) (nxt kd mm n) (wys mm n) c1 (fun v => (1 - 2 * (ix w : Int)) * (sumN (fun i => lst 0 i cs) mm (2 ^ ix t) n v : Nat)) (fun u v => (chI mm n 0 u v : Int)) (1 - 2 * (ix w : Int)) none else -1
def wirA (n : Nat) (kd mm : Nat → Nat) (cs : List Cls) (c1 : Nat) (w1 : Nat → Nat) (c2 : Nat) (w2 : Nat → Nat) (w : Int32) : Int32 := if inB w 2 then (if c2 = c1 then (if ix w = 1 then optS (fst1 (wrp (opn kd mm n (btk cs)) (nxt kd mm n) (sumN (fun i => lst 0 i cs) mm 15 n) w1 w2 (fun i => lst 0 i cs) mm (lst 3 0 cs) (wys mm n) c1 n) (2 ^ n) 0) else nI (cntB (wrp (opn kd mm n (btk cs)) (nxt kd mm n) (sumN (fun i => lst 0 i cs) mm 15 n) w1 w2 (fun i => lst 0 i cs) mm (lst 3 0 cs) (wys mm n) c1 n) (2 ^ n))) else -3) else -1
def coaA (n : Nat) (kd mm : Nat → Nat) (cs : List Cls) (c1 : Nat) (w1 : Nat → Nat) (r t : Int32) : Int32 := if inB r c1 && inB t n then optS (fst1 (cop (opn kd mm n (btk cs)) (nxt kd mm n) (sumN (fun i => lst 0 i cs) mm 15 n) w1 mm (lst 3 0 cs) (wys mm n) c1 (ix r) (ix t)) 60 1) else -1
section K32
variable {l : Launch} {g : cm_G} {I : cm_I} {L : cm_L} {hr tl : Option Nat} {Q : cm_Post} {n : Nat} {kd mm : Nat → Nat} {len : Nat} {tx : Nat → Nat} {hs : List (List Cls)} {hx c1 : Nat} {w1 : Nat → Nat} {c2 : Nat} {w2 : Nat → Nat} {im : IM} {s : List Nat} {tp : TP}
theorem c_X11_isEither {R : cm_R} {ds : cm_Ds} {x : Int32} (ht : inB x 2 = true → Q (some (.int 1)) I L R ds) (hf : inB x 2 = false → Q (some (.int 0)) I L R ds) : cm_Ex l g 1 0 0 mX11_isEither 0 [.int x] [] I L R ds Q := by
  have e0 : (0 : Int32).toInt = 0 := rfl
  have e1 : (1 : Int32).toInt = 1 := rfl
  have key : inB x 2 = true ↔ x = 0 ∨ x = 1 := by
    rw [inB_iff]
    constructor
    · intro h
      rcases (by omega : x.toInt = 0 ∨ x.toInt = 1) with h | h
      · exact Or.inl (Int32.toInt_inj.mp h)
      · exact Or.inr (Int32.toInt_inj.mp h)
    · rintro (h | h) <;> subst h <;> decide
  have no : ¬ x = 0 → ¬ x = 1 → inB x 2 = false := fun h1 h2 => by
    cases hb : inB x 2 with
    | false => rfl
    | true => rcases key.mp hb with h | h; exact absurd h h1; exact absurd h h2
  refine x_ildn qX11_isEither_0 rfl ?_
  refine x_if_eq (tgt := 9) qX11_isEither_1 (by omega) (fun h1 => ?_) (fun h1 => ?_)
  · refine x_iconst (v := 1) qX11_isEither_9 rfl ?_
    refine x_goto (tgt := 14) qX11_isEither_10 (by omega) ?_
    refine x_iret qX11_isEither_14 rfl rfl ?_
    first | exact ht (key.mpr (Or.inl (by assumption))) | exact ht (key.mpr (Or.inr (by assumption))) | exact hf (no (by assumption) (by assumption))
  · refine x_ildn qX11_isEither_4 rfl ?_
    refine x_iconst (v := 1) qX11_isEither_5 rfl ?_
    refine x_icmp_ne (tgt := 13) qX11_isEither_6 (by omega) (fun h6 => ?_) (fun h6 => ?_)
    · refine x_iconst (v := 0) qX11_isEither_13 rfl ?_
      refine x_iret qX11_isEither_14 rfl rfl ?_
      first | exact ht (key.mpr (Or.inl (by assumption))) | exact ht (key.mpr (Or.inr (by assumption))) | exact hf (no (by assumption) (by assumption))
    · refine x_iconst (v := 1) qX11_isEither_9 rfl ?_
      refine x_goto (tgt := 14) qX11_isEither_10 (by omega) ?_
      refine x_iret qX11_isEither_14 rfl rfl ?_
      first | exact ht (key.mpr (Or.inl (by assumption))) | exact ht (key.mpr (Or.inr (by assumption))) | exact hf (no (by assumption) (by assumption))
theorem c_X11_of {t w : Int32} (C : CI n kd mm len tx hs hx c1 w1 c2 w2 im s tp I L) (hQ : KQ Q (.int (ofA n kd mm (hcs hs hx) t w)) n (CI n kd mm len tx hs hx c1 w1 c2 w2 im s tp) I L) : cm_Ex l g 3 0 0 mX11_of 0 [.ref 0, .int t, .int w, .float 0] [] I L (RR n hr tl) (DD n) Q := by
  have hq := hQ I L hr tl C KM_rfl
  obtain ⟨hh, HC⟩ := CI_hh C
  have H := C.1
  have hn4 := H.1
  have e10 : (nI 10).toInt = 10 := by decide
  have e20 : (nI 20).toInt = 20 := by decide
  refine x_aldn qX11_of_0 rfl trivial ?_
  refine x_getR qX11_of_1 fX11_12 rfl rfl ?_
  refine x_ildn qX11_of_4 rfl ?_
  refine x_cV1 (d' := 1) qX11_of_5 cX11_115 rfl ⟨_, rfl, rfl⟩ rfl rfl (Nat.le_of_ble_eq_true rfl) (Nat.le_of_ble_eq_true rfl) (by decide) ?_
  refine c_X3_thingAt H (fun j hj e => ?_) (fun h => ?_)
  · subst e
    obtain ⟨t0, t1, t2⟩ := H.2.2.2.2.2.2.1 j hj
    have hm := H.2.1 j hj
    have ea : ofA n kd mm (hcs hs hx) (nI j) w = (if w = 0 then nI (kd j) else if w = 1 then nI (mm j) else if 10 ≤ w.toInt ∧ w.toInt < 10 + mm j then nI (lst 0 (4 * j + (ix w - 10)) (hcs hs hx)) else if 20 ≤ w.toInt ∧ w.toInt < 20 + mm j then nI (lst 1 (4 * j + (ix w - 20)) (hcs hs hx)) else -1) := by
      unfold ofA
      rw [if_pos (inB_nI hj (by omega)), ix_nI (by omega)]
    rw [ea] at hq
    have e1 := nI_toInt (n := 10 + mm j) (by omega)
    have e2 := nI_toInt (n := 20 + mm j) (by omega)
    refine x_ast3 qX11_of_8 (by decide) trivial rfl ?_
    refine x_aldn qX11_of_9 rfl trivial ?_
    refine x_ifnonnull (tgt := 15) qX11_of_10 (by omega) ?_
    refine x_ildn qX11_of_15 rfl ?_
    refine x_if_ne (tgt := 24) qX11_of_16 (by omega) (fun h16 => ?_) (fun h16 => ?_)
    · refine x_ildn qX11_of_24 rfl ?_
      refine x_iconst (v := nI 1) qX11_of_25 rfl ?_
      refine x_icmp_ne (tgt := 34) qX11_of_26 (by omega) (fun h26 => ?_) (fun h26 => ?_)
      · refine x_ildn qX11_of_34 rfl ?_
        refine x_bipush (v := nI 10) qX11_of_35 rfl ?_
        refine x_icmp_lt (tgt := 64) qX11_of_37 (by omega) (fun h37 => ?_) (fun h37 => ?_)
        · refine x_ildn qX11_of_64 rfl ?_
          refine x_bipush (v := nI 20) qX11_of_65 rfl ?_
          refine x_icmp_lt (tgt := 94) qX11_of_67 (by omega) (fun h67 => ?_) (fun h67 => ?_)
          · refine x_iconst (v := -1) qX11_of_94 rfl ?_
            refine x_iret qX11_of_95 rfl rfl ?_
            (simp only [Int32.lt_iff_toInt_lt, Int32.le_iff_toInt_le, e10, e20, e1, e2] at *)
            (rw [if_neg h16, if_neg (by exact h26), if_neg (by omega), if_neg (by omega)] at hq)
            exact hq
          · refine x_ildn qX11_of_70 rfl ?_
            refine x_bipush (v := nI 20) qX11_of_71 rfl ?_
            refine x_aldn qX11_of_73 rfl trivial ?_
            refine x_getIe qX11_of_74 fX11_124 (dd_th hj) t2 ?_
            refine x_iadd_n qX11_of_77 ?_
            refine x_icmp_ge (tgt := 94) qX11_of_78 (by omega) (fun h78 => ?_) (fun h78 => ?_)
            · refine x_iconst (v := -1) qX11_of_94 rfl ?_
              refine x_iret qX11_of_95 rfl rfl ?_
              (simp only [Int32.lt_iff_toInt_lt, Int32.le_iff_toInt_le, e10, e20, e1, e2] at *)
              (rw [if_neg h16, if_neg (by exact h26), if_neg (by omega), if_neg (by omega)] at hq)
              exact hq
            · refine x_aldn qX11_of_81 rfl trivial ?_
              refine x_cV0 (d' := 1) qX11_of_82 cX11_127 rfl ⟨_, rfl, rfl⟩ rfl rfl (Nat.le_of_ble_eq_true rfl) (Nat.le_of_ble_eq_true rfl) (by decide) ?_
              refine c_X11_heldHouse C ?_
              refine x_ildn qX11_of_85 rfl ?_
              refine x_ildn qX11_of_86 rfl ?_
              refine x_bipush (v := nI 20) qX11_of_87 rfl ?_
              refine x_isub qX11_of_89 ?_
              refine x_cV2 (d' := 2) qX11_of_90 cX11_135 (dd_hA hh).1 ⟨_, rfl, rfl⟩ rfl rfl (Nat.le_of_ble_eq_true rfl) (Nat.le_of_ble_eq_true rfl) (by decide) ?_
              (rw [Int32.lt_iff_toInt_lt, e20] at h67; rw [Int32.le_iff_toInt_le, e2] at h78; rw [sub_ix (k := 20) (by omega)])
              refine c_X1_gladOf hh (by omega) (by unfold ix; omega) ?_
              refine x_iret qX11_of_93 rfl rfl ?_
              rw [HC.1.2.1 _ (by unfold ix; omega)]
              (first | (rw [if_neg h16, if_neg (by exact h26), if_neg (by rw [Int32.lt_iff_toInt_lt, e10] at h37; omega), if_pos ⟨by omega, by omega⟩] at hq; exact hq) | (rw [if_neg h16, if_neg (by exact h26), if_neg (by rw [Int32.le_iff_toInt_le, e1] at h48; omega), if_pos ⟨by omega, by omega⟩] at hq; exact hq))
        · refine x_ildn qX11_of_40 rfl ?_
          refine x_bipush (v := nI 10) qX11_of_41 rfl ?_
          refine x_aldn qX11_of_43 rfl trivial ?_
          refine x_getIe qX11_of_44 fX11_124 (dd_th hj) t2 ?_
          refine x_iadd_n qX11_of_47 ?_
          refine x_icmp_ge (tgt := 64) qX11_of_48 (by omega) (fun h48 => ?_) (fun h48 => ?_)
          · refine x_ildn qX11_of_64 rfl ?_
            refine x_bipush (v := nI 20) qX11_of_65 rfl ?_
            refine x_icmp_lt (tgt := 94) qX11_of_67 (by omega) (fun h67 => ?_) (fun h67 => ?_)
            · refine x_iconst (v := -1) qX11_of_94 rfl ?_
              refine x_iret qX11_of_95 rfl rfl ?_
              (simp only [Int32.lt_iff_toInt_lt, Int32.le_iff_toInt_le, e10, e20, e1, e2] at *)
              (rw [if_neg h16, if_neg (by exact h26), if_neg (by omega), if_neg (by omega)] at hq)
              exact hq
            · refine x_ildn qX11_of_70 rfl ?_
              refine x_bipush (v := nI 20) qX11_of_71 rfl ?_
              refine x_aldn qX11_of_73 rfl trivial ?_
              refine x_getIe qX11_of_74 fX11_124 (dd_th hj) t2 ?_
              refine x_iadd_n qX11_of_77 ?_
              refine x_icmp_ge (tgt := 94) qX11_of_78 (by omega) (fun h78 => ?_) (fun h78 => ?_)
              · refine x_iconst (v := -1) qX11_of_94 rfl ?_
                refine x_iret qX11_of_95 rfl rfl ?_
                (simp only [Int32.lt_iff_toInt_lt, Int32.le_iff_toInt_le, e10, e20, e1, e2] at *)
                (rw [if_neg h16, if_neg (by exact h26), if_neg (by omega), if_neg (by omega)] at hq)
                exact hq
              · refine x_aldn qX11_of_81 rfl trivial ?_
                refine x_cV0 (d' := 1) qX11_of_82 cX11_127 rfl ⟨_, rfl, rfl⟩ rfl rfl (Nat.le_of_ble_eq_true rfl) (Nat.le_of_ble_eq_true rfl) (by decide) ?_
                refine c_X11_heldHouse C ?_
                refine x_ildn qX11_of_85 rfl ?_
                refine x_ildn qX11_of_86 rfl ?_
                refine x_bipush (v := nI 20) qX11_of_87 rfl ?_
                refine x_isub qX11_of_89 ?_
                refine x_cV2 (d' := 2) qX11_of_90 cX11_135 (dd_hA hh).1 ⟨_, rfl, rfl⟩ rfl rfl (Nat.le_of_ble_eq_true rfl) (Nat.le_of_ble_eq_true rfl) (by decide) ?_
                (rw [Int32.lt_iff_toInt_lt, e20] at h67; rw [Int32.le_iff_toInt_le, e2] at h78; rw [sub_ix (k := 20) (by omega)])
                refine c_X1_gladOf hh (by omega) (by unfold ix; omega) ?_
                refine x_iret qX11_of_93 rfl rfl ?_
                rw [HC.1.2.1 _ (by unfold ix; omega)]
                (first | (rw [if_neg h16, if_neg (by exact h26), if_neg (by rw [Int32.lt_iff_toInt_lt, e10] at h37; omega), if_pos ⟨by omega, by omega⟩] at hq; exact hq) | (rw [if_neg h16, if_neg (by exact h26), if_neg (by rw [Int32.le_iff_toInt_le, e1] at h48; omega), if_pos ⟨by omega, by omega⟩] at hq; exact hq))
          · refine x_aldn qX11_of_51 rfl trivial ?_
            refine x_cV0 (d' := 1) qX11_of_52 cX11_127 rfl ⟨_, rfl, rfl⟩ rfl rfl (Nat.le_of_ble_eq_true rfl) (Nat.le_of_ble_eq_true rfl) (by decide) ?_
            refine c_X11_heldHouse C ?_
            refine x_ildn qX11_of_55 rfl ?_
            refine x_ildn qX11_of_56 rfl ?_
            refine x_bipush (v := nI 10) qX11_of_57 rfl ?_
            refine x_isub qX11_of_59 ?_
            refine x_cV2 (d' := 2) qX11_of_60 cX11_131 (dd_hA hh).1 ⟨_, rfl, rfl⟩ rfl rfl (Nat.le_of_ble_eq_true rfl) (Nat.le_of_ble_eq_true rfl) (by decide) ?_
            (rw [Int32.lt_iff_toInt_lt, e10] at h37; rw [Int32.le_iff_toInt_le, e1] at h48; rw [sub_ix (k := 10) (by omega)])
            refine c_X1_takeOf hh (by omega) (by unfold ix; omega) ?_
            refine x_iret qX11_of_63 rfl rfl ?_
            (rw [if_neg h16, if_neg (by exact h26), if_pos ⟨by omega, by omega⟩] at hq)
            rw [HC.1.1 _ (by unfold ix; omega)]
            exact hq
      · refine x_aldn qX11_of_29 rfl trivial ?_
        refine x_getIe qX11_of_30 fX11_124 (dd_th hj) t2 ?_
        refine x_iret qX11_of_33 rfl rfl ?_
        (rw [if_neg h16, if_pos (by exact h26)] at hq)
        exact hq
    · refine x_aldn qX11_of_19 rfl trivial ?_
      refine x_getIe qX11_of_20 fX11_119 (dd_th hj) t1 ?_
      refine x_iret qX11_of_23 rfl rfl ?_
      (rw [if_pos h16] at hq)
      exact hq
  · refine x_ast3 qX11_of_8 (by decide) trivial rfl ?_
    refine x_aldn qX11_of_9 rfl trivial ?_
    refine x_ifnonnull_n (a := 0) qX11_of_10 ?_
    refine x_iconst (v := -1) qX11_of_13 rfl ?_
    refine x_iret qX11_of_14 rfl rfl ?_
    unfold ofA at hq
    rw [if_neg (fun e => h (inB_iff.mp e))] at hq
    exact hq
end K32
