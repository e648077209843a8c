/-! CellarMeter: judge, alike -/
def judA (n : Nat) (kd mm : Nat → Nat) (cs : List Cls) (c1 : Nat) (w1 : Nat → Nat) (tp : TP) (t i : Int32) : Int32 := if inB t 6 then (if (tp (ix t)).1 ≤ 1 then jdg (F1 n kd mm cs w1) (nxt kd mm n) (wys mm n) (itm (tp (ix t)).2.1 (tp (ix t)).2.2 i.toInt) c1 0 none else -12) else -1
def nmb (cs : List Cls) (a : Nat) : Bool := decide (nmd (btk cs) / 2 ^ a % 2 = 1)
def alk (kd mm : Nat → Nat) (cs : List Cls) (a b : Nat) : Bool := decide (kd a = kd b) && (decide (mm a = mm b) && (!nmb cs a && (!nmb cs b && !(exb (fun k => !(decide (lst 0 (4 * a + k) cs = lst 0 (4 * b + k) cs) && decide (lst 1 (4 * a + k) cs = lst 1 (4 * b + k) cs))) (mm a)))))
/-- the sum of f over m places from k on -/
def sfr (f : Nat → Nat) : Nat → Nat → Nat
  | 0, _ => 0
  | m + 1, k => f k + sfr f m (k + 1)
def aliA (n : Nat) (kd mm : Nat → Nat) (cs : List Cls) : Int32 := nI (sfr (fun a => sfr (fun b => if alk kd mm cs a b then 1 else 0) (n - (a + 1)) (a + 1)) n 0)
section K39
variable {l : Launch} {g : cm_G} {I : cm_I} {L : cm_L} {hr tl : Option Nat} {Q : cm_Post} {n : Nat} {kd mm : Nat → Nat} {len : Nat} {tx : Nat → Nat} {hs : List (List Cls)} {hx c1 : Nat} {w1 : Nat → Nat} {c2 : Nat} {w2 : Nat → Nat} {im : IM} {s : List Nat} {tp : TP}
theorem itm_congr {sz : Nat} {x y : Nat → Int64} (h : ∀ j, j < sz → x j = y j) (i : Int) : itm sz x i = itm sz y i := by
  funext r
  unfold itm
  by_cases e : 0 ≤ i ∧ i + r < sz
  · rw [if_pos e, if_pos e, h _ (by omega)]
  · rw [if_neg e, if_neg e]
theorem c_X11_judge {t i : Int32} (C : CI n kd mm len tx hs hx c1 w1 c2 w2 im s tp I L) (hQ : KQ Q (.int (judA n kd mm (hcs hs hx) c1 w1 tp t i)) n (CI n kd mm len tx hs hx c1 w1 c2 w2 im s tp) I L) : cm_Ex l g 7 0 0 mX11_judge 0 [.ref 0, .int t, .int i, .float 0] [] I L (RR n hr tl) (DD n) Q := by
  have hq := hQ I L hr tl C KM_rfl
  have kk := C.2.2.2.2.2.2.2.2
  refine x_aldn qX11_judge_0 rfl trivial ?_
  refine x_ildn qX11_judge_1 rfl ?_
  refine x_cV1 (d' := 1) qX11_judge_2 cX11_211 rfl ⟨_, rfl, rfl⟩ rfl rfl (Nat.le_of_ble_eq_true rfl) (Nat.le_of_ble_eq_true rfl) (by decide) ?_
  refine c_X11_tapeAt (fun ht => ?_) (fun ht => ?_)
  · obtain ⟨et, lt⟩ := inB_ix ht
    obtain ⟨k1, k2, k3, k4, k5, k6⟩ := kk _ lt
    have dt := dd_tA (t := n) lt
    have main : (tp (ix t)).1 ≤ 1 → cm_Ex l g 7 0 0 mX11_judge 29 [.ref 0, .int t, .int i, .ref (tA (ix t))] [] I L (RR n hr tl) (DD n) Q := fun h => by
      have ev : judA n kd mm (hcs hs hx) c1 w1 tp t i = jdg (F1 n kd mm (hcs hs hx) w1) (nxt kd mm n) (wys mm n) (itm (tp (ix t)).2.1 (tp (ix t)).2.2 i.toInt) c1 0 none := by
        unfold judA; rw [if_pos ht, if_pos h]
      rw [ev] at hQ
      refine x_aldn qX11_judge_29 rfl trivial ?_
      refine x_cV0 (d' := 6) qX11_judge_30 cX11_166 rfl ⟨_, rfl, rfl⟩ rfl rfl (Nat.le_of_ble_eq_true rfl) (Nat.le_of_ble_eq_true rfl) (by decide) ?_
      refine c_X11_laid C (fun I' L' hD C' K' => ?_)
      have hq2 := hQ I' L' hr (some (hA hx)) C' K'
      obtain ⟨q1, q2, q3, q4, q5, q6⟩ := C'.2.2.2.2.2.2.2.2 _ lt
      rw [← itm_congr (fun j hj => q6 j (by omega))] at hq2
      refine x_aldn qX11_judge_33 rfl trivial ?_
      refine x_ildn qX11_judge_34 rfl ?_
      refine x_cV2 (d' := 6) qX11_judge_35 cX11_222 rfl ⟨_, rfl, rfl⟩ rfl rfl (Nat.le_of_ble_eq_true rfl) (Nat.le_of_ble_eq_true rfl) (by decide) ?_
      refine c_X7_judged lt q5 q2 C'.2.2.2.2.1.2.1 C'.1 hD ?_
      refine x_iret qX11_judge_38 rfl rfl ?_
      exact hq2
    refine x_ast3 qX11_judge_5 (by decide) trivial rfl ?_
    refine x_aldn qX11_judge_6 rfl trivial ?_
    refine x_ifnonnull (tgt := 12) qX11_judge_7 (by omega) ?_
    refine x_aldn qX11_judge_12 rfl trivial ?_
    refine x_cV0 (d' := 1) qX11_judge_13 cX11_215 dt.1 ⟨_, rfl, rfl⟩ rfl rfl (Nat.le_of_ble_eq_true rfl) (Nat.le_of_ble_eq_true rfl) (by decide) ?_
    refine c_X6_isNothing lt (fun h => ?_) (fun h => ?_)
    · rw [k4, tsI_iff k1] at h
      refine x_if_ne_t (tgt := 29) qX11_judge_16 (by omega) (by decide) ?_
      exact main (by omega)
    · rw [k4, tsI_iff k1] at h
      have hts : I (tA (ix t)) 1 = nI ((tp (ix t)).1 - 1) := by rw [k4]; unfold tsI; rw [if_neg h]
      refine x_if_ne_f (tgt := 29) qX11_judge_16 (by omega) (by decide) ?_
      refine x_aldn qX11_judge_19 rfl trivial ?_
      refine x_getIe qX11_judge_20 fX11_219 dt.1 hts ?_
      refine x_if_eq_n (tgt := 29) qX11_judge_23 (by omega) (by omega) (fun h2 => main (by omega)) (fun h2 => ?_)
      have ev : judA n kd mm (hcs hs hx) c1 w1 tp t i = -12 := by unfold judA; rw [if_pos ht, if_neg (by omega)]
      rw [ev] at hq
      refine x_bipush (v := -12) qX11_judge_26 rfl ?_
      refine x_iret qX11_judge_28 rfl rfl ?_
      exact hq
  · have ev : judA n kd mm (hcs hs hx) c1 w1 tp t i = -1 := by unfold judA; rw [if_neg (by rw [ht]; decide)]
    rw [ev] at hq
    refine x_ast3 qX11_judge_5 (by decide) trivial rfl ?_
    refine x_aldn qX11_judge_6 rfl trivial ?_
    refine x_ifnonnull_n (a := 0) qX11_judge_7 ?_
    refine x_iconst (v := -1) qX11_judge_10 rfl ?_
    refine x_iret qX11_judge_11 rfl rfl ?_
    exact hq
theorem c_X11_areAlike {a b : Nat} (C : CI n kd mm len tx hs hx c1 w1 c2 w2 im s tp I L) (ha : a < n) (hb : b < n) (ht : alk kd mm (hcs hs hx) a b = true → Q (some (.int 1)) I L (RR n hr tl) (DD n)) (hf : alk kd mm (hcs hs hx) a b = false → Q (some (.int 0)) I L (RR n hr tl) (DD n)) : cm_Ex l g 3 0 0 mX11_areAlike 0 [.ref 0, .int (nI a), .int (nI b), .float 0, .float 0, .float 0, .float 0] [] I L (RR n hr tl) (DD n) Q := by
  obtain ⟨hh, HC⟩ := CI_hh C
  have H := C.1
  have hn4 := H.1
  obtain ⟨ta0, ta1, ta2⟩ := H.2.2.2.2.2.2.1 a ha
  obtain ⟨tb0, tb1, tb2⟩ := H.2.2.2.2.2.2.1 b hb
  have ma := H.2.1 a ha
  have mb := H.2.1 b hb
  have ka := H.2.2.1 a ha
  have kb := H.2.2.1 b hb
  have vb := fun i hi => HC.2.2.2.1 i hi
  refine x_aldn qX11_areAlike_0 rfl trivial ?_
  refine x_getR qX11_areAlike_1 fX11_12 rfl rfl ?_
  refine x_ildn qX11_areAlike_4 rfl ?_
  refine x_cV1 (d' := 1) qX11_areAlike_5 cX11_115 rfl ⟨_, rfl, rfl⟩ rfl rfl (Nat.le_of_ble_eq_true rfl) (Nat.le_of_ble_eq_true rfl) (by decide) ?_
  refine c_X3_thingAt H (fun j hj e => ?_) (fun h => absurd (by rw [nI_toInt (by omega)]; omega) h)
  have e1 : a = j := (nI_eq (by omega) (by omega)).mp e
  subst e1
  refine x_ast3 qX11_areAlike_8 (by decide) trivial rfl ?_
  refine x_aldn qX11_areAlike_9 rfl trivial ?_
  refine x_getR qX11_areAlike_10 fX11_12 rfl rfl ?_
  refine x_ildn qX11_areAlike_13 rfl ?_
  refine x_cV1 (d' := 1) qX11_areAlike_14 cX11_115 rfl ⟨_, rfl, rfl⟩ rfl rfl (Nat.le_of_ble_eq_true rfl) (Nat.le_of_ble_eq_true rfl) (by decide) ?_
  refine c_X3_thingAt H (fun j hj e => ?_) (fun h => absurd (by rw [nI_toInt (by omega)]; omega) h)
  have e1 : b = j := (nI_eq (by omega) (by omega)).mp e
  subst e1
  have no : alk kd mm (hcs hs hx) a b = false → cm_Ex l g 3 0 0 mX11_areAlike 52 [.ref 0, .int (nI a), .int (nI b), .ref (106 + a), .ref (106 + b), .float 0, .float 0] [] I L (RR n hr tl) (DD n) Q := fun h => by
    refine x_iconst (v := nI 0) qX11_areAlike_52 rfl ?_
    refine x_iret qX11_areAlike_53 rfl rfl ?_
    exact hf h
  refine x_ast4 qX11_areAlike_17 (by decide) trivial rfl ?_
  refine x_aldn qX11_areAlike_19 rfl trivial ?_
  refine x_ifnull qX11_areAlike_20 ?_
  refine x_ald qX11_areAlike_23 rfl trivial ?_
  refine x_ifnull qX11_areAlike_25 ?_
  refine x_aldn qX11_areAlike_28 rfl trivial ?_
  refine x_getIe qX11_areAlike_29 fX11_119 (dd_th ha) ta1 ?_
  refine x_ald qX11_areAlike_32 rfl trivial ?_
  refine x_getIe qX11_areAlike_34 fX11_119 (dd_th hb) tb1 ?_
  refine x_icmp_ne_n (tgt := 52) qX11_areAlike_37 (by omega) (by omega) (by omega) (fun h => no (by unfold alk; rw [decide_eq_false h]; rfl)) (fun hk => ?_)
  refine x_aldn qX11_areAlike_40 rfl trivial ?_
  refine x_getIe qX11_areAlike_41 fX11_124 (dd_th ha) ta2 ?_
  refine x_ald qX11_areAlike_44 rfl trivial ?_
  refine x_getIe qX11_areAlike_46 fX11_124 (dd_th hb) tb2 ?_
  refine x_icmp_eq_n (tgt := 54) qX11_areAlike_49 (by omega) (by omega) (by omega) (fun hm => ?_) (fun h => no (by unfold alk; rw [decide_eq_false h]; simp))
  have e0 : alk kd mm (hcs hs hx) a b = (!nmb (hcs hs hx) a && (!nmb (hcs hs hx) b && !(exb (fun k => !(decide (lst 0 (4 * a + k) (hcs hs hx) = lst 0 (4 * b + k) (hcs hs hx)) && decide (lst 1 (4 * a + k) (hcs hs hx) = lst 1 (4 * b + k) (hcs hs hx)))) (mm a)))) := by
    unfold alk; rw [decide_eq_true hk, decide_eq_true hm]; rfl
  rw [e0] at ht hf
  refine x_aldn qX11_areAlike_54 rfl trivial ?_
  refine x_cV0 (d' := 1) qX11_areAlike_55 cX11_127 rfl ⟨_, rfl, rfl⟩ rfl rfl (Nat.le_of_ble_eq_true rfl) (Nat.le_of_ble_eq_true rfl) (by decide) ?_
  refine c_X11_heldHouse C ?_
  refine x_ast5 qX11_areAlike_58 (by decide) trivial rfl ?_
  refine x_ald qX11_areAlike_60 rfl trivial ?_
  refine x_ildn qX11_areAlike_62 rfl ?_
  refine x_cV1 (d' := 1) qX11_areAlike_63 cX11_280 (dd_hA hh).1 ⟨_, rfl, rfl⟩ rfl rfl (Nat.le_of_ble_eq_true rfl) (Nat.le_of_ble_eq_true rfl) (by decide) ?_
  refine c_X1_names hh (by omega) HC.1.2.2.2.2.1 (nmd_lt _) (fun h => ?_) (fun h => ?_)
  · have e1 : nmb (hcs hs hx) a = true := decide_eq_true h
    rw [e1] at hf
    refine x_if_ne_t (tgt := 78) qX11_areAlike_66 (by omega) (by decide) ?_
    refine x_iconst (v := nI 0) qX11_areAlike_78 rfl ?_
    refine x_iret qX11_areAlike_79 rfl rfl ?_
    exact hf rfl
  · have e1 : nmb (hcs hs hx) a = false := decide_eq_false h
    rw [e1] at ht hf
    refine x_if_ne_f (tgt := 78) qX11_areAlike_66 (by omega) (by decide) ?_
    refine x_ald qX11_areAlike_69 rfl trivial ?_
    refine x_ildn qX11_areAlike_71 rfl ?_
    refine x_cV1 (d' := 1) qX11_areAlike_72 cX11_280 (dd_hA hh).1 ⟨_, rfl, rfl⟩ rfl rfl (Nat.le_of_ble_eq_true rfl) (Nat.le_of_ble_eq_true rfl) (by decide) ?_
    refine c_X1_names hh (by omega) HC.1.2.2.2.2.1 (nmd_lt _) (fun h => ?_) (fun h => ?_)
    · have e2 : nmb (hcs hs hx) b = true := decide_eq_true h
      rw [e2] at hf
      refine x_if_eq_f (tgt := 80) qX11_areAlike_75 (by omega) (by decide) ?_
      refine x_iconst (v := nI 0) qX11_areAlike_78 rfl ?_
      refine x_iret qX11_areAlike_79 rfl rfl ?_
      exact hf rfl
    · have e2 : nmb (hcs hs hx) b = false := decide_eq_false h
      rw [e2] at ht hf
      have loop : ∀ m k, k + m = mm a → (∀ i, i < k → (fun k => !(decide (lst 0 (4 * a + k) (hcs hs hx) = lst 0 (4 * b + k) (hcs hs hx)) && decide (lst 1 (4 * a + k) (hcs hs hx) = lst 1 (4 * b + k) (hcs hs hx)))) i = false) → cm_Ex l g 3 0 0 mX11_areAlike 83 [.ref 0, .int (nI a), .int (nI b), .ref (106 + a), .ref (106 + b), .ref (hA hx), .int (nI k)] [] I L (RR n hr tl) (DD n) Q := by
        intro m
        induction m with
        | zero =>
          intro k hk2 hi
          have e : k = mm a := by omega
          subst e
          refine x_ild qX11_areAlike_83 rfl ?_
          refine x_aldn qX11_areAlike_85 rfl trivial ?_
          refine x_getIe qX11_areAlike_86 fX11_124 (dd_th ha) ta2 ?_
          refine x_icmp_ge_nt (tgt := 138) qX11_areAlike_89 (by omega) (by omega) (by omega) (by omega) ?_
          refine x_iconst (v := nI 1) qX11_areAlike_138 rfl ?_
          refine x_iret qX11_areAlike_139 rfl rfl ?_
          exact ht (by rw [exb_false.mpr hi]; rfl)
        | succ m ih =>
          intro k hk2 hi
          have bad : (!(decide (lst 0 (4 * a + k) (hcs hs hx) = lst 0 (4 * b + k) (hcs hs hx)) && decide (lst 1 (4 * a + k) (hcs hs hx) = lst 1 (4 * b + k) (hcs hs hx)))) = true → Q (some (.int 0)) I L (RR n hr tl) (DD n) := fun e => hf (by rw [exb_iff.mpr ⟨k, by omega, e⟩]; rfl)
          have v1 := (vb (4 * a + k) (by omega)).1
          have v2 := (vb (4 * b + k) (by omega)).1
          have v3 := (vb (4 * a + k) (by omega)).2
          have v4 := (vb (4 * b + k) (by omega)).2
          refine x_ild qX11_areAlike_83 rfl ?_
          refine x_aldn qX11_areAlike_85 rfl trivial ?_
          refine x_getIe qX11_areAlike_86 fX11_124 (dd_th ha) ta2 ?_
          refine x_icmp_ge_nf (tgt := 138) qX11_areAlike_89 (by omega) (by omega) (by omega) (by omega) ?_
          refine x_ald qX11_areAlike_92 rfl trivial ?_
          refine x_ildn qX11_areAlike_94 rfl ?_
          refine x_ild qX11_areAlike_95 rfl ?_
          refine x_cV2 (d' := 2) qX11_areAlike_97 cX11_131 (dd_hA hh).1 ⟨_, rfl, rfl⟩ rfl rfl (Nat.le_of_ble_eq_true rfl) (Nat.le_of_ble_eq_true rfl) (by decide) ?_
          refine c_X1_takeOf hh (by omega) (by omega) ?_
          refine x_topI (HC.1.1 (4 * a + k) (by omega)) ?_
          refine x_ald qX11_areAlike_100 rfl trivial ?_
          refine x_ildn qX11_areAlike_102 rfl ?_
          refine x_ild qX11_areAlike_103 rfl ?_
          refine x_cV2 (d' := 2) qX11_areAlike_105 cX11_131 (dd_hA hh).1 ⟨_, rfl, rfl⟩ rfl rfl (Nat.le_of_ble_eq_true rfl) (Nat.le_of_ble_eq_true rfl) (by decide) ?_
          refine c_X1_takeOf hh (by omega) (by omega) ?_
          refine x_topI (HC.1.1 (4 * b + k) (by omega)) ?_
          refine x_icmp_ne_n (tgt := 130) qX11_areAlike_108 (by omega) (by omega) (by omega) (fun h => ?_) (fun h1 => ?_)
          · refine x_iconst (v := nI 0) qX11_areAlike_130 rfl ?_
            refine x_iret qX11_areAlike_131 rfl rfl ?_
            exact bad (by rw [decide_eq_false h]; rfl)
          · refine x_ald qX11_areAlike_111 rfl trivial ?_
            refine x_ildn qX11_areAlike_113 rfl ?_
            refine x_ild qX11_areAlike_114 rfl ?_
            refine x_cV2 (d' := 2) qX11_areAlike_116 cX11_135 (dd_hA hh).1 ⟨_, rfl, rfl⟩ rfl rfl (Nat.le_of_ble_eq_true rfl) (Nat.le_of_ble_eq_true rfl) (by decide) ?_
            refine c_X1_gladOf hh (by omega) (by omega) ?_
            refine x_topI (HC.1.2.1 (4 * a + k) (by omega)) ?_
            refine x_ald qX11_areAlike_119 rfl trivial ?_
            refine x_ildn qX11_areAlike_121 rfl ?_
            refine x_ild qX11_areAlike_122 rfl ?_
            refine x_cV2 (d' := 2) qX11_areAlike_124 cX11_135 (dd_hA hh).1 ⟨_, rfl, rfl⟩ rfl rfl (Nat.le_of_ble_eq_true rfl) (Nat.le_of_ble_eq_true rfl) (by decide) ?_
            refine c_X1_gladOf hh (by omega) (by omega) ?_
            refine x_topI (HC.1.2.1 (4 * b + k) (by omega)) ?_
            refine x_icmp_eq_n (tgt := 132) qX11_areAlike_127 (by omega) (by omega) (by omega) (fun h2 => ?_) (fun h => ?_)
            · refine x_iinc6 qX11_areAlike_132 (by decide) (cm_inc _) rfl ?_
              refine x_goto (tgt := 83) qX11_areAlike_135 (by omega) ?_
              refine ih (k + 1) (by omega) (fun i hi2 => ?_)
              by_cases e : i = k
              · subst e
                show (!(decide _ && decide _)) = false
                rw [decide_eq_true h1, decide_eq_true h2]; rfl
              · exact hi i (by omega)
            · refine x_iconst (v := nI 0) qX11_areAlike_130 rfl ?_
              refine x_iret qX11_areAlike_131 rfl rfl ?_
              exact bad (by rw [decide_eq_false h]; simp)
      refine x_if_eq_t (tgt := 80) qX11_areAlike_75 (by omega) (by decide) ?_
      refine x_iconst (v := nI 0) qX11_areAlike_80 rfl ?_
      refine x_ist6 qX11_areAlike_81 (by decide) rfl ?_
      exact loop (mm a) 0 (by omega) (fun i hi => by omega)
theorem c_X11_alike (C : CI n kd mm len tx hs hx c1 w1 c2 w2 im s tp I L) (hQ : KQ Q (.int (aliA n kd mm (hcs hs hx))) n (CI n kd mm len tx hs hx c1 w1 c2 w2 im s tp) I L) : cm_Ex l g 4 0 0 mX11_alike 0 [.ref 0, .float 0, .float 0, .float 0] [] I L (RR n hr tl) (DD n) Q := by
  have hq := hQ I L hr tl C KM_rfl
  have H := C.1
  have hn4 := H.1
  unfold aliA at hq
  generalize hT : sfr (fun a => sfr (fun b => if alk kd mm (hcs hs hx) a b then 1 else 0) (n - (a + 1)) (a + 1)) n 0 = T at hq
  have outer : ∀ m a f a3, a + m = n → f + sfr (fun a => sfr (fun b => if alk kd mm (hcs hs hx) a b then 1 else 0) (n - (a + 1)) (a + 1)) m a = T → cm_Ex l g 4 0 0 mX11_alike 4 [.ref 0, .int (nI f), .int (nI a), a3] [] I L (RR n hr tl) (DD n) Q := by
    intro m
    induction m with
    | zero =>
      intro a f a3 ha hf
      have e : f = T := hf
      subst e
      refine x_ildn qX11_alike_4 rfl ?_
      refine x_aldn qX11_alike_5 rfl trivial ?_
      refine x_getR qX11_alike_6 fX11_12 rfl rfl ?_
      refine x_getIe qX11_alike_9 fX11_114 rfl H.2.2.2.2.1 ?_
      refine x_icmp_ge_nt (tgt := 54) qX11_alike_12 (by omega) (by omega) (by omega) (by omega) ?_
      refine x_ildn qX11_alike_54 rfl ?_
      refine x_iret qX11_alike_55 rfl rfl ?_
      exact hq
    | succ m ih =>
      intro a f a3 ha hf
      have inner : ∀ j b f, b + j = n → (f + sfr (fun b => if alk kd mm (hcs hs hx) a b then 1 else 0) j b) + sfr (fun a => sfr (fun b => if alk kd mm (hcs hs hx) a b then 1 else 0) (n - (a + 1)) (a + 1)) m (a + 1) = T → cm_Ex l g 4 0 0 mX11_alike 19 [.ref 0, .int (nI f), .int (nI a), .int (nI b)] [] I L (RR n hr tl) (DD n) Q := by
        intro j
        induction j with
        | zero =>
          intro b f hb hf
          refine x_ildn qX11_alike_19 rfl ?_
          refine x_aldn qX11_alike_20 rfl trivial ?_
          refine x_getR qX11_alike_21 fX11_12 rfl rfl ?_
          refine x_getIe qX11_alike_24 fX11_114 rfl H.2.2.2.2.1 ?_
          refine x_icmp_ge_nt (tgt := 48) qX11_alike_27 (by omega) (by omega) (by omega) (by omega) ?_
          refine x_iinc2 qX11_alike_48 (by decide) (cm_inc _) rfl ?_
          refine x_goto (tgt := 4) qX11_alike_51 (by omega) ?_
          exact ih (a + 1) f _ (by omega) hf
        | succ j ih2 =>
          intro b f hb hf
          refine x_ildn qX11_alike_19 rfl ?_
          refine x_aldn qX11_alike_20 rfl trivial ?_
          refine x_getR qX11_alike_21 fX11_12 rfl rfl ?_
          refine x_getIe qX11_alike_24 fX11_114 rfl H.2.2.2.2.1 ?_
          refine x_icmp_ge_nf (tgt := 48) qX11_alike_27 (by omega) (by omega) (by omega) (by omega) ?_
          refine x_aldn qX11_alike_30 rfl trivial ?_
          refine x_ildn qX11_alike_31 rfl ?_
          refine x_ildn qX11_alike_32 rfl ?_
          refine x_cV2 (d' := 3) qX11_alike_33 cX11_195 rfl ⟨_, rfl, rfl⟩ rfl rfl (Nat.le_of_ble_eq_true rfl) (Nat.le_of_ble_eq_true rfl) (by decide) ?_
          refine c_X11_areAlike C (by omega) (by omega) (fun h => ?_) (fun h => ?_)
          · refine x_if_eq_f (tgt := 42) qX11_alike_36 (by omega) (by decide) ?_
            refine x_iinc1 qX11_alike_39 (by decide) (cm_inc _) rfl ?_
            refine x_iinc3 qX11_alike_42 (by decide) (cm_inc _) rfl ?_
            refine x_goto (tgt := 19) qX11_alike_45 (by omega) ?_
            refine ih2 (b + 1) (f + 1) (by omega) ?_
            simp only [sfr, h, if_true] at hf
            omega
          · refine x_if_eq_t (tgt := 42) qX11_alike_36 (by omega) (by decide) ?_
            refine x_iinc3 qX11_alike_42 (by decide) (cm_inc _) rfl ?_
            refine x_goto (tgt := 19) qX11_alike_45 (by omega) ?_
            refine ih2 (b + 1) f (by omega) ?_
            simp only [sfr, h] at hf
            simpa using hf
      refine x_ildn qX11_alike_4 rfl ?_
      refine x_aldn qX11_alike_5 rfl trivial ?_
      refine x_getR qX11_alike_6 fX11_12 rfl rfl ?_
      refine x_getIe qX11_alike_9 fX11_114 rfl H.2.2.2.2.1 ?_
      refine x_icmp_ge_nf (tgt := 54) qX11_alike_12 (by omega) (by omega) (by omega) (by omega) ?_
      refine x_ildn qX11_alike_15 rfl ?_
      refine x_iconst (v := nI 1) qX11_alike_16 rfl ?_
      refine x_iadd_n qX11_alike_17 ?_
      refine x_ist3 qX11_alike_18 (by decide) rfl ?_
      refine inner (n - (a + 1)) (a + 1) f (by omega) ?_
      simp only [sfr] at hf
      omega
  refine x_iconst (v := nI 0) qX11_alike_0 rfl ?_
  refine x_ist1 qX11_alike_1 (by decide) rfl ?_
  refine x_iconst (v := nI 0) qX11_alike_2 rfl ?_
  refine x_ist2 qX11_alike_3 (by decide) rfl ?_
  exact outer n 0 0 _ (by omega) (by rw [Nat.zero_add]; exact hT)
end K39
