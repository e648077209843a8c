/-! Tape -/
/-- what an item of a sort keeps of a long -/
def cutf (k : Nat) (v : Int64) : Int64 := if k = 0 then v.toInt32.toInt8.toInt32.toInt64 else if k = 1 then v.toInt32.toInt16.toInt32.toInt64 else if k = 2 then v.toInt32.toInt64 else if k = 4 then (if v = 0 then 0 else 1) else v
theorem lg_cmp0 (v : Int64) : lg_cmp v 0 = 0 ↔ v = 0 := by
  unfold lg_cmp
  constructor
  · intro h
    split at h
    · exact absurd h (by decide)
    · split at h
      · assumption
      · exact absurd h (by decide)
  · intro h
    subst h
    rfl
section K3
variable {l : Launch} {g : cm_G} {I : cm_I} {L : cm_L} {t : Nat} {hr tl : Option Nat} {Q : cm_Post} {p : Nat}
theorem c_X6_isNothing (hp : p < 6) (ht : I (tA p) 1 = -1 → Q (some (.int 1)) I L (RR t hr tl) (DD t)) (hf : ¬ I (tA p) 1 = -1 → Q (some (.int 0)) I L (RR t hr tl) (DD t)) : cm_Ex l g 1 0 0 mX6_isNothing 0 [.ref (tA p)] [] I L (RR t hr tl) (DD t) Q := by
  refine x_aldn qX6_isNothing_0 rfl trivial ?_
  refine x_getI qX6_isNothing_1 fX6_15 (dd_tA hp).1 ?_
  refine x_iconst (v := -1) qX6_isNothing_4 rfl ?_
  refine x_icmp_ne (tgt := 12) qX6_isNothing_5 (by omega) (fun h5 => ?_) (fun h5 => ?_)
  · refine x_iconst (v := 0) qX6_isNothing_12 rfl ?_
    refine x_iret qX6_isNothing_13 rfl rfl ?_
    first | exact hf h5 | exact ht h5
  · refine x_iconst (v := 1) qX6_isNothing_8 rfl ?_
    refine x_goto (tgt := 13) qX6_isNothing_9 (by omega) ?_
    refine x_iret qX6_isNothing_13 rfl rfl ?_
    first | exact hf h5 | exact ht h5
theorem c_X6_become {s n : Int32} (hp : p < 6) (hQ : Q none (cm_u (cm_u I (tA p) 1 s) (tA p) 2 n) (fun b i => if b = tA p + 1 ∧ i < 60 then 0 else L b i) (RR t hr tl) (DD t)) : cm_Ex l g 1 0 0 mX6_become 0 [.ref (tA p), .int s, .int n, .float 0] [] I L (RR t hr tl) (DD t) Q := by
  have loop : ∀ m j, j + m = 60 → cm_Ex l g 1 0 0 mX6_become 12 [.ref (tA p), .int s, .int n, .int (nI j)] [] (cm_u (cm_u I (tA p) 1 s) (tA p) 2 n) (fun b i => if b = tA p + 1 ∧ i < j then 0 else L b i) (RR t hr tl) (DD t) Q := by
    intro m
    induction m with
    | zero =>
      intro j hj
      have e : j = 60 := by omega
      subst e
      refine x_ildn qX6_become_12 rfl ?_
      refine x_aldn qX6_become_13 rfl trivial ?_
      refine x_getR qX6_become_14 fX6_9 (dd_tA hp).1 (rr_tA hp) ?_
      refine x_alen qX6_become_17 (dd_tA hp).2 (by decide) rfl ?_
      refine x_icmp_ge_nt (tgt := 34) qX6_become_18 (by omega) (by omega) (by omega) (by omega) ?_
      refine x_vret qX6_become_34 rfl ?_
      exact hQ
    | succ m ih =>
      intro j hj
      have hm := ih (j + 1) (by omega)
      refine x_ildn qX6_become_12 rfl ?_
      refine x_aldn qX6_become_13 rfl trivial ?_
      refine x_getR qX6_become_14 fX6_9 (dd_tA hp).1 (rr_tA hp) ?_
      refine x_alen qX6_become_17 (dd_tA hp).2 (by decide) rfl ?_
      refine x_icmp_ge_nf (tgt := 34) qX6_become_18 (by omega) (by omega) (by omega) (by omega) ?_
      refine x_aldn qX6_become_21 rfl trivial ?_
      refine x_getR qX6_become_22 fX6_9 (dd_tA hp).1 (rr_tA hp) ?_
      refine x_ildn qX6_become_25 rfl ?_
      refine x_lconst (v := 0) qX6_become_26 rfl ?_
      refine x_last qX6_become_27 (dd_tA hp).2 rfl (by omega) (by decide) ?_
      refine x_iinc3 qX6_become_28 (by decide) (cm_inc _) rfl ?_
      refine x_goto (tgt := 12) qX6_become_31 (by omega) ?_
      refine x_memL ?_ hm
      funext b i
      unfold cm_u
      by_cases hb : b = tA p + 1
      · subst hb
        by_cases hi : i = j
        · subst hi; simp
        · have e1 : (i < j + 1) ↔ i < j := by omega
          simp [hi, e1]
      · simp [hb]
  refine x_aldn qX6_become_0 rfl trivial ?_
  refine x_ildn qX6_become_1 rfl ?_
  refine x_putI qX6_become_2 fX6_15 (Or.inl rfl) (dd_tA hp).1 ?_
  refine x_aldn qX6_become_5 rfl trivial ?_
  refine x_ildn qX6_become_6 rfl ?_
  refine x_putI qX6_become_7 fX6_19 (Or.inl rfl) (dd_tA hp).1 ?_
  refine x_iconst (v := nI 0) qX6_become_10 rfl ?_
  refine x_ist3 qX6_become_11 (by decide) rfl ?_
  refine x_memL ?_ (loop 60 0 rfl)
  funext b i
  simp
theorem c_X6_has {n : Nat} {i : Int32} (hp : p < 6) (h0 : I (tA p) 2 = nI n) (hn : n ≤ 60) (ht : 0 ≤ i.toInt ∧ i.toInt < n → Q (some (.int 1)) I L (RR t hr tl) (DD t)) (hf : ¬ (0 ≤ i.toInt ∧ i.toInt < n) → Q (some (.int 0)) I L (RR t hr tl) (DD t)) : cm_Ex l g 1 0 0 mX6_has 0 [.ref (tA p), .int i] [] I L (RR t hr tl) (DD t) Q := by
  have e1 := nI_toInt (n := n) (by omega)
  have e2 : (nI 60).toInt = 60 := by decide
  refine x_ildn qX6_has_0 rfl ?_
  refine x_if_lt (tgt := 25) qX6_has_1 (by omega) (fun h1 => ?_) (fun h1 => ?_)
  · refine x_iconst (v := 0) qX6_has_25 rfl ?_
    refine x_iret qX6_has_26 rfl rfl ?_
    simp only [Int32.le_iff_toInt_le, Int32.lt_iff_toInt_lt, t0i, e1, e2] at *
    first | exact ht (by omega) | exact hf (by omega)
  · refine x_ildn qX6_has_4 rfl ?_
    refine x_aldn qX6_has_5 rfl trivial ?_
    refine x_getIe qX6_has_6 fX6_19 (dd_tA hp).1 h0 ?_
    refine x_icmp_ge (tgt := 25) qX6_has_9 (by omega) (fun h9 => ?_) (fun h9 => ?_)
    · refine x_iconst (v := 0) qX6_has_25 rfl ?_
      refine x_iret qX6_has_26 rfl rfl ?_
      simp only [Int32.le_iff_toInt_le, Int32.lt_iff_toInt_lt, t0i, e1, e2] at *
      first | exact ht (by omega) | exact hf (by omega)
    · refine x_ildn qX6_has_12 rfl ?_
      refine x_aldn qX6_has_13 rfl trivial ?_
      refine x_getR qX6_has_14 fX6_9 (dd_tA hp).1 (rr_tA hp) ?_
      refine x_alen qX6_has_17 (dd_tA hp).2 (by decide) rfl ?_
      refine x_icmp_ge (tgt := 25) qX6_has_18 (by omega) (fun h18 => ?_) (fun h18 => ?_)
      · refine x_iconst (v := 0) qX6_has_25 rfl ?_
        refine x_iret qX6_has_26 rfl rfl ?_
        simp only [Int32.le_iff_toInt_le, Int32.lt_iff_toInt_lt, t0i, e1, e2] at *
        first | exact ht (by omega) | exact hf (by omega)
      · refine x_iconst (v := 1) qX6_has_21 rfl ?_
        refine x_goto (tgt := 26) qX6_has_22 (by omega) ?_
        refine x_iret qX6_has_26 rfl rfl ?_
        simp only [Int32.le_iff_toInt_le, Int32.lt_iff_toInt_lt, t0i, e1, e2] at *
        first | exact ht (by omega) | exact hf (by omega)
theorem c_X6_hasRun {m : Nat} {i n : Int32} (hp : p < 6) (h0 : I (tA p) 2 = nI m) (hn : m ≤ 60) (ht : 0 ≤ i.toInt ∧ 0 ≤ n.toInt ∧ i.toInt + n.toInt ≤ m → Q (some (.int 1)) I L (RR t hr tl) (DD t)) (hf : ¬ (0 ≤ i.toInt ∧ 0 ≤ n.toInt ∧ i.toInt + n.toInt ≤ m) → Q (some (.int 0)) I L (RR t hr tl) (DD t)) : cm_Ex l g 1 0 0 mX6_hasRun 0 [.ref (tA p), .int i, .int n] [] I L (RR t hr tl) (DD t) Q := by
  have e1 := nI_toInt (n := m) (by omega)
  have sub : 0 ≤ i.toInt → i.toInt ≤ m → (nI m - i).toInt = m - i.toInt := by
    intro h1 h2
    obtain ⟨j, hj, rfl⟩ := nI_of (x := i) (by rw [Int32.lt_iff_toInt_lt, t0i]; omega)
    rw [nI_toInt hj] at h2 ⊢
    exact pk_sub_toInt (by omega) (by omega)
  refine x_ildn qX6_hasRun_0 rfl ?_
  refine x_if_lt (tgt := 30) qX6_hasRun_1 (by omega) (fun h1 => ?_) (fun h1 => ?_)
  · refine x_iconst (v := 0) qX6_hasRun_30 rfl ?_
    refine x_iret qX6_hasRun_31 rfl rfl ?_
    simp only [Int32.le_iff_toInt_le, Int32.lt_iff_toInt_lt, t0i, e1] at *
    first | exact ht (by have := sub (by omega) (by omega); omega) | exact hf (by first | omega | (have := sub (by omega) (by omega); omega))
  · refine x_ildn qX6_hasRun_4 rfl ?_
    refine x_if_lt (tgt := 30) qX6_hasRun_5 (by omega) (fun h5 => ?_) (fun h5 => ?_)
    · refine x_iconst (v := 0) qX6_hasRun_30 rfl ?_
      refine x_iret qX6_hasRun_31 rfl rfl ?_
      simp only [Int32.le_iff_toInt_le, Int32.lt_iff_toInt_lt, t0i, e1] at *
      first | exact ht (by have := sub (by omega) (by omega); omega) | exact hf (by first | omega | (have := sub (by omega) (by omega); omega))
    · refine x_ildn qX6_hasRun_8 rfl ?_
      refine x_aldn qX6_hasRun_9 rfl trivial ?_
      refine x_getIe qX6_hasRun_10 fX6_19 (dd_tA hp).1 h0 ?_
      refine x_icmp_gt (tgt := 30) qX6_hasRun_13 (by omega) (fun h13 => ?_) (fun h13 => ?_)
      · refine x_iconst (v := 0) qX6_hasRun_30 rfl ?_
        refine x_iret qX6_hasRun_31 rfl rfl ?_
        simp only [Int32.le_iff_toInt_le, Int32.lt_iff_toInt_lt, t0i, e1] at *
        first | exact ht (by have := sub (by omega) (by omega); omega) | exact hf (by first | omega | (have := sub (by omega) (by omega); omega))
      · refine x_ildn qX6_hasRun_16 rfl ?_
        refine x_aldn qX6_hasRun_17 rfl trivial ?_
        refine x_getIe qX6_hasRun_18 fX6_19 (dd_tA hp).1 h0 ?_
        refine x_ildn qX6_hasRun_21 rfl ?_
        refine x_isub qX6_hasRun_22 ?_
        refine x_icmp_gt (tgt := 30) qX6_hasRun_23 (by omega) (fun h23 => ?_) (fun h23 => ?_)
        · refine x_iconst (v := 0) qX6_hasRun_30 rfl ?_
          refine x_iret qX6_hasRun_31 rfl rfl ?_
          simp only [Int32.le_iff_toInt_le, Int32.lt_iff_toInt_lt, t0i, e1] at *
          first | exact ht (by have := sub (by omega) (by omega); omega) | exact hf (by first | omega | (have := sub (by omega) (by omega); omega))
        · refine x_iconst (v := 1) qX6_hasRun_26 rfl ?_
          refine x_goto (tgt := 31) qX6_hasRun_27 (by omega) ?_
          refine x_iret qX6_hasRun_31 rfl rfl ?_
          simp only [Int32.le_iff_toInt_le, Int32.lt_iff_toInt_lt, t0i, e1] at *
          first | exact ht (by have := sub (by omega) (by omega); omega) | exact hf (by first | omega | (have := sub (by omega) (by omega); omega))
theorem c_X6_itemAt {n j : Nat} (hp : p < 6) (h0 : I (tA p) 2 = nI n) (hn : n ≤ 60) (hj : j < n) (hQ : Q (some (.long (L (tA p + 1) j))) I L (RR t hr tl) (DD t)) : cm_Ex l g 2 0 0 mX6_itemAt 0 [.ref (tA p), .int (nI j)] [] I L (RR t hr tl) (DD t) Q := by
  have e1 := nI_toInt (n := j) (by omega)
  refine x_aldn qX6_itemAt_0 rfl trivial ?_
  refine x_ildn qX6_itemAt_1 rfl ?_
  refine x_cV1 (d' := 1) qX6_itemAt_2 cX6_22 (dd_tA hp).1 ⟨_, rfl, rfl⟩ rfl rfl (Nat.le_of_ble_eq_true rfl) (Nat.le_of_ble_eq_true rfl) (by decide) ?_
  refine c_X6_has hp h0 hn (fun h2 => ?_) (fun h2 => absurd (by omega) h2)
  refine x_if_eq_f (tgt := 17) qX6_itemAt_5 (by omega) (by decide) ?_
  refine x_aldn qX6_itemAt_8 rfl trivial ?_
  refine x_getR qX6_itemAt_9 fX6_9 (dd_tA hp).1 (rr_tA hp) ?_
  refine x_ildn qX6_itemAt_12 rfl ?_
  refine x_lald qX6_itemAt_13 (dd_tA hp).2 rfl (by omega) (by decide) ?_
  refine x_goto (tgt := 18) qX6_itemAt_14 (by omega) ?_
  refine x_lret qX6_itemAt_18 rfl ?_
  exact hQ
theorem c_X6_cut {k : Nat} {v : Int64} (hp : p < 6) (h0 : I (tA p) 1 = nI k) (hk : k < 5) (hQ : Q (some (.long (cutf k v))) I L (RR t hr tl) (DD t)) : cm_Ex l g 1 0 0 mX6_cut 0 [.ref (tA p), .long v, .float 0] [] I L (RR t hr tl) (DD t) Q := by
  refine x_aldn qX6_cut_0 rfl trivial ?_
  refine x_getIe qX6_cut_1 fX6_15 (dd_tA hp).1 h0 ?_
  rcases (by omega : k = 0 ∨ k = 1 ∨ k = 2 ∨ k = 3 ∨ k = 4) with rfl | rfl | rfl | rfl | rfl
  · refine x_tbl (tgt := 40) (off := 36) qX6_cut_4 0 rfl (by decide) rfl (by omega) ?_
    refine x_lldn qX6_cut_40 rfl ?_
    refine x_l2i qX6_cut_41 ?_
    refine x_i2b qX6_cut_42 ?_
    refine x_i2l qX6_cut_43 ?_
    refine x_lret qX6_cut_44 rfl ?_
    exact hQ
  · refine x_tbl (tgt := 45) (off := 41) qX6_cut_4 1 rfl (by decide) rfl (by omega) ?_
    refine x_lldn qX6_cut_45 rfl ?_
    refine x_l2i qX6_cut_46 ?_
    refine x_i2s qX6_cut_47 ?_
    refine x_i2l qX6_cut_48 ?_
    refine x_lret qX6_cut_49 rfl ?_
    exact hQ
  · refine x_tbl (tgt := 50) (off := 46) qX6_cut_4 2 rfl (by decide) rfl (by omega) ?_
    refine x_lldn qX6_cut_50 rfl ?_
    refine x_l2i qX6_cut_51 ?_
    refine x_i2l qX6_cut_52 ?_
    refine x_lret qX6_cut_53 rfl ?_
    exact hQ
  · refine x_tbl (tgt := 66) (off := 62) qX6_cut_4 3 rfl (by decide) rfl (by omega) ?_
    refine x_lldn qX6_cut_66 rfl ?_
    refine x_lret qX6_cut_67 rfl ?_
    exact hQ
  · refine x_tbl (tgt := 54) (off := 50) qX6_cut_4 4 rfl (by decide) rfl (by omega) ?_
    refine x_lldn qX6_cut_54 rfl ?_
    refine x_lconst (v := 0) qX6_cut_55 rfl ?_
    refine x_lcmp qX6_cut_56 ?_
    refine x_if_eq (tgt := 64) qX6_cut_57 (by omega) (fun h57 => ?_) (fun h57 => ?_)
    · refine x_lconst (v := 0) qX6_cut_64 rfl ?_
      refine x_lret qX6_cut_65 rfl ?_
      first | exact (by rw [show cutf 4 v = 1 by unfold cutf; rw [if_neg (fun e => h57 ((lg_cmp0 v).mpr e))]; rfl] at hQ; exact hQ) | exact (by rw [show cutf 4 v = 0 by unfold cutf; rw [if_pos ((lg_cmp0 v).mp h57)]; rfl] at hQ; exact hQ)
    · refine x_lconst (v := 1) qX6_cut_60 rfl ?_
      refine x_goto (tgt := 65) qX6_cut_61 (by omega) ?_
      refine x_lret qX6_cut_65 rfl ?_
      first | exact (by rw [show cutf 4 v = 1 by unfold cutf; rw [if_neg (fun e => h57 ((lg_cmp0 v).mpr e))]; rfl] at hQ; exact hQ) | exact (by rw [show cutf 4 v = 0 by unfold cutf; rw [if_pos ((lg_cmp0 v).mp h57)]; rfl] at hQ; exact hQ)
theorem c_X6_put {n j k : Nat} {v : Int64} (hp : p < 6) (h0 : I (tA p) 2 = nI n) (hn : n ≤ 60) (hj : j < n) (h1 : I (tA p) 1 = nI k) (hk : k < 5) (hQ : Q none I (cm_u L (tA p + 1) j (cutf k v)) (RR t hr tl) (DD t)) : cm_Ex l g 2 0 0 mX6_put 0 [.ref (tA p), .int (nI j), .long v, .float 0] [] I L (RR t hr tl) (DD t) Q := by
  have e1 := nI_toInt (n := j) (by omega)
  refine x_aldn qX6_put_0 rfl trivial ?_
  refine x_ildn qX6_put_1 rfl ?_
  refine x_cV1 (d' := 1) qX6_put_2 cX6_22 (dd_tA hp).1 ⟨_, rfl, rfl⟩ rfl rfl (Nat.le_of_ble_eq_true rfl) (Nat.le_of_ble_eq_true rfl) (by decide) ?_
  refine c_X6_has hp h0 hn (fun h2 => ?_) (fun h2 => absurd (by omega) h2)
  refine x_if_eq_f (tgt := 19) qX6_put_5 (by omega) (by decide) ?_
  refine x_aldn qX6_put_8 rfl trivial ?_
  refine x_getR qX6_put_9 fX6_9 (dd_tA hp).1 (rr_tA hp) ?_
  refine x_ildn qX6_put_12 rfl ?_
  refine x_aldn qX6_put_13 rfl trivial ?_
  refine x_lldn qX6_put_14 rfl ?_
  refine x_cV1 (d' := 1) qX6_put_15 cX6_26 (dd_tA hp).1 ⟨_, rfl, rfl⟩ rfl rfl (Nat.le_of_ble_eq_true rfl) (Nat.le_of_ble_eq_true rfl) (by decide) ?_
  refine c_X6_cut hp h1 hk ?_
  refine x_last qX6_put_18 (dd_tA hp).2 rfl (by omega) (by decide) ?_
  refine x_vret qX6_put_19 rfl ?_
  exact hQ
end K3
