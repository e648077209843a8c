/-! HouseReader: operands, clauses, the whole text -/
section RDR4
variable {h len p : Nat} {tx tk gl : Nat → Nat} {gv : Nat} {toks : List Nat} {I : cm_I}
def RC (h len : Nat) (tx : Nat → Nat) (cs : List Cls) (p : Nat) (I : cm_I) : Prop := RS h len tx (fun i => lst 0 i cs) (fun i => lst 1 i cs) (lst 3 0 cs) (btk cs) p I
theorem lst_app (w i : Nat) (cs : List Cls) (cl : Cls) : lst w i (cs ++ [cl]) = if cl.1 = w ∧ (w = 3 ∨ cl.2.1 = i) then cl.2.2.1 else lst w i cs := by simp [lst]
theorem btk_app (cs : List Cls) (cl : Cls) : btk (cs ++ [cl]) = btk cs ++ cl.2.2.2 := by simp [btk]
theorem RC_bar {cs : List Cls} {ts : List Nat} (S : RS h len tx (fun i => lst 0 i cs) (fun i => lst 1 i cs) (lst 3 0 cs) (btk cs ++ ts) p I) : RC h len tx (cs ++ [(2, 0, 0, ts)]) p I := by
  unfold RC
  rw [btk_app, lst_app, if_neg (by simp), show (fun i => lst 0 i (cs ++ [(2, 0, 0, ts)])) = fun i => lst 0 i cs from funext fun i => by rw [lst_app, if_neg (by simp)], show (fun i => lst 1 i (cs ++ [(2, 0, 0, ts)])) = fun i => lst 1 i cs from funext fun i => by rw [lst_app, if_neg (by simp)]]
  exact S
theorem RC_take {cs : List Cls} {a b x : Nat} (S : RC h len tx cs p I) (ha : a < 4) (hb : b < 4) : RC h len tx (cs ++ [(0, 4 * a + b, x, [])]) p (cm_u I (hA h + 1) (4 * a + b) (nI x)) ∧ FR h I (cm_u I (hA h + 1) (4 * a + b) (nI x)) := by
  have hge := hA_ge h
  have F : FR h I (cm_u I (hA h + 1) (4 * a + b) (nI x)) := fun c _ hc => cm_u_ne (by omega)
  refine ⟨?_, F⟩
  obtain ⟨s1, s2, s3, s4, s5, q1, q2, q3, q4, q5, q6⟩ := S
  refine ⟨TX_fr s1 F, s2, ?_, ?_, by rw [btk_app]; simpa using s5, ?_, ?_, ?_, ?_, ?_, ?_⟩
  · rw [cm_u_ne (by omega)]; exact s3
  · rw [cm_u_ne (by omega)]; exact s4
  · intro i hi
    show cm_u _ _ _ _ _ i = nI (lst 0 i _)
    rw [cm_uu, lst_app]
    show (if i = _ then _ else _) = _
    by_cases h1 : i = 4 * a + b
    · subst h1
      rw [if_pos rfl, if_pos (by simp)]
    · rw [if_neg h1, if_neg (by simp; omega)]
      exact q1 i hi
  · intro i hi
    show cm_u _ _ _ _ _ i = nI (lst 1 i _)
    rw [cm_u_ne (by omega), lst_app, if_neg (by simp)]
    exact q2 i hi
  · rw [cm_u_ne (by omega), btk_app, List.append_nil]; exact q3
  · rw [cm_u_ne (by omega), btk_app, List.append_nil]; exact q4
  · rw [cm_u_ne (by omega), btk_app, List.append_nil]; exact q5
  · rw [cm_u_ne (by omega), lst_app, if_neg (by simp)]; exact q6
theorem RC_glad {cs : List Cls} {a b x : Nat} (S : RC h len tx cs p I) (ha : a < 4) (hb : b < 4) : RC h len tx (cs ++ [(1, 4 * a + b, x, [])]) p (cm_u I (hA h + 2) (4 * a + b) (nI x)) ∧ FR h I (cm_u I (hA h + 2) (4 * a + b) (nI x)) := by
  have hge := hA_ge h
  have F : FR h I (cm_u I (hA h + 2) (4 * a + b) (nI x)) := fun c _ hc => cm_u_ne (by omega)
  refine ⟨?_, F⟩
  obtain ⟨s1, s2, s3, s4, s5, q1, q2, q3, q4, q5, q6⟩ := S
  refine ⟨TX_fr s1 F, s2, ?_, ?_, by rw [btk_app]; simpa using s5, ?_, ?_, ?_, ?_, ?_, ?_⟩
  · rw [cm_u_ne (by omega)]; exact s3
  · rw [cm_u_ne (by omega)]; exact s4
  · intro i hi
    show cm_u _ _ _ _ _ i = nI (lst 0 i _)
    rw [cm_u_ne (by omega), lst_app, if_neg (by simp)]
    exact q1 i hi
  · intro i hi
    show cm_u _ _ _ _ _ i = nI (lst 1 i _)
    rw [cm_uu, lst_app]
    show (if i = _ then _ else _) = _
    by_cases h1 : i = 4 * a + b
    · subst h1
      rw [if_pos rfl, if_pos (by simp)]
    · rw [if_neg h1, if_neg (by simp; omega)]
      exact q2 i hi
  · rw [cm_u_ne (by omega), btk_app, List.append_nil]; exact q3
  · rw [cm_u_ne (by omega), btk_app, List.append_nil]; exact q4
  · rw [cm_u_ne (by omega), btk_app, List.append_nil]; exact q5
  · rw [cm_u_ne (by omega), lst_app, if_neg (by simp)]; exact q6
theorem FR_h5 {v : Int32} : FR h I (cm_u I (hA h) 5 v) := fun c _ hc => cm_u_ne (by omega)
theorem RC_give {cs : List Cls} {x : Nat} (S : RC h len tx cs p I) : RC h len tx (cs ++ [(3, 0, x, [])]) p (cm_u I (hA h) 5 (nI x)) := by
  have hge := hA_ge h
  obtain ⟨s1, s2, s3, s4, s5, q1, q2, q3, q4, q5, q6⟩ := S
  refine ⟨TX_fr s1 FR_h5, s2, ?_, ?_, by rw [btk_app]; simpa using s5, ?_, ?_, ?_, ?_, ?_, ?_⟩
  · rw [cm_u_ne (by omega)]; exact s3
  · rw [cm_u_ne (by omega)]; exact s4
  · intro i hi
    show cm_u _ _ _ _ _ i = nI (lst 0 i _)
    rw [cm_u_ne (by omega), lst_app, if_neg (by simp)]
    exact q1 i hi
  · intro i hi
    show cm_u _ _ _ _ _ i = nI (lst 1 i _)
    rw [cm_u_ne (by omega), lst_app, if_neg (by simp)]
    exact q2 i hi
  · rw [cm_uu, btk_app, List.append_nil]
    show (if 3 = 5 then _ else _) = _
    rw [if_neg (by decide)]; exact q3
  · rw [cm_u_ne (by omega), btk_app, List.append_nil]; exact q4
  · rw [cm_uu, btk_app, List.append_nil]
    show (if 4 = 5 then _ else _) = _
    rw [if_neg (by decide)]; exact q5
  · rw [cm_uu, lst_app, if_pos (by simp)]
    simp
theorem RF_h5 {v : Int32} (S : RF h len tx p I) : RF h len tx p (cm_u I (hA h) 5 v) := by
  have hge := hA_ge h
  obtain ⟨s1, s2, s3, s4, m, e1, e2⟩ := S
  refine ⟨TX_fr s1 FR_h5, s2, ?_, ?_, m, e1, ?_⟩
  · rw [cm_u_ne (by omega)]; exact s3
  · rw [cm_u_ne (by omega)]; exact s4
  · rw [cm_uu]
    show (if 3 = 5 then _ else _) = _
    rw [if_neg (by decide)]; exact e2
end RDR4
section K15
variable {l : Launch} {g : cm_G} {I : cm_I} {L : cm_L} {n h len p : Nat} {tl : Option Nat} {Q : cm_Post} {tx tk gl : Nat → Nat} {gv : Nat} {toks : List Nat} {s : Nat → Nat × Option (List Nat)} {d m : Nat} {z : Int32}
theorem rd_not (hd : 8 ≤ d) (hh : h < 7) (ok : okS len m s) (A : RdC l g L n h len tl tx tk gl gv d mX2_readSingle [.ref 9, .int z, .float 0] s) (S : RS h len tx tk gl gv toks p I) (hl : toks.length + 1 ≤ p) (hok : ∀ p' ts I', s p = (p', some ts) → RS h len tx tk gl gv (toks ++ (ts ++ [5033])) p' I' → FR h I I' → Q none I' L (RR n (some (hA h)) tl) (DD n)) (hno : ∀ p' I', s p = (p', none) → RF h len tx p' I' → FR h I I' → Q none I' L (RR n (some (hA h)) tl) (DD n)) : cm_Ex l g (d + 1) 0 0 mX2_readNested 0 [.ref 9, .int (nI 1), .int z] [] I L (RR n (some (hA h)) tl) (DD n) Q := by
  refine x_ildn qX2_readNested_0 rfl ?_
  refine x_if_eq_f (tgt := 20) qX2_readNested_1 (by omega) (by decide) ?_
  refine x_aldn qX2_readNested_4 rfl trivial ?_
  refine x_ildn qX2_readNested_5 rfl ?_
  refine x_cV1 (d' := d) qX2_readNested_6 cX2_92 dd_9 ⟨_, rfl, rfl⟩ rfl rfl (Nat.le_of_ble_eq_true rfl) (Nat.le_of_ble_eq_true rfl) (by omega) ?_
  refine A _ _ _ _ S (fun p' ts I3 e S3 F3 => ?_) (fun p' I3 e S3 F3 => ?_)
  · refine x_aldn qX2_readNested_9 rfl trivial ?_
    refine x_getR qX2_readNested_10 fX2_9 dd_9 rfl ?_
    refine x_iconst (v := -1) qX2_readNested_13 rfl ?_
    refine x_cV1 (d' := 1) qX2_readNested_14 cX2_89 (dd_hA hh).1 ⟨_, rfl, rfl⟩ rfl rfl (Nat.le_of_ble_eq_true rfl) (Nat.le_of_ble_eq_true rfl) (by omega) ?_
    have o := ok _ _ _ e
    have h4 := S3.1.2.1
    have h5 := S3.2.1
    refine c_X1_addStep hh S3.2.2.2.2.2.2.2.1 (by simp; omega) ?_
    refine x_goto (tgt := 31) qX2_readNested_17 (by omega) ?_
    refine x_vret qX2_readNested_31 rfl ?_
    have S4 := RS_op (t := 5033) (v := -1) rfl (by omega) S3 (by simp; omega)
    exact hok p' ts _ e (by simpa [List.append_assoc] using S4) (FR_tr F3 FR_op)
  · refine x_aldn qX2_readNested_9 rfl trivial ?_
    refine x_getR qX2_readNested_10 fX2_9 dd_9 rfl ?_
    refine x_iconst (v := -1) qX2_readNested_13 rfl ?_
    refine x_cV1 (d' := 1) qX2_readNested_14 cX2_89 (dd_hA hh).1 ⟨_, rfl, rfl⟩ rfl rfl (Nat.le_of_ble_eq_true rfl) (Nat.le_of_ble_eq_true rfl) (by omega) ?_
    obtain ⟨mm, hm1, hm2⟩ := S3.2.2.2.2
    refine c_X1_addStep hh hm2 hm1 ?_
    refine x_goto (tgt := 31) qX2_readNested_17 (by omega) ?_
    refine x_vret qX2_readNested_31 rfl ?_
    exact hno p' _ e (RF_op (v := -1) S3 hm1) (FR_tr F3 FR_op)
theorem rd_par (hd : 8 ≤ d) (A : RdC l g L n h len tl tx tk gl gv d mX2_readEither [.ref 9, .int z, .float 0] s) : RdC l g L n h len tl tx tk gl gv (d + 1) mX2_readNested [.ref 9, .int (nI 0), .int z] (fun q => pbd (s q) fun p' t => pbd (pSg 41 (pk len tx) p') fun p'' _ => (p'', some t)) := by
  intro I p toks Q S hok hno
  refine x_ildn qX2_readNested_0 rfl ?_
  refine x_if_eq_t (tgt := 20) qX2_readNested_1 (by omega) (by decide) ?_
  refine x_aldn qX2_readNested_20 rfl trivial ?_
  refine x_ildn qX2_readNested_21 rfl ?_
  refine x_cV1 (d' := d) qX2_readNested_22 cX2_54 dd_9 ⟨_, rfl, rfl⟩ rfl rfl (Nat.le_of_ble_eq_true rfl) (Nat.le_of_ble_eq_true rfl) (by omega) ?_
  refine A _ _ _ _ S (fun p' ts I3 e S3 F3 => ?_) (fun p' I3 e S3 F3 => ?_)
  · refine x_aldn qX2_readNested_25 rfl trivial ?_
    refine x_bipush (v := nI 41) qX2_readNested_26 rfl ?_
    refine x_cV1 (d' := 2) qX2_readNested_28 cX2_40 dd_9 ⟨_, rfl, rfl⟩ rfl rfl (Nat.le_of_ble_eq_true rfl) (Nat.le_of_ble_eq_true rfl) (by omega) ?_
    refine c_X2_readSign (by omega) S3 (fun I4 e2 S4 F4 => ?_) (fun I4 e2 S4 F4 => ?_)
    · refine x_vret qX2_readNested_31 rfl ?_
      exact hok _ ts _ (by show pbd (s p) _ = _; rw [pbd_eq e, pbd_eq e2]) S4 (FR_tr F3 F4)
    · refine x_vret qX2_readNested_31 rfl ?_
      exact hno _ _ (by show pbd (s p) _ = _; rw [pbd_eq e, pbd_no e2]) S4 (FR_tr F3 F4)
  · refine x_aldn qX2_readNested_25 rfl trivial ?_
    refine x_bipush (v := nI 41) qX2_readNested_26 rfl ?_
    refine x_cV1 (d' := 2) qX2_readNested_28 cX2_40 dd_9 ⟨_, rfl, rfl⟩ rfl rfl (Nat.le_of_ble_eq_true rfl) (Nat.le_of_ble_eq_true rfl) (by omega) ?_
    refine c_X2_readSign0 S3 (fun I4 S4 F4 => ?_)
    refine x_vret qX2_readNested_31 rfl ?_
    exact hno _ _ (by show pbd (s p) _ = _; rw [pbd_no e]) S4 (FR_tr F3 F4)
theorem c_X2_readSingle (hh : h < 7) : ∀ k, k ≤ 4 → RdC l g L n h len tl tx tk gl gv (8 + 4 * k) mX2_readSingle [.ref 9, .int (nI (4 - k)), .float 0] (pS (pk len tx) k) := by
  intro k
  induction k with
  | zero =>
    intro hk I p toks Q S hok hno
    have hl := S.1.2.1
    have hp := S.2.1
    have b1 := bvI_eq _ (pkc_le S.1 p) 33 (by omega)
    have b2 := bvI_eq _ (pkc_le S.1 p) 40 (by omega)
    have e0 : pS (pk len tx) 0 p = if pk len tx p = 33 ∨ pk len tx p = 40 then (p, none) else pbd (pTest (pk len tx) p) fun p' t => (p', some [t]) := rfl
    have rest : pk len tx p = 33 ∨ pk len tx p = 40 → cm_Ex l g (8 + 4 * 0) 0 0 mX2_readSingle 29 [.ref 9, .int (nI (4 - 0)), .int (bvI (pk len tx p))] [] I L (RR n (some (hA h)) tl) (DD n) Q := by
      intro c1
      rw [if_pos c1] at e0
      refine x_aldn qX2_readSingle_29 rfl trivial ?_
      refine x_aldn qX2_readSingle_30 rfl trivial ?_
      refine x_getZe qX2_readSingle_31 fX2_19 dd_9 S.2.2.2.1 ?_
      refine x_if_eq_f (tgt := 46) qX2_readSingle_34 (by omega) (by decide) ?_
      refine x_ildn qX2_readSingle_37 rfl ?_
      refine x_iconst (v := nI 4) qX2_readSingle_38 rfl ?_
      refine x_icmp_ge_nt (tgt := 46) qX2_readSingle_39 (by omega) (by omega) (by omega) (by omega) ?_
      refine x_iconst (v := nI 0) qX2_readSingle_46 rfl ?_
      refine x_putZ qX2_readSingle_47 fX2_19 (Or.inl rfl) dd_9 (by decide) ?_
      refine x_aldn qX2_readSingle_50 rfl trivial ?_
      refine x_getZe qX2_readSingle_51 fX2_19 dd_9 (show cm_u I 9 3 (nI 0) 9 3 = 0 from rfl) ?_
      refine x_if_eq_t (tgt := 85) qX2_readSingle_54 (by omega) (by decide) ?_
      refine x_vret qX2_readSingle_85 rfl ?_
      exact hno _ _ e0 (RS_no S) FR_9
    by_cases c1 : pk len tx p = 33
    · refine x_aldn qX2_readSingle_0 rfl trivial ?_
      refine x_getR qX2_readSingle_1 fX2_23 dd_9 rfl ?_
      refine x_aldn qX2_readSingle_4 rfl trivial ?_
      refine x_getIe qX2_readSingle_5 fX2_15 dd_9 S.2.2.1 ?_
      refine x_cV1 (d' := 1) qX2_readSingle_8 cX2_44 dd_7 ⟨_, rfl, rfl⟩ rfl rfl (Nat.le_of_ble_eq_true rfl) (Nat.le_of_ble_eq_true rfl) (by omega) ?_
      refine c_bA S.1 (by omega) ?_
      refine x_ist2 qX2_readSingle_11 (by decide) rfl ?_
      refine x_ildn qX2_readSingle_12 rfl ?_
      refine x_bipush (v := nI 33) qX2_readSingle_13 rfl ?_
      refine x_icmp_eq_t (tgt := 29) qX2_readSingle_15 (by omega) (b1.mpr c1) ?_
      exact rest (Or.inl c1)
    · by_cases c2 : pk len tx p = 40
      · refine x_aldn qX2_readSingle_0 rfl trivial ?_
        refine x_getR qX2_readSingle_1 fX2_23 dd_9 rfl ?_
        refine x_aldn qX2_readSingle_4 rfl trivial ?_
        refine x_getIe qX2_readSingle_5 fX2_15 dd_9 S.2.2.1 ?_
        refine x_cV1 (d' := 1) qX2_readSingle_8 cX2_44 dd_7 ⟨_, rfl, rfl⟩ rfl rfl (Nat.le_of_ble_eq_true rfl) (Nat.le_of_ble_eq_true rfl) (by omega) ?_
        refine c_bA S.1 (by omega) ?_
        refine x_ist2 qX2_readSingle_11 (by decide) rfl ?_
        refine x_ildn qX2_readSingle_12 rfl ?_
        refine x_bipush (v := nI 33) qX2_readSingle_13 rfl ?_
        refine x_icmp_eq_f (tgt := 29) qX2_readSingle_15 (by omega) (fun e => c1 (b1.mp e)) ?_
        refine x_ildn qX2_readSingle_18 rfl ?_
        refine x_bipush (v := nI 40) qX2_readSingle_19 rfl ?_
        refine x_icmp_eq_t (tgt := 29) qX2_readSingle_21 (by omega) (b2.mpr c2) ?_
        exact rest (Or.inr c2)
      · rw [if_neg (by omega)] at e0
        refine x_aldn qX2_readSingle_0 rfl trivial ?_
        refine x_getR qX2_readSingle_1 fX2_23 dd_9 rfl ?_
        refine x_aldn qX2_readSingle_4 rfl trivial ?_
        refine x_getIe qX2_readSingle_5 fX2_15 dd_9 S.2.2.1 ?_
        refine x_cV1 (d' := 1) qX2_readSingle_8 cX2_44 dd_7 ⟨_, rfl, rfl⟩ rfl rfl (Nat.le_of_ble_eq_true rfl) (Nat.le_of_ble_eq_true rfl) (by omega) ?_
        refine c_bA S.1 (by omega) ?_
        refine x_ist2 qX2_readSingle_11 (by decide) rfl ?_
        refine x_ildn qX2_readSingle_12 rfl ?_
        refine x_bipush (v := nI 33) qX2_readSingle_13 rfl ?_
        refine x_icmp_eq_f (tgt := 29) qX2_readSingle_15 (by omega) (fun e => c1 (b1.mp e)) ?_
        refine x_ildn qX2_readSingle_18 rfl ?_
        refine x_bipush (v := nI 40) qX2_readSingle_19 rfl ?_
        refine x_icmp_eq_f (tgt := 29) qX2_readSingle_21 (by omega) (fun e => c2 (b2.mp e)) ?_
        refine x_aldn qX2_readSingle_24 rfl trivial ?_
        refine x_cV0 (d' := 7) qX2_readSingle_25 cX2_95 dd_9 ⟨_, rfl, rfl⟩ rfl rfl (Nat.le_of_ble_eq_true rfl) (Nat.le_of_ble_eq_true rfl) (by omega) ?_
        refine c_X2_readTest hh S (fun p' x I2 e S2 F2 => ?_) (fun p' I2 e S2 F2 => ?_)
        · refine x_vret qX2_readSingle_28 rfl ?_
          first | exact hok p' [x] I2 (by rw [e0, pbd_eq e]) S2 F2 | exact hno p' I2 (by rw [e0, pbd_no e]) S2 F2
        · refine x_vret qX2_readSingle_28 rfl ?_
          first | exact hok p' [x] I2 (by rw [e0, pbd_eq e]) S2 F2 | exact hno p' I2 (by rw [e0, pbd_no e]) S2 F2
  | succ k ih =>
    intro hk I p toks Q S hok hno
    have hl := S.1.2.1
    have hp := S.2.1
    have hlen := S.2.2.2.2.1
    have b1 := bvI_eq _ (pkc_le S.1 p) 33 (by omega)
    have b2 := bvI_eq _ (pkc_le S.1 p) 40 (by omega)
    have A := ih (by omega)
    have okk := pS_some (len := len) (tx := tx) k
    have B := rd_either (by omega) hh okk (rd_both (by omega) hh okk A)
    have e0 : pS (pk len tx) (k + 1) p = if pk len tx p = 33 then pbd (pS (pk len tx) k (p + 1)) fun p' t => (p', some (t ++ [5033])) else if pk len tx p = 40 then pbd (pEf (pS (pk len tx) k) (pk len tx) (p + 1)) fun p' t => pbd (pSg 41 (pk len tx) p') fun p'' _ => (p'', some t) else pbd (pTest (pk len tx) p) fun p' t => (p', some [t]) := rfl
    by_cases c1 : pk len tx p = 33
    · rw [if_pos c1] at e0
      have S1 := RS_r1 S
      have S2 := RS_mv S1 (pkc_lt c1 (by omega))
      refine x_aldn qX2_readSingle_0 rfl trivial ?_
      refine x_getR qX2_readSingle_1 fX2_23 dd_9 rfl ?_
      refine x_aldn qX2_readSingle_4 rfl trivial ?_
      refine x_getIe qX2_readSingle_5 fX2_15 dd_9 S.2.2.1 ?_
      refine x_cV1 (d' := 1) qX2_readSingle_8 cX2_44 dd_7 ⟨_, rfl, rfl⟩ rfl rfl (Nat.le_of_ble_eq_true rfl) (Nat.le_of_ble_eq_true rfl) (by omega) ?_
      refine c_bA S.1 (by omega) ?_
      refine x_ist2 qX2_readSingle_11 (by decide) rfl ?_
      refine x_ildn qX2_readSingle_12 rfl ?_
      refine x_bipush (v := nI 33) qX2_readSingle_13 rfl ?_
      refine x_icmp_eq_t (tgt := 29) qX2_readSingle_15 (by omega) (b1.mpr c1) ?_
      refine x_aldn qX2_readSingle_29 rfl trivial ?_
      refine x_aldn qX2_readSingle_30 rfl trivial ?_
      refine x_getZe qX2_readSingle_31 fX2_19 dd_9 S.2.2.2.1 ?_
      refine x_if_eq_f (tgt := 46) qX2_readSingle_34 (by omega) (by decide) ?_
      refine x_ildn qX2_readSingle_37 rfl ?_
      refine x_iconst (v := nI 4) qX2_readSingle_38 rfl ?_
      refine x_icmp_ge_nf (tgt := 46) qX2_readSingle_39 (by omega) (by omega) (by omega) (by omega) ?_
      refine x_iconst (v := nI 1) qX2_readSingle_42 rfl ?_
      refine x_goto (tgt := 47) qX2_readSingle_43 (by omega) ?_
      refine x_putZ qX2_readSingle_47 fX2_19 (Or.inl rfl) dd_9 (by decide) ?_
      refine x_aldn qX2_readSingle_50 rfl trivial ?_
      refine x_getZe qX2_readSingle_51 fX2_19 dd_9 (show cm_u I 9 3 (nI 1) 9 3 = 1 from rfl) ?_
      refine x_if_eq_f (tgt := 85) qX2_readSingle_54 (by omega) (by decide) ?_
      refine x_aldn qX2_readSingle_57 rfl trivial ?_
      refine x_dup qX2_readSingle_58 rfl ?_
      refine x_getIe qX2_readSingle_59 fX2_15 dd_9 S1.2.2.1 ?_
      refine x_iconst (v := nI 1) qX2_readSingle_62 rfl ?_
      refine x_iadd_n qX2_readSingle_63 ?_
      refine x_putI qX2_readSingle_64 fX2_15 (Or.inl rfl) dd_9 ?_
      refine x_aldn qX2_readSingle_67 rfl trivial ?_
      refine x_ildn qX2_readSingle_68 rfl ?_
      refine x_bipush (v := nI 33) qX2_readSingle_69 rfl ?_
      refine x_icmp_ne_f (tgt := 78) qX2_readSingle_71 (by omega) (b1.mpr c1) ?_
      refine x_iconst (v := nI 1) qX2_readSingle_74 rfl ?_
      refine x_goto (tgt := 79) qX2_readSingle_75 (by omega) ?_
      refine x_ildn qX2_readSingle_79 rfl ?_
      refine x_iconst (v := nI 1) qX2_readSingle_80 rfl ?_
      refine x_iadd_n qX2_readSingle_81 ?_
      rw [show 4 - (k + 1) + 1 = 4 - k by omega]
      refine x_cV2 (d' := 8 + 4 * k + 3) qX2_readSingle_82 cX2_98 dd_9 ⟨_, rfl, rfl⟩ rfl rfl (Nat.le_of_ble_eq_true rfl) (Nat.le_of_ble_eq_true rfl) (by omega) ?_
      refine cm_up (rd_not (by omega) hh okk A S2 (by omega) (fun p' ts I3 e S3 F3 => ?_) (fun p' I3 e S3 F3 => ?_)) (by omega) (by omega) (by omega)
      · refine x_vret qX2_readSingle_85 rfl ?_
        exact hok _ _ _ (by rw [e0, pbd_eq e]) S3 (FR_tr FR_9 (FR_tr FR_9 F3))
      · refine x_vret qX2_readSingle_85 rfl ?_
        exact hno _ _ (by rw [e0, pbd_no e]) S3 (FR_tr FR_9 (FR_tr FR_9 F3))
    · rw [if_neg c1] at e0
      by_cases c2 : pk len tx p = 40
      · rw [if_pos c2] at e0
        have S1 := RS_r1 S
        have S2 := RS_mv S1 (pkc_lt c2 (by omega))
        refine x_aldn qX2_readSingle_0 rfl trivial ?_
        refine x_getR qX2_readSingle_1 fX2_23 dd_9 rfl ?_
        refine x_aldn qX2_readSingle_4 rfl trivial ?_
        refine x_getIe qX2_readSingle_5 fX2_15 dd_9 S.2.2.1 ?_
        refine x_cV1 (d' := 1) qX2_readSingle_8 cX2_44 dd_7 ⟨_, rfl, rfl⟩ rfl rfl (Nat.le_of_ble_eq_true rfl) (Nat.le_of_ble_eq_true rfl) (by omega) ?_
        refine c_bA S.1 (by omega) ?_
        refine x_ist2 qX2_readSingle_11 (by decide) rfl ?_
        refine x_ildn qX2_readSingle_12 rfl ?_
        refine x_bipush (v := nI 33) qX2_readSingle_13 rfl ?_
        refine x_icmp_eq_f (tgt := 29) qX2_readSingle_15 (by omega) (fun e => c1 (b1.mp e)) ?_
        refine x_ildn qX2_readSingle_18 rfl ?_
        refine x_bipush (v := nI 40) qX2_readSingle_19 rfl ?_
        refine x_icmp_eq_t (tgt := 29) qX2_readSingle_21 (by omega) (b2.mpr c2) ?_
        refine x_aldn qX2_readSingle_29 rfl trivial ?_
        refine x_aldn qX2_readSingle_30 rfl trivial ?_
        refine x_getZe qX2_readSingle_31 fX2_19 dd_9 S.2.2.2.1 ?_
        refine x_if_eq_f (tgt := 46) qX2_readSingle_34 (by omega) (by decide) ?_
        refine x_ildn qX2_readSingle_37 rfl ?_
        refine x_iconst (v := nI 4) qX2_readSingle_38 rfl ?_
        refine x_icmp_ge_nf (tgt := 46) qX2_readSingle_39 (by omega) (by omega) (by omega) (by omega) ?_
        refine x_iconst (v := nI 1) qX2_readSingle_42 rfl ?_
        refine x_goto (tgt := 47) qX2_readSingle_43 (by omega) ?_
        refine x_putZ qX2_readSingle_47 fX2_19 (Or.inl rfl) dd_9 (by decide) ?_
        refine x_aldn qX2_readSingle_50 rfl trivial ?_
        refine x_getZe qX2_readSingle_51 fX2_19 dd_9 (show cm_u I 9 3 (nI 1) 9 3 = 1 from rfl) ?_
        refine x_if_eq_f (tgt := 85) qX2_readSingle_54 (by omega) (by decide) ?_
        refine x_aldn qX2_readSingle_57 rfl trivial ?_
        refine x_dup qX2_readSingle_58 rfl ?_
        refine x_getIe qX2_readSingle_59 fX2_15 dd_9 S1.2.2.1 ?_
        refine x_iconst (v := nI 1) qX2_readSingle_62 rfl ?_
        refine x_iadd_n qX2_readSingle_63 ?_
        refine x_putI qX2_readSingle_64 fX2_15 (Or.inl rfl) dd_9 ?_
        refine x_aldn qX2_readSingle_67 rfl trivial ?_
        refine x_ildn qX2_readSingle_68 rfl ?_
        refine x_bipush (v := nI 33) qX2_readSingle_69 rfl ?_
        refine x_icmp_ne_t (tgt := 78) qX2_readSingle_71 (by omega) (fun e => c1 (b1.mp e)) ?_
        refine x_iconst (v := nI 0) qX2_readSingle_78 rfl ?_
        refine x_ildn qX2_readSingle_79 rfl ?_
        refine x_iconst (v := nI 1) qX2_readSingle_80 rfl ?_
        refine x_iadd_n qX2_readSingle_81 ?_
        rw [show 4 - (k + 1) + 1 = 4 - k by omega]
        refine x_cV2 (d' := 8 + 4 * k + 3) qX2_readSingle_82 cX2_98 dd_9 ⟨_, rfl, rfl⟩ rfl rfl (Nat.le_of_ble_eq_true rfl) (Nat.le_of_ble_eq_true rfl) (by omega) ?_
        refine rd_par (by omega) B _ _ _ _ S2 (fun p' ts I3 e S3 F3 => ?_) (fun p' I3 e S3 F3 => ?_)
        · refine x_vret qX2_readSingle_85 rfl ?_
          exact hok _ _ _ (e0.trans e) S3 (FR_tr FR_9 (FR_tr FR_9 F3))
        · refine x_vret qX2_readSingle_85 rfl ?_
          exact hno _ _ (e0.trans e) S3 (FR_tr FR_9 (FR_tr FR_9 F3))
      · rw [if_neg c2] at e0
        refine x_aldn qX2_readSingle_0 rfl trivial ?_
        refine x_getR qX2_readSingle_1 fX2_23 dd_9 rfl ?_
        refine x_aldn qX2_readSingle_4 rfl trivial ?_
        refine x_getIe qX2_readSingle_5 fX2_15 dd_9 S.2.2.1 ?_
        refine x_cV1 (d' := 1) qX2_readSingle_8 cX2_44 dd_7 ⟨_, rfl, rfl⟩ rfl rfl (Nat.le_of_ble_eq_true rfl) (Nat.le_of_ble_eq_true rfl) (by omega) ?_
        refine c_bA S.1 (by omega) ?_
        refine x_ist2 qX2_readSingle_11 (by decide) rfl ?_
        refine x_ildn qX2_readSingle_12 rfl ?_
        refine x_bipush (v := nI 33) qX2_readSingle_13 rfl ?_
        refine x_icmp_eq_f (tgt := 29) qX2_readSingle_15 (by omega) (fun e => c1 (b1.mp e)) ?_
        refine x_ildn qX2_readSingle_18 rfl ?_
        refine x_bipush (v := nI 40) qX2_readSingle_19 rfl ?_
        refine x_icmp_eq_f (tgt := 29) qX2_readSingle_21 (by omega) (fun e => c2 (b2.mp e)) ?_
        refine x_aldn qX2_readSingle_24 rfl trivial ?_
        refine x_cV0 (d' := 7) qX2_readSingle_25 cX2_95 dd_9 ⟨_, rfl, rfl⟩ rfl rfl (Nat.le_of_ble_eq_true rfl) (Nat.le_of_ble_eq_true rfl) (by omega) ?_
        refine c_X2_readTest hh S (fun p' x I2 e S2 F2 => ?_) (fun p' I2 e S2 F2 => ?_)
        · refine x_vret qX2_readSingle_28 rfl ?_
          first | exact hok p' [x] I2 (by rw [e0, pbd_eq e]) S2 F2 | exact hno p' I2 (by rw [e0, pbd_no e]) S2 F2
        · refine x_vret qX2_readSingle_28 rfl ?_
          first | exact hok p' [x] I2 (by rw [e0, pbd_eq e]) S2 F2 | exact hno p' I2 (by rw [e0, pbd_no e]) S2 F2
theorem rd_bar (hh : h < 7) : RdC l g L n h len tl tx tk gl gv 26 mX2_readEither [.ref 9, .int (nI 0), .float 0] (pEf (pS (pk len tx) 4) (pk len tx)) :=
  rd_either (by omega) hh (pS_some 4) (rd_both (by omega) hh (pS_some 4) (c_X2_readSingle hh 4 (by omega)))
end K15
