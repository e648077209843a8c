/-! HouseReader: expressions -/
def RdC (l : Launch) (g : cm_G) (L : cm_L) (n h len : Nat) (tl : Option Nat) (tx tk gl : Nat → Nat) (gv : Nat) (d : Nat) (y : cm_M) (ls : List Value) (s : Nat → Nat × Option (List Nat)) : Prop :=
  ∀ (I : cm_I) (p : Nat) (toks : List Nat) (Q : cm_Post), RS h len tx tk gl gv toks p I →
    (∀ p' ts I', s p = (p', some ts) → RS h len tx tk gl gv (toks ++ ts) p' I' → FR h I I' → Q none I' L (RR n (some (hA h)) tl) (DD n)) →
    (∀ p' I', s p = (p', none) → RF h len tx p' I' → FR h I I' → Q none I' L (RR n (some (hA h)) tl) (DD n)) →
    cm_Ex l g d 0 0 y 0 ls [] I L (RR n (some (hA h)) tl) (DD n) Q
section RDR3
variable {h len p : Nat} {tx tk gl : Nat → Nat} {gv : Nat} {toks : List Nat} {I : cm_I}
theorem RS_op {t : Nat} {v : Int32} (hv : v = ctk t) (ht : ¬ t < 5000) (S : RS h len tx tk gl gv toks p I) (hl : toks.length + 1 ≤ p) : RS h len tx tk gl gv (toks ++ [t]) p (if toks.length < 100 then cm_u (cm_u I (hA h + 3) toks.length v) (hA h) 3 (nI (toks.length + 1)) else I) := by
  have := hA_ge h
  have hl2 := S.1.2.1
  have hp := S.2.1
  rw [if_pos (by omega), hv]
  refine ⟨TX_fr S.1 FR_hs, hp, ?_, ?_, by simp; omega, HC_op ht S.2.2.2.2.2⟩
  · rw [cm_u_ne (by omega), cm_u_ne (by omega)]; exact S.2.2.1
  · rw [cm_u_ne (by omega), cm_u_ne (by omega)]; exact S.2.2.2.1
theorem FR_op {k : Nat} {v w : Int32} : FR h I (if k < 100 then cm_u (cm_u I (hA h + 3) k v) (hA h) 3 w else I) := by
  split
  · exact FR_hs
  · exact FR_rfl
theorem RF_op {m : Nat} {v : Int32} (S : RF h len tx p I) (hm : m ≤ 100) : RF h len tx p (if m < 100 then cm_u (cm_u I (hA h + 3) m v) (hA h) 3 (nI (m + 1)) else I) := by
  have := hA_ge h
  by_cases h1 : m < 100
  · rw [if_pos h1]
    refine ⟨TX_fr S.1 FR_hs, S.2.1, ?_, ?_, m + 1, by omega, by rw [cm_uu]; simp⟩
    · rw [cm_u_ne (by omega), cm_u_ne (by omega)]; exact S.2.2.1
    · rw [cm_u_ne (by omega), cm_u_ne (by omega)]; exact S.2.2.2.1
  · rw [if_neg h1]; exact S
end RDR3
section K14
variable {l : Launch} {g : cm_G} {I : cm_I} {L : cm_L} {n h len p : Nat} {tl : Option Nat} {Q : cm_Post} {tx tk gl : Nat → Nat} {gv : Nat} {toks : List Nat} {s : Nat → Nat × Option (List Nat)} {d m : Nat} {z : Int32}
theorem c_X2_readSingle0 (S : RF h len tx p I) (hno : ∀ I', RF h len tx p I' → FR h I I' → Q none I' L (RR n (some (hA h)) tl) (DD n)) : cm_Ex l g 8 0 0 mX2_readSingle 0 [.ref 9, .int z, .float 0] [] I L (RR n (some (hA h)) tl) (DD n) Q := by
  have hl := S.1.2.1
  have hp := S.2.1
  have b1 := bvI_eq _ (pkc_le S.1 p) 33 (by omega)
  have b2 := bvI_eq _ (pkc_le S.1 p) 40 (by omega)
  have rest : cm_Ex l g 8 0 0 mX2_readSingle 29 [.ref 9, .int z, .int (bvI (pk len tx p))] [] I L (RR n (some (hA h)) tl) (DD n) Q := by
    refine x_aldn qX2_readSingle_29 rfl trivial ?_
    refine x_aldn qX2_readSingle_30 rfl trivial ?_
    refine x_getZe qX2_readSingle_31 fX2_19 dd_9 S.2.2.2.1 ?_
    refine x_if_eq_t (tgt := 46) qX2_readSingle_34 (by omega) (by decide) ?_
    refine x_iconst (v := nI 0) qX2_readSingle_46 rfl ?_
    refine x_putZ qX2_readSingle_47 fX2_19 (Or.inl rfl) dd_9 (by decide) ?_
    refine x_aldn qX2_readSingle_50 rfl trivial ?_
    refine x_getZe qX2_readSingle_51 fX2_19 dd_9 (show cm_u I 9 3 (nI 0) 9 3 = 0 from rfl) ?_
    refine x_if_eq_t (tgt := 85) qX2_readSingle_54 (by omega) (by decide) ?_
    refine x_vret qX2_readSingle_85 rfl ?_
    exact hno _ (RF_no S) FR_9
  by_cases c1 : pk len tx p = 33
  · refine x_aldn qX2_readSingle_0 rfl trivial ?_
    refine x_getR qX2_readSingle_1 fX2_23 dd_9 rfl ?_
    refine x_aldn qX2_readSingle_4 rfl trivial ?_
    refine x_getIe qX2_readSingle_5 fX2_15 dd_9 S.2.2.1 ?_
    refine x_cV1 (d' := 1) qX2_readSingle_8 cX2_44 dd_7 ⟨_, rfl, rfl⟩ rfl rfl (Nat.le_of_ble_eq_true rfl) (Nat.le_of_ble_eq_true rfl) (by decide) ?_
    refine c_bA S.1 (by omega) ?_
    refine x_ist2 qX2_readSingle_11 (by decide) rfl ?_
    refine x_ildn qX2_readSingle_12 rfl ?_
    refine x_bipush (v := nI 33) qX2_readSingle_13 rfl ?_
    refine x_icmp_eq_t (tgt := 29) qX2_readSingle_15 (by omega) (b1.mpr c1) ?_
    exact rest
  · by_cases c2 : pk len tx p = 40
    · refine x_aldn qX2_readSingle_0 rfl trivial ?_
      refine x_getR qX2_readSingle_1 fX2_23 dd_9 rfl ?_
      refine x_aldn qX2_readSingle_4 rfl trivial ?_
      refine x_getIe qX2_readSingle_5 fX2_15 dd_9 S.2.2.1 ?_
      refine x_cV1 (d' := 1) qX2_readSingle_8 cX2_44 dd_7 ⟨_, rfl, rfl⟩ rfl rfl (Nat.le_of_ble_eq_true rfl) (Nat.le_of_ble_eq_true rfl) (by decide) ?_
      refine c_bA S.1 (by omega) ?_
      refine x_ist2 qX2_readSingle_11 (by decide) rfl ?_
      refine x_ildn qX2_readSingle_12 rfl ?_
      refine x_bipush (v := nI 33) qX2_readSingle_13 rfl ?_
      refine x_icmp_eq_f (tgt := 29) qX2_readSingle_15 (by omega) (fun e => c1 (b1.mp e)) ?_
      refine x_ildn qX2_readSingle_18 rfl ?_
      refine x_bipush (v := nI 40) qX2_readSingle_19 rfl ?_
      refine x_icmp_eq_t (tgt := 29) qX2_readSingle_21 (by omega) (b2.mpr c2) ?_
      exact rest
    · refine x_aldn qX2_readSingle_0 rfl trivial ?_
      refine x_getR qX2_readSingle_1 fX2_23 dd_9 rfl ?_
      refine x_aldn qX2_readSingle_4 rfl trivial ?_
      refine x_getIe qX2_readSingle_5 fX2_15 dd_9 S.2.2.1 ?_
      refine x_cV1 (d' := 1) qX2_readSingle_8 cX2_44 dd_7 ⟨_, rfl, rfl⟩ rfl rfl (Nat.le_of_ble_eq_true rfl) (Nat.le_of_ble_eq_true rfl) (by decide) ?_
      refine c_bA S.1 (by omega) ?_
      refine x_ist2 qX2_readSingle_11 (by decide) rfl ?_
      refine x_ildn qX2_readSingle_12 rfl ?_
      refine x_bipush (v := nI 33) qX2_readSingle_13 rfl ?_
      refine x_icmp_eq_f (tgt := 29) qX2_readSingle_15 (by omega) (fun e => c1 (b1.mp e)) ?_
      refine x_ildn qX2_readSingle_18 rfl ?_
      refine x_bipush (v := nI 40) qX2_readSingle_19 rfl ?_
      refine x_icmp_eq_f (tgt := 29) qX2_readSingle_21 (by omega) (fun e => c2 (b2.mp e)) ?_
      refine x_aldn qX2_readSingle_24 rfl trivial ?_
      refine x_cV0 (d' := 7) qX2_readSingle_25 cX2_95 dd_9 ⟨_, rfl, rfl⟩ rfl rfl (Nat.le_of_ble_eq_true rfl) (Nat.le_of_ble_eq_true rfl) (by decide) ?_
      refine c_X2_readTest0 S (fun I2 S2 F2 => ?_)
      refine x_vret qX2_readSingle_28 rfl ?_
      exact hno _ S2 F2
theorem c_X2_readBothF {i : Nat} (hi : i ≤ 100) (hd : 8 ≤ d) (S : RF h len tx p I) (hno : Q none I L (RR n (some (hA h)) tl) (DD n)) : cm_Ex l g d 0 0 mX2_readBoth 7 [.ref 9, .int z, .int (nI i)] [] I L (RR n (some (hA h)) tl) (DD n) Q := by
  by_cases h1 : i < 100
  · refine x_ildn qX2_readBoth_7 rfl ?_
    refine x_bipush (v := nI 100) qX2_readBoth_8 rfl ?_
    refine x_icmp_ge_nf (tgt := 66) qX2_readBoth_10 (by omega) (by omega) (by omega) (by omega) ?_
    refine x_aldn qX2_readBoth_13 rfl trivial ?_
    refine x_getZe qX2_readBoth_14 fX2_19 dd_9 S.2.2.2.1 ?_
    refine x_if_eq_t (tgt := 66) qX2_readBoth_17 (by omega) (by decide) ?_
    refine x_vret qX2_readBoth_66 rfl ?_
    exact hno
  · refine x_ildn qX2_readBoth_7 rfl ?_
    refine x_bipush (v := nI 100) qX2_readBoth_8 rfl ?_
    refine x_icmp_ge_nt (tgt := 66) qX2_readBoth_10 (by omega) (by omega) (by omega) (by omega) ?_
    refine x_vret qX2_readBoth_66 rfl ?_
    exact hno
theorem c_X2_readBoth0 (S : RF h len tx p I) (hno : ∀ I', RF h len tx p I' → FR h I I' → Q none I' L (RR n (some (hA h)) tl) (DD n)) : cm_Ex l g 9 0 0 mX2_readBoth 0 [.ref 9, .int z, .float 0] [] I L (RR n (some (hA h)) tl) (DD n) Q := by
  refine x_aldn qX2_readBoth_0 rfl trivial ?_
  refine x_ildn qX2_readBoth_1 rfl ?_
  refine x_cV1 (d' := 8) qX2_readBoth_2 cX2_92 dd_9 ⟨_, rfl, rfl⟩ rfl rfl (Nat.le_of_ble_eq_true rfl) (Nat.le_of_ble_eq_true rfl) (by omega) ?_
  refine c_X2_readSingle0 S (fun I2 S2 F2 => ?_)
  refine x_iconst (v := nI 0) qX2_readBoth_5 rfl ?_
  refine x_ist2 qX2_readBoth_6 (by decide) rfl ?_
  exact c_X2_readBothF (by omega) (by omega) S2 (hno _ S2 F2)
theorem rd_both (hd : 8 ≤ d) (hh : h < 7) (ok : okS len m s) (A : RdC l g L n h len tl tx tk gl gv d mX2_readSingle [.ref 9, .int z, .float 0] s) : RdC l g L n h len tl tx tk gl gv (d + 1) mX2_readBoth [.ref 9, .int z, .float 0] (pBf s (pk len tx)) := by
  intro I p toks Q S hok hno
  have loop : ∀ f i q a I1, i + f = 100 → RS h len tx tk gl gv (toks ++ a) q I1 → FR h I I1 → (∀ p' ts I', pBl s (pk len tx) f q a = (p', some ts) → RS h len tx tk gl gv (toks ++ ts) p' I' → FR h I I' → Q none I' L (RR n (some (hA h)) tl) (DD n)) → (∀ p' I', pBl s (pk len tx) f q a = (p', none) → RF h len tx p' I' → FR h I I' → Q none I' L (RR n (some (hA h)) tl) (DD n)) → cm_Ex l g (d + 1) 0 0 mX2_readBoth 7 [.ref 9, .int z, .int (nI i)] [] I1 L (RR n (some (hA h)) tl) (DD n) Q := by
    intro f
    induction f with
    | zero =>
      intro i q a I1 hi S1 F1 k1 k2
      refine x_ildn qX2_readBoth_7 rfl ?_
      refine x_bipush (v := nI 100) qX2_readBoth_8 rfl ?_
      refine x_icmp_ge_nt (tgt := 66) qX2_readBoth_10 (by omega) (by omega) (by omega) (by omega) ?_
      refine x_vret qX2_readBoth_66 rfl ?_
      exact k1 q a I1 rfl S1 F1
    | succ f ih =>
      intro i q a I1 hi S1 F1 k1 k2
      have hl := S1.1.2.1
      have hp := S1.2.1
      have b1 := bvI_eq _ (pkc_le S1.1 q) 38 (by omega)
      have hd : pBl s (pk len tx) (f + 1) q a = if pk len tx q = 38 then pbd (s (q + 1)) fun p' t => pBl s (pk len tx) f p' (a ++ t ++ [5038]) else (q, some a) := rfl
      by_cases c1 : pk len tx q = 38
      · rw [if_pos c1] at hd
        have S2 := RS_mv S1 (pkc_lt c1 (by omega))
        refine x_ildn qX2_readBoth_7 rfl ?_
        refine x_bipush (v := nI 100) qX2_readBoth_8 rfl ?_
        refine x_icmp_ge_nf (tgt := 66) qX2_readBoth_10 (by omega) (by omega) (by omega) (by omega) ?_
        refine x_aldn qX2_readBoth_13 rfl trivial ?_
        refine x_getZe qX2_readBoth_14 fX2_19 dd_9 S1.2.2.2.1 ?_
        refine x_if_eq_f (tgt := 66) qX2_readBoth_17 (by omega) (by decide) ?_
        refine x_aldn qX2_readBoth_20 rfl trivial ?_
        refine x_getR qX2_readBoth_21 fX2_23 dd_9 rfl ?_
        refine x_aldn qX2_readBoth_24 rfl trivial ?_
        refine x_getIe qX2_readBoth_25 fX2_15 dd_9 S1.2.2.1 ?_
        refine x_cV1 (d' := 1) qX2_readBoth_28 cX2_44 dd_7 ⟨_, rfl, rfl⟩ rfl rfl (Nat.le_of_ble_eq_true rfl) (Nat.le_of_ble_eq_true rfl) (by omega) ?_
        refine c_bA S1.1 (by omega) ?_
        refine x_bipush (v := nI 38) qX2_readBoth_31 rfl ?_
        refine x_icmp_ne_f (tgt := 66) qX2_readBoth_33 (by omega) (b1.mpr c1) ?_
        refine x_aldn qX2_readBoth_36 rfl trivial ?_
        refine x_dup qX2_readBoth_37 rfl ?_
        refine x_getIe qX2_readBoth_38 fX2_15 dd_9 S1.2.2.1 ?_
        refine x_iconst (v := nI 1) qX2_readBoth_41 rfl ?_
        refine x_iadd_n qX2_readBoth_42 ?_
        refine x_putI qX2_readBoth_43 fX2_15 (Or.inl rfl) dd_9 ?_
        refine x_aldn qX2_readBoth_46 rfl trivial ?_
        refine x_ildn qX2_readBoth_47 rfl ?_
        refine x_cV1 (d' := d) qX2_readBoth_48 cX2_92 dd_9 ⟨_, rfl, rfl⟩ rfl rfl (Nat.le_of_ble_eq_true rfl) (Nat.le_of_ble_eq_true rfl) (by omega) ?_
        refine A _ _ _ _ S2 (fun p' ts I3 e S3 F3 => ?_) (fun p' I3 e S3 F3 => ?_)
        · refine x_aldn qX2_readBoth_51 rfl trivial ?_
          refine x_getR qX2_readBoth_52 fX2_9 dd_9 rfl ?_
          refine x_bipush (v := -2) qX2_readBoth_55 rfl ?_
          refine x_cV1 (d' := 1) qX2_readBoth_57 cX2_89 (dd_hA hh).1 ⟨_, rfl, rfl⟩ rfl rfl (Nat.le_of_ble_eq_true rfl) (Nat.le_of_ble_eq_true rfl) (by omega) ?_
          have o := ok _ _ _ e
          have h3 := S1.2.2.2.2.1
          have h4 := S3.1.2.1
          have h5 := S3.2.1
          refine c_X1_addStep hh S3.2.2.2.2.2.2.2.1 (by simp at h3 ⊢; omega) ?_
          refine x_iinc2 qX2_readBoth_60 (by decide) (cm_inc _) rfl ?_
          refine x_goto (tgt := 7) qX2_readBoth_63 (by omega) ?_
          have S4 := RS_op (t := 5038) (v := -2) rfl (by omega) S3 (by simp at h3 ⊢; omega)
          refine ih (i + 1) p' (a ++ ts ++ [5038]) _ (by omega) (by simpa [List.append_assoc] using S4) (FR_tr F1 (FR_tr FR_9 (FR_tr F3 FR_op))) (fun p2 t2 I2 e2 => k1 p2 t2 I2 (by rw [hd, pbd_eq e]; exact e2)) (fun p2 I2 e2 => k2 p2 I2 (by rw [hd, pbd_eq e]; exact e2))
        · refine x_aldn qX2_readBoth_51 rfl trivial ?_
          refine x_getR qX2_readBoth_52 fX2_9 dd_9 rfl ?_
          refine x_bipush (v := -2) qX2_readBoth_55 rfl ?_
          refine x_cV1 (d' := 1) qX2_readBoth_57 cX2_89 (dd_hA hh).1 ⟨_, rfl, rfl⟩ rfl rfl (Nat.le_of_ble_eq_true rfl) (Nat.le_of_ble_eq_true rfl) (by omega) ?_
          obtain ⟨mm, hm1, hm2⟩ := S3.2.2.2.2
          refine c_X1_addStep hh hm2 hm1 ?_
          refine x_iinc2 qX2_readBoth_60 (by decide) (cm_inc _) rfl ?_
          refine x_goto (tgt := 7) qX2_readBoth_63 (by omega) ?_
          have S4 := RF_op (v := -2) S3 hm1
          exact c_X2_readBothF (by omega) (by omega) S4 (k2 p' _ (by rw [hd, pbd_no e]) S4 (FR_tr F1 (FR_tr FR_9 (FR_tr F3 FR_op))))
      · rw [if_neg c1] at hd
        refine x_ildn qX2_readBoth_7 rfl ?_
        refine x_bipush (v := nI 100) qX2_readBoth_8 rfl ?_
        refine x_icmp_ge_nf (tgt := 66) qX2_readBoth_10 (by omega) (by omega) (by omega) (by omega) ?_
        refine x_aldn qX2_readBoth_13 rfl trivial ?_
        refine x_getZe qX2_readBoth_14 fX2_19 dd_9 S1.2.2.2.1 ?_
        refine x_if_eq_f (tgt := 66) qX2_readBoth_17 (by omega) (by decide) ?_
        refine x_aldn qX2_readBoth_20 rfl trivial ?_
        refine x_getR qX2_readBoth_21 fX2_23 dd_9 rfl ?_
        refine x_aldn qX2_readBoth_24 rfl trivial ?_
        refine x_getIe qX2_readBoth_25 fX2_15 dd_9 S1.2.2.1 ?_
        refine x_cV1 (d' := 1) qX2_readBoth_28 cX2_44 dd_7 ⟨_, rfl, rfl⟩ rfl rfl (Nat.le_of_ble_eq_true rfl) (Nat.le_of_ble_eq_true rfl) (by omega) ?_
        refine c_bA S1.1 (by omega) ?_
        refine x_bipush (v := nI 38) qX2_readBoth_31 rfl ?_
        refine x_icmp_ne_t (tgt := 66) qX2_readBoth_33 (by omega) (fun e => c1 (b1.mp e)) ?_
        refine x_vret qX2_readBoth_66 rfl ?_
        exact k1 q a I1 hd S1 F1
  refine x_aldn qX2_readBoth_0 rfl trivial ?_
  refine x_ildn qX2_readBoth_1 rfl ?_
  refine x_cV1 (d' := d) qX2_readBoth_2 cX2_92 dd_9 ⟨_, rfl, rfl⟩ rfl rfl (Nat.le_of_ble_eq_true rfl) (Nat.le_of_ble_eq_true rfl) (by omega) ?_
  refine A _ _ _ _ S (fun p' ts I3 e S3 F3 => ?_) (fun p' I3 e S3 F3 => ?_)
  · refine x_iconst (v := nI 0) qX2_readBoth_5 rfl ?_
    refine x_ist2 qX2_readBoth_6 (by decide) rfl ?_
    exact loop 100 0 p' ts I3 rfl S3 F3 (fun p2 t2 I2 e2 => hok p2 t2 I2 (by unfold pBf; rw [pbd_eq e]; exact e2)) (fun p2 I2 e2 => hno p2 I2 (by unfold pBf; rw [pbd_eq e]; exact e2))
  · refine x_iconst (v := nI 0) qX2_readBoth_5 rfl ?_
    refine x_ist2 qX2_readBoth_6 (by decide) rfl ?_
    exact c_X2_readBothF (by omega) (by omega) S3 (hno p' _ (by unfold pBf; rw [pbd_no e]) S3 F3)
theorem c_X2_readEitherF {i : Nat} (hi : i ≤ 100) (hd : 8 ≤ d) (S : RF h len tx p I) (hno : Q none I L (RR n (some (hA h)) tl) (DD n)) : cm_Ex l g d 0 0 mX2_readEither 7 [.ref 9, .int z, .int (nI i)] [] I L (RR n (some (hA h)) tl) (DD n) Q := by
  by_cases h1 : i < 100
  · refine x_ildn qX2_readEither_7 rfl ?_
    refine x_bipush (v := nI 100) qX2_readEither_8 rfl ?_
    refine x_icmp_ge_nf (tgt := 66) qX2_readEither_10 (by omega) (by omega) (by omega) (by omega) ?_
    refine x_aldn qX2_readEither_13 rfl trivial ?_
    refine x_getZe qX2_readEither_14 fX2_19 dd_9 S.2.2.2.1 ?_
    refine x_if_eq_t (tgt := 66) qX2_readEither_17 (by omega) (by decide) ?_
    refine x_vret qX2_readEither_66 rfl ?_
    exact hno
  · refine x_ildn qX2_readEither_7 rfl ?_
    refine x_bipush (v := nI 100) qX2_readEither_8 rfl ?_
    refine x_icmp_ge_nt (tgt := 66) qX2_readEither_10 (by omega) (by omega) (by omega) (by omega) ?_
    refine x_vret qX2_readEither_66 rfl ?_
    exact hno
theorem c_X2_readEither0 (S : RF h len tx p I) (hno : ∀ I', RF h len tx p I' → FR h I I' → Q none I' L (RR n (some (hA h)) tl) (DD n)) : cm_Ex l g 10 0 0 mX2_readEither 0 [.ref 9, .int z, .float 0] [] I L (RR n (some (hA h)) tl) (DD n) Q := by
  refine x_aldn qX2_readEither_0 rfl trivial ?_
  refine x_ildn qX2_readEither_1 rfl ?_
  refine x_cV1 (d' := 9) qX2_readEither_2 cX2_86 dd_9 ⟨_, rfl, rfl⟩ rfl rfl (Nat.le_of_ble_eq_true rfl) (Nat.le_of_ble_eq_true rfl) (by omega) ?_
  refine c_X2_readBoth0 S (fun I2 S2 F2 => ?_)
  refine x_iconst (v := nI 0) qX2_readEither_5 rfl ?_
  refine x_ist2 qX2_readEither_6 (by decide) rfl ?_
  exact c_X2_readEitherF (by omega) (by omega) S2 (hno _ S2 F2)
theorem rd_either (hd : 8 ≤ d) (hh : h < 7) (ok : okS len m s) (A : RdC l g L n h len tl tx tk gl gv d mX2_readBoth [.ref 9, .int z, .float 0] (pBf s (pk len tx))) : RdC l g L n h len tl tx tk gl gv (d + 1) mX2_readEither [.ref 9, .int z, .float 0] (pEf s (pk len tx)) := by
  intro I p toks Q S hok hno
  have loop : ∀ f i q a I1, i + f = 100 → RS h len tx tk gl gv (toks ++ a) q I1 → FR h I I1 → (∀ p' ts I', pEl s (pk len tx) f q a = (p', some ts) → RS h len tx tk gl gv (toks ++ ts) p' I' → FR h I I' → Q none I' L (RR n (some (hA h)) tl) (DD n)) → (∀ p' I', pEl s (pk len tx) f q a = (p', none) → RF h len tx p' I' → FR h I I' → Q none I' L (RR n (some (hA h)) tl) (DD n)) → cm_Ex l g (d + 1) 0 0 mX2_readEither 7 [.ref 9, .int z, .int (nI i)] [] I1 L (RR n (some (hA h)) tl) (DD n) Q := by
    intro f
    induction f with
    | zero =>
      intro i q a I1 hi S1 F1 k1 k2
      refine x_ildn qX2_readEither_7 rfl ?_
      refine x_bipush (v := nI 100) qX2_readEither_8 rfl ?_
      refine x_icmp_ge_nt (tgt := 66) qX2_readEither_10 (by omega) (by omega) (by omega) (by omega) ?_
      refine x_vret qX2_readEither_66 rfl ?_
      exact k1 q a I1 rfl S1 F1
    | succ f ih =>
      intro i q a I1 hi S1 F1 k1 k2
      have hl := S1.1.2.1
      have hp := S1.2.1
      have b1 := bvI_eq _ (pkc_le S1.1 q) 124 (by omega)
      have hd : pEl s (pk len tx) (f + 1) q a = if pk len tx q = 124 then pbd (pBf s (pk len tx) (q + 1)) fun p' t => pEl s (pk len tx) f p' (a ++ t ++ [5124]) else (q, some a) := rfl
      by_cases c1 : pk len tx q = 124
      · rw [if_pos c1] at hd
        have S2 := RS_mv S1 (pkc_lt c1 (by omega))
        refine x_ildn qX2_readEither_7 rfl ?_
        refine x_bipush (v := nI 100) qX2_readEither_8 rfl ?_
        refine x_icmp_ge_nf (tgt := 66) qX2_readEither_10 (by omega) (by omega) (by omega) (by omega) ?_
        refine x_aldn qX2_readEither_13 rfl trivial ?_
        refine x_getZe qX2_readEither_14 fX2_19 dd_9 S1.2.2.2.1 ?_
        refine x_if_eq_f (tgt := 66) qX2_readEither_17 (by omega) (by decide) ?_
        refine x_aldn qX2_readEither_20 rfl trivial ?_
        refine x_getR qX2_readEither_21 fX2_23 dd_9 rfl ?_
        refine x_aldn qX2_readEither_24 rfl trivial ?_
        refine x_getIe qX2_readEither_25 fX2_15 dd_9 S1.2.2.1 ?_
        refine x_cV1 (d' := 1) qX2_readEither_28 cX2_44 dd_7 ⟨_, rfl, rfl⟩ rfl rfl (Nat.le_of_ble_eq_true rfl) (Nat.le_of_ble_eq_true rfl) (by omega) ?_
        refine c_bA S1.1 (by omega) ?_
        refine x_bipush (v := nI 124) qX2_readEither_31 rfl ?_
        refine x_icmp_ne_f (tgt := 66) qX2_readEither_33 (by omega) (b1.mpr c1) ?_
        refine x_aldn qX2_readEither_36 rfl trivial ?_
        refine x_dup qX2_readEither_37 rfl ?_
        refine x_getIe qX2_readEither_38 fX2_15 dd_9 S1.2.2.1 ?_
        refine x_iconst (v := nI 1) qX2_readEither_41 rfl ?_
        refine x_iadd_n qX2_readEither_42 ?_
        refine x_putI qX2_readEither_43 fX2_15 (Or.inl rfl) dd_9 ?_
        refine x_aldn qX2_readEither_46 rfl trivial ?_
        refine x_ildn qX2_readEither_47 rfl ?_
        refine x_cV1 (d' := d) qX2_readEither_48 cX2_86 dd_9 ⟨_, rfl, rfl⟩ rfl rfl (Nat.le_of_ble_eq_true rfl) (Nat.le_of_ble_eq_true rfl) (by omega) ?_
        refine A _ _ _ _ S2 (fun p' ts I3 e S3 F3 => ?_) (fun p' I3 e S3 F3 => ?_)
        · refine x_aldn qX2_readEither_51 rfl trivial ?_
          refine x_getR qX2_readEither_52 fX2_9 dd_9 rfl ?_
          refine x_bipush (v := -3) qX2_readEither_55 rfl ?_
          refine x_cV1 (d' := 1) qX2_readEither_57 cX2_89 (dd_hA hh).1 ⟨_, rfl, rfl⟩ rfl rfl (Nat.le_of_ble_eq_true rfl) (Nat.le_of_ble_eq_true rfl) (by omega) ?_
          have o := pBf_some ok _ _ _ e
          have h3 := S1.2.2.2.2.1
          have h4 := S3.1.2.1
          have h5 := S3.2.1
          refine c_X1_addStep hh S3.2.2.2.2.2.2.2.1 (by simp at h3 ⊢; omega) ?_
          refine x_iinc2 qX2_readEither_60 (by decide) (cm_inc _) rfl ?_
          refine x_goto (tgt := 7) qX2_readEither_63 (by omega) ?_
          have S4 := RS_op (t := 5124) (v := -3) rfl (by omega) S3 (by simp at h3 ⊢; omega)
          refine ih (i + 1) p' (a ++ ts ++ [5124]) _ (by omega) (by simpa [List.append_assoc] using S4) (FR_tr F1 (FR_tr FR_9 (FR_tr F3 FR_op))) (fun p2 t2 I2 e2 => k1 p2 t2 I2 (by rw [hd, pbd_eq e]; exact e2)) (fun p2 I2 e2 => k2 p2 I2 (by rw [hd, pbd_eq e]; exact e2))
        · refine x_aldn qX2_readEither_51 rfl trivial ?_
          refine x_getR qX2_readEither_52 fX2_9 dd_9 rfl ?_
          refine x_bipush (v := -3) qX2_readEither_55 rfl ?_
          refine x_cV1 (d' := 1) qX2_readEither_57 cX2_89 (dd_hA hh).1 ⟨_, rfl, rfl⟩ rfl rfl (Nat.le_of_ble_eq_true rfl) (Nat.le_of_ble_eq_true rfl) (by omega) ?_
          obtain ⟨mm, hm1, hm2⟩ := S3.2.2.2.2
          refine c_X1_addStep hh hm2 hm1 ?_
          refine x_iinc2 qX2_readEither_60 (by decide) (cm_inc _) rfl ?_
          refine x_goto (tgt := 7) qX2_readEither_63 (by omega) ?_
          have S4 := RF_op (v := -3) S3 hm1
          exact c_X2_readEitherF (by omega) (by omega) S4 (k2 p' _ (by rw [hd, pbd_no e]) S4 (FR_tr F1 (FR_tr FR_9 (FR_tr F3 FR_op))))
      · rw [if_neg c1] at hd
        refine x_ildn qX2_readEither_7 rfl ?_
        refine x_bipush (v := nI 100) qX2_readEither_8 rfl ?_
        refine x_icmp_ge_nf (tgt := 66) qX2_readEither_10 (by omega) (by omega) (by omega) (by omega) ?_
        refine x_aldn qX2_readEither_13 rfl trivial ?_
        refine x_getZe qX2_readEither_14 fX2_19 dd_9 S1.2.2.2.1 ?_
        refine x_if_eq_f (tgt := 66) qX2_readEither_17 (by omega) (by decide) ?_
        refine x_aldn qX2_readEither_20 rfl trivial ?_
        refine x_getR qX2_readEither_21 fX2_23 dd_9 rfl ?_
        refine x_aldn qX2_readEither_24 rfl trivial ?_
        refine x_getIe qX2_readEither_25 fX2_15 dd_9 S1.2.2.1 ?_
        refine x_cV1 (d' := 1) qX2_readEither_28 cX2_44 dd_7 ⟨_, rfl, rfl⟩ rfl rfl (Nat.le_of_ble_eq_true rfl) (Nat.le_of_ble_eq_true rfl) (by omega) ?_
        refine c_bA S1.1 (by omega) ?_
        refine x_bipush (v := nI 124) qX2_readEither_31 rfl ?_
        refine x_icmp_ne_t (tgt := 66) qX2_readEither_33 (by omega) (fun e => c1 (b1.mp e)) ?_
        refine x_vret qX2_readEither_66 rfl ?_
        exact k1 q a I1 hd S1 F1
  refine x_aldn qX2_readEither_0 rfl trivial ?_
  refine x_ildn qX2_readEither_1 rfl ?_
  refine x_cV1 (d' := d) qX2_readEither_2 cX2_86 dd_9 ⟨_, rfl, rfl⟩ rfl rfl (Nat.le_of_ble_eq_true rfl) (Nat.le_of_ble_eq_true rfl) (by omega) ?_
  refine A _ _ _ _ S (fun p' ts I3 e S3 F3 => ?_) (fun p' I3 e S3 F3 => ?_)
  · refine x_iconst (v := nI 0) qX2_readEither_5 rfl ?_
    refine x_ist2 qX2_readEither_6 (by decide) rfl ?_
    exact loop 100 0 p' ts I3 rfl S3 F3 (fun p2 t2 I2 e2 => hok p2 t2 I2 (by unfold pEf; rw [pbd_eq e]; exact e2)) (fun p2 I2 e2 => hno p2 I2 (by unfold pEf; rw [pbd_eq e]; exact e2))
  · refine x_iconst (v := nI 0) qX2_readEither_5 rfl ?_
    refine x_ist2 qX2_readEither_6 (by decide) rfl ?_
    exact c_X2_readEitherF (by omega) (by omega) S3 (hno p' _ (by unfold pEf; rw [pbd_no e]) S3 F3)
end K14
