/-! Acts -/
def bdy (k a : Nat) : Nat := [10, 11, 12, 0, 20, 0, 30, 0, 0, 0, 0, 40, 50, 51, 0, 0, 0, 60, 71, 70, 0].getD (k * 3 + a) 0
def upk (k : Nat) : Nat := [0, 0, 0, 0, 1, 0, 5].getD k 0
def ownr : Nat → Nat → Nat → Nat
  | 0, k, _ => k
  | f + 1, k, a => if bdy k a = 0 then ownr f (upk k) a else k
/-- an act's answer and the bodies that run: thing i of m states and kind j; the body's kind, act, x -/
def evl (i m j : Nat) : Nat → Nat → Nat → Int32 → Int32 × List Nat
  | 0, _, _, _ => (0, [])
  | f + 1, k, a, x =>
    if bdy (ownr 7 k a) a = 10 then (x + nI i, [10])
    else if bdy (ownr 7 k a) a = 11 then ((evl i m j f j 0 x).1 - nI m, 11 :: (evl i m j f j 0 x).2)
    else if bdy (ownr 7 k a) a = 12 then ((evl i m j f j 1 x).1 * nI 2, 12 :: (evl i m j f j 1 x).2)
    else if bdy (ownr 7 k a) a = 20 then ((evl i m j f (upk (ownr 7 k a)) 1 x).1 ^^^ nI 6, 20 :: (evl i m j f (upk (ownr 7 k a)) 1 x).2)
    else if bdy (ownr 7 k a) a = 30 then ((evl i m j f (upk (ownr 7 k a)) 0 (x * nI 3)).1, 30 :: (evl i m j f (upk (ownr 7 k a)) 0 (x * nI 3)).2)
    else if bdy (ownr 7 k a) a = 40 then ((evl i m j f (upk (ownr 7 k a)) 2 x).1 + (evl i m j f j 1 (nI 1)).1, 40 :: (evl i m j f (upk (ownr 7 k a)) 2 x).2 ++ (evl i m j f j 1 (nI 1)).2)
    else if bdy (ownr 7 k a) a = 50 then (-(evl i m j f (upk (ownr 7 k a)) 0 x).1, 50 :: (evl i m j f (upk (ownr 7 k a)) 0 x).2)
    else if bdy (ownr 7 k a) a = 51 then ((evl i m j f (upk (ownr 7 k a)) 1 (x + nI 1)).1, 51 :: (evl i m j f (upk (ownr 7 k a)) 1 (x + nI 1)).2)
    else if bdy (ownr 7 k a) a = 60 then ((evl i m j f (upk (ownr 7 k a)) 2 (x - nI i)).1, 60 :: (evl i m j f (upk (ownr 7 k a)) 2 (x - nI i)).2)
    else if bdy (ownr 7 k a) a = 70 then ((evl i m j f (upk (ownr 7 k a)) 1 x).1 + (evl i m j f (upk (ownr 7 k a)) 0 (nI 2)).1, 70 :: (evl i m j f (upk (ownr 7 k a)) 1 x).2 ++ (evl i m j f (upk (ownr 7 k a)) 0 (nI 2)).2)
    else ((evl i m j f (upk (ownr 7 k a)) 0 x).1 ^^^ nI m, 71 :: (evl i m j f (upk (ownr 7 k a)) 0 x).2)
/-- the act comes to its end within so many levels -/
def fnn (j : Nat) : Nat → Nat → Nat → Bool
  | 0, _, _ => false
  | f + 1, k, a =>
    if bdy (ownr 7 k a) a = 10 then true
    else if bdy (ownr 7 k a) a = 11 then fnn j f j 0
    else if bdy (ownr 7 k a) a = 12 then fnn j f j 1
    else if bdy (ownr 7 k a) a = 20 then fnn j f (upk (ownr 7 k a)) 1
    else if bdy (ownr 7 k a) a = 30 then fnn j f (upk (ownr 7 k a)) 0
    else if bdy (ownr 7 k a) a = 40 then fnn j f (upk (ownr 7 k a)) 2 && fnn j f j 1
    else if bdy (ownr 7 k a) a = 50 then fnn j f (upk (ownr 7 k a)) 0
    else if bdy (ownr 7 k a) a = 51 then fnn j f (upk (ownr 7 k a)) 1
    else if bdy (ownr 7 k a) a = 60 then fnn j f (upk (ownr 7 k a)) 2
    else if bdy (ownr 7 k a) a = 70 then fnn j f (upk (ownr 7 k a)) 1 && fnn j f (upk (ownr 7 k a)) 0
    else fnn j f (upk (ownr 7 k a)) 0
theorem fnn_8 : ∀ j, j < 7 → ∀ a, a < 3 → fnn j 8 j a = true := by decide +kernel
theorem own_ok : ∀ k, k < 7 → ∀ a, a < 3 → ownr 7 k a < 7 ∧ (bdy (ownr 7 k a) a = 10 ∨ bdy (ownr 7 k a) a = 11 ∨ bdy (ownr 7 k a) a = 12 ∨ (0 < ownr 7 k a ∧ (bdy (ownr 7 k a) a = 20 ∨ bdy (ownr 7 k a) a = 30 ∨ bdy (ownr 7 k a) a = 40 ∨ bdy (ownr 7 k a) a = 50 ∨ bdy (ownr 7 k a) a = 51 ∨ bdy (ownr 7 k a) a = 60 ∨ bdy (ownr 7 k a) a = 70 ∨ bdy (ownr 7 k a) a = 71))) := by decide +kernel
theorem upk_lt : ∀ k, k < 7 → upk k < 7 := by decide +kernel
theorem upk_tab : ∀ k, k < 7 → 0 < k → (if 0 ≤ (nI k).toInt ∧ (nI k).toInt < 7 then (cm_tab 0).getD (nI k).toInt.toNat 0 else -1) = nI (upk k) := by decide +kernel
theorem bdy_tab : ∀ k, k < 7 → ∀ a, a < 3 → (cm_tab 1).getD (k * 3 + a) 0 = nI (bdy k a) ∧ bdy k a < 100 ∧ (bdy k a = 0 → 0 < k) := by decide +kernel
theorem evl_len {i m j : Nat} : ∀ f k a x, (evl i m j f k a x).2.length + 1 ≤ 2 ^ f := by
  intro f
  induction f with
  | zero => intro k a x; exact Nat.le_refl _
  | succ f ih =>
    intro k a x
    have hp : 2 ^ (f + 1) = 2 ^ f + 2 ^ f := by rw [Nat.pow_succ]; omega
    rw [hp]
    have h1 := ih j 0 x
    have h2 := ih j 1 x
    have h3 := ih (upk (ownr 7 k a)) 1 x
    have h4 := ih (upk (ownr 7 k a)) 0 (x * nI 3)
    have h5 := ih (upk (ownr 7 k a)) 2 x
    have h6 := ih j 1 (nI 1)
    have h7 := ih (upk (ownr 7 k a)) 0 x
    have h8 := ih (upk (ownr 7 k a)) 1 (x + nI 1)
    have h9 := ih (upk (ownr 7 k a)) 2 (x - nI i)
    have h10 := ih (upk (ownr 7 k a)) 0 (nI 2)
    unfold evl
    repeat' split
    all_goals simp only [List.length_cons, List.length_append, List.length_nil]; omega
def TRC (s : List Nat) (I : cm_I) : Prop := I 34 1 = nI s.length ∧ ∀ i, i < s.length → i < 20 → I 35 i = nI (s.getD i 0)
theorem TRC_add {s : List Nat} {I : cm_I} {b : Nat} (h : TRC s I) : TRC (s ++ [b]) (cm_u (if s.length < 20 then cm_u I 35 s.length (nI b) else I) 34 1 (nI (s.length + 1))) := by
  refine ⟨?_, fun i hi h20 => ?_⟩
  · rw [cm_uu]
    show (if 1 = 1 then _ else _) = _
    rw [if_pos rfl, List.length_append]; rfl
  · rw [cm_u_ne (by decide)]
    rw [List.length_append] at hi
    simp only [List.length_cons, List.length_nil] at hi
    by_cases hs : s.length < 20
    · rw [if_pos hs, cm_uu]
      show (if i = s.length then _ else _) = _
      by_cases e : i = s.length
      · subst e
        rw [if_pos rfl, List.getD_eq_getElem?_getD, List.getElem?_append_right (Nat.le_refl _), Nat.sub_self]
        rfl
      · rw [if_neg e, h.2 i (by omega) h20, List.getD_eq_getElem?_getD, List.getD_eq_getElem?_getD, List.getElem?_append_left (by omega)]
    · rw [if_neg hs, h.2 i (by omega) h20, List.getD_eq_getElem?_getD, List.getD_eq_getElem?_getD, List.getElem?_append_left (by omega)]
section K30
variable {l : Launch} {g : cm_G} {L : cm_L} {n : Nat} {hr tl : Option Nat}
theorem c_X0_bodyOf {I : cm_I} {R : cm_R} {ds : cm_Ds} {Q : cm_Post} {k a : Nat} (hk : k < 7) (ha : a < 3) (hQ : Q (some (.int (nI (bdy k a)))) I L R ds) : cm_Ex l g 1 0 0 mX0_bodyOf 0 [.int (nI k), .int (nI a), .float 0] [] I L R ds Q := by
  have ht := bdy_tab k hk a ha
  have hln : (cm_tab 1).length = 21 := rfl
  refine x_ildn qX0_bodyOf_0 rfl ?_
  refine x_iconst (v := nI 3) qX0_bodyOf_1 rfl ?_
  refine x_imul_n qX0_bodyOf_2 ?_
  refine x_ildn qX0_bodyOf_3 rfl ?_
  refine x_iadd_n qX0_bodyOf_4 ?_
  refine x_ist2 qX0_bodyOf_5 (by decide) rfl ?_
  refine x_ildn qX0_bodyOf_6 rfl ?_
  refine x_if_lt_nf (tgt := 26) qX0_bodyOf_7 (by omega) (by omega) ?_
  refine x_ildn qX0_bodyOf_10 rfl ?_
  refine x_gsB qX0_bodyOf_11 gX0_44 ?_
  refine x_tlen qX0_bodyOf_14 (Or.inr rfl) ?_
  refine x_icmp_ge_nf (tgt := 26) qX0_bodyOf_15 (by omega) (by omega) (by omega) (by omega) ?_
  refine x_gsB qX0_bodyOf_18 gX0_44 ?_
  refine x_ildn qX0_bodyOf_21 rfl ?_
  refine x_tald (k := k * 3 + a) qX0_bodyOf_22 (Or.inr rfl) rfl (by show _ < 21; omega) ?_
  refine x_goto (tgt := 27) qX0_bodyOf_23 (by omega) ?_
  refine x_iret qX0_bodyOf_27 rfl rfl ?_
  rw [ht.1]; exact hQ
theorem c_X0_ownerOf {I : cm_I} {R : cm_R} {ds : cm_Ds} {Q : cm_Post} {k0 a : Nat} (hk : k0 < 7) (ha : a < 3) (hQ : Q (some (.int (nI (ownr 7 k0 a)))) I L R ds) : cm_Ex l g 3 0 0 mX0_ownerOf 0 [.int (nI k0), .int (nI a), .float 0, .float 0] [] I L R ds Q := by
  have loop : ∀ f c k, c + f = 7 → k < 7 → Q (some (.int (nI (ownr f k a)))) I L R ds → cm_Ex l g 3 0 0 mX0_ownerOf 4 [.int (nI k0), .int (nI a), .int (nI k), .int (nI c)] [] I L R ds Q := by
    intro f
    induction f with
    | zero =>
      intro c k hc hk hQ
      refine x_ildn qX0_ownerOf_4 rfl ?_
      refine x_bipush (v := nI 7) qX0_ownerOf_5 rfl ?_
      refine x_icmp_ge_nt (tgt := 33) qX0_ownerOf_7 (by omega) (by omega) (by omega) (by omega) ?_
      refine x_ildn qX0_ownerOf_33 rfl ?_
      refine x_iret qX0_ownerOf_34 rfl rfl ?_
      exact hQ
    | succ f ih =>
      intro c k hc hk hQ
      have ht := bdy_tab k hk a ha
      refine x_ildn qX0_ownerOf_4 rfl ?_
      refine x_bipush (v := nI 7) qX0_ownerOf_5 rfl ?_
      refine x_icmp_ge_nf (tgt := 33) qX0_ownerOf_7 (by omega) (by omega) (by omega) (by omega) ?_
      refine x_ildn qX0_ownerOf_10 rfl ?_
      refine x_if_lt_nf (tgt := 33) qX0_ownerOf_11 (by omega) (by omega) ?_
      refine x_ildn qX0_ownerOf_14 rfl ?_
      refine x_ildn qX0_ownerOf_15 rfl ?_
      refine x_cS2 (d' := 1) qX0_ownerOf_16 cX0_29 rfl rfl (Nat.le_of_ble_eq_true rfl) (Nat.le_of_ble_eq_true rfl) (by decide) ?_
      refine c_X0_bodyOf hk ha ?_
      refine x_if_ne_n (tgt := 33) qX0_ownerOf_19 (by omega) (by omega) (fun h19 => ?_) (fun h19 => ?_)
      · refine x_ildn qX0_ownerOf_33 rfl ?_
        refine x_iret qX0_ownerOf_34 rfl rfl ?_
        simp only [ownr] at hQ
        rw [if_neg (by omega)] at hQ
        exact hQ
      · refine x_ildn qX0_ownerOf_22 rfl ?_
        refine x_cS1 (d' := 2) qX0_ownerOf_23 cX0_23 rfl rfl (Nat.le_of_ble_eq_true rfl) (Nat.le_of_ble_eq_true rfl) (by decide) ?_
        refine c_X4_above ?_
        rw [upk_tab k hk (ht.2.2 h19)]
        refine x_ist2 qX0_ownerOf_26 (by decide) rfl ?_
        refine x_iinc3 qX0_ownerOf_27 (by decide) (cm_inc _) rfl ?_
        refine x_goto (tgt := 4) qX0_ownerOf_30 (by omega) ?_
        refine ih (c + 1) _ (by omega) (upk_lt k hk) ?_
        simp only [ownr] at hQ
        rw [if_pos h19] at hQ
        exact hQ
  refine x_ildn qX0_ownerOf_0 rfl ?_
  refine x_ist2 qX0_ownerOf_1 (by decide) rfl ?_
  refine x_iconst (v := nI 0) qX0_ownerOf_2 rfl ?_
  refine x_ist3 qX0_ownerOf_3 (by decide) rfl ?_
  exact loop 7 0 k0 rfl hk hQ
theorem c_X0_perform {i m j : Nat} (hi : i < n) (hj : j < 7) : ∀ f k a x dp s (I : cm_I) (Q : cm_Post), k < 7 → a < 3 → dp + f ≤ 40 → fnn j f k a = true → (I (106 + i) 0 = nI i ∧ I (106 + i) 1 = nI j ∧ I (106 + i) 2 = nI m) → TRC s I → s.length + 2 ^ f ≤ 1000 → (∀ I', TRC (s ++ (evl i m j f k a x).2) I' → (∀ b, b ≠ 34 → b ≠ 35 → I' b = I b) → Q (some (.int (evl i m j f k a x).1)) I' L (RR n hr tl) (DD n)) → cm_Ex l g (f + 4) 0 0 mX0_perform 0 [.ref 34, .ref (106 + i), .int (nI k), .int (nI a), .int x, .int (nI dp), .float 0, .float 0, .float 0, .float 0, .float 0] [] I L (RR n hr tl) (DD n) Q := by
  intro f
  induction f with
  | zero => intro k a x dp s I Q hk ha hd hf; cases hf
  | succ f ih =>
    intro k a x dp s I Q hk ha hd hf hT hS hlen hQ
    obtain ⟨t0, t1, t2⟩ := id hT
    obtain ⟨ho, hb⟩ := own_ok k hk a ha
    have hup := upk_lt _ ho
    have htb := bdy_tab _ ho a ha
    have hp : 2 ^ (f + 1) = 2 ^ f + 2 ^ f := by rw [Nat.pow_succ]; omega
    have hp0 : 0 < 2 ^ f := Nat.pow_pos (by decide)
    rw [hp] at hlen
    refine x_ildn qX0_perform_0 rfl ?_
    refine x_ildn qX0_perform_1 rfl ?_
    refine x_cS2 (d' := 3) qX0_perform_2 cX0_19 rfl rfl (Nat.le_of_ble_eq_true rfl) (Nat.le_of_ble_eq_true rfl) (by omega) ?_
    refine c_X0_ownerOf hk ha ?_
    refine x_ist6 qX0_perform_5 (by decide) rfl ?_
    refine x_ild qX0_perform_7 rfl ?_
    refine x_if_lt_nf (tgt := 19) qX0_perform_9 (by omega) (by omega) ?_
    refine x_ild qX0_perform_12 rfl ?_
    refine x_bipush (v := nI 40) qX0_perform_14 rfl ?_
    refine x_icmp_le_nt (tgt := 21) qX0_perform_16 (by omega) (by omega) (by omega) (by omega) ?_
    refine x_aldn qX0_perform_21 rfl trivial ?_
    refine x_getIe qX0_perform_22 fX0_7 (dd_th hi) t1 ?_
    refine x_ist7 qX0_perform_25 (by decide) rfl ?_
    refine x_ild qX0_perform_27 rfl ?_
    refine x_cS1 (d' := 2) qX0_perform_29 cX0_23 rfl rfl (Nat.le_of_ble_eq_true rfl) (Nat.le_of_ble_eq_true rfl) (by omega) ?_
    refine c_X4_above ?_
    generalize hU : (if 0 ≤ (nI (ownr 7 k a)).toInt ∧ (nI (ownr 7 k a)).toInt < 7 then (cm_tab 0).getD (nI (ownr 7 k a)).toInt.toNat 0 else -1) = U
    refine x_ist8 qX0_perform_32 (by decide) rfl ?_
    refine x_ild qX0_perform_34 rfl ?_
    refine x_iconst (v := nI 1) qX0_perform_36 rfl ?_
    refine x_iadd_n qX0_perform_37 ?_
    refine x_ist9 qX0_perform_38 (by decide) rfl ?_
    refine x_ild qX0_perform_40 rfl ?_
    refine x_ildn qX0_perform_42 rfl ?_
    refine x_cS2 (d' := 1) qX0_perform_43 cX0_29 rfl rfl (Nat.le_of_ble_eq_true rfl) (Nat.le_of_ble_eq_true rfl) (by omega) ?_
    refine c_X0_bodyOf ho ha ?_
    refine x_ist10 qX0_perform_46 (by decide) rfl ?_
    refine x_aldn qX0_perform_48 rfl trivial ?_
    refine x_ild qX0_perform_49 rfl ?_
    refine x_cV1 (d' := 1) qX0_perform_51 cX0_32 rfl ⟨_, rfl, rfl⟩ rfl rfl (Nat.le_of_ble_eq_true rfl) (Nat.le_of_ble_eq_true rfl) (by omega) ?_
    refine c_X10_add hS.1 (by omega) ?_
    have hS1 := TRC_add (b := bdy (ownr 7 k a) a) hS
    generalize hI1 : cm_u (if s.length < 20 then cm_u I 35 s.length (nI (bdy (ownr 7 k a) a)) else I) 34 1 (nI (s.length + 1)) = I1 at hS1
    have f1 : ∀ b, b ≠ 34 → b ≠ 35 → I1 b = I b := fun b h1 h2 => by
      rw [← hI1, cm_u_ne h1]
      split
      · exact cm_u_ne h2
      · rfl
    have T1 : I1 (106 + i) 0 = nI i ∧ I1 (106 + i) 1 = nI j ∧ I1 (106 + i) 2 = nI m := by rw [f1 _ (by omega) (by omega)]; exact hT
    have hl1 : (s ++ [bdy (ownr 7 k a) a]).length = s.length + 1 := by simp
    refine x_ild qX0_perform_54 rfl ?_
    rcases hb with hb | hb | hb | ⟨hu0, hb⟩
    · rw [hb] at hS1 ⊢
      have he : evl i m j (f + 1) k a x = (x + nI i, [10]) := by simp [evl, hb]
      rw [he] at hQ
      refine x_lkp (off := 100) (tgt := 156) qX0_perform_56 (by decide) (by decide +kernel) (by omega) ?_
      refine x_ild qX0_perform_156 rfl ?_
      refine x_aldn qX0_perform_158 rfl trivial ?_
      refine x_getIe qX0_perform_159 fX0_38 (dd_th hi) T1.1 ?_
      refine x_iadd qX0_perform_162 ?_
      refine x_iret qX0_perform_163 rfl rfl ?_
      exact hQ I1 hS1 f1
    · rw [hb] at hS1 ⊢
      have he : evl i m j (f + 1) k a x = ((evl i m j f j 0 x).1 - nI m, 11 :: (evl i m j f j 0 x).2) := by simp [evl, hb]
      have hf2 : fnn j f j 0 = true := by simpa [fnn, hb] using hf
      rw [he] at hQ
      refine x_lkp (off := 108) (tgt := 164) qX0_perform_56 (by decide) (by decide +kernel) (by omega) ?_
      refine x_aldn qX0_perform_164 rfl trivial ?_
      refine x_aldn qX0_perform_165 rfl trivial ?_
      refine x_ild qX0_perform_166 rfl ?_
      refine x_iconst (v := nI 0) qX0_perform_168 rfl ?_
      refine x_ild qX0_perform_169 rfl ?_
      refine x_ild qX0_perform_171 rfl ?_
      refine x_cS6 (d' := f + 4) qX0_perform_173 cX0_13 rfl rfl (Nat.le_of_ble_eq_true rfl) (Nat.le_of_ble_eq_true rfl) (by omega) ?_
      refine ih j 0 (x) (dp + 1) (s ++ [11]) I1 _ hj (by decide) (by omega) hf2 T1 hS1 (by simp only [List.length_append, List.length_cons, List.length_nil]; omega) (fun I2 hS2 hI2 => ?_)
      have hq := hQ I2 (by rw [List.append_assoc] at hS2; exact hS2) (fun b h1 h2 => by rw [hI2 b h1 h2]; exact f1 b h1 h2)
      refine x_aldn qX0_perform_176 rfl trivial ?_
      refine x_getIe qX0_perform_177 fX0_41 (dd_th hi) ((congrFun (hI2 _ (by omega) (by omega)) 2).trans T1.2.2) ?_
      refine x_isub qX0_perform_180 ?_
      refine x_iret qX0_perform_181 rfl rfl ?_
      exact hq
    · rw [hb] at hS1 ⊢
      have he : evl i m j (f + 1) k a x = ((evl i m j f j 1 x).1 * nI 2, 12 :: (evl i m j f j 1 x).2) := by simp [evl, hb]
      have hf2 : fnn j f j 1 = true := by simpa [fnn, hb] using hf
      rw [he] at hQ
      refine x_lkp (off := 126) (tgt := 182) qX0_perform_56 (by decide) (by decide +kernel) (by omega) ?_
      refine x_aldn qX0_perform_182 rfl trivial ?_
      refine x_aldn qX0_perform_183 rfl trivial ?_
      refine x_ild qX0_perform_184 rfl ?_
      refine x_iconst (v := nI 1) qX0_perform_186 rfl ?_
      refine x_ild qX0_perform_187 rfl ?_
      refine x_ild qX0_perform_189 rfl ?_
      refine x_cS6 (d' := f + 4) qX0_perform_191 cX0_13 rfl rfl (Nat.le_of_ble_eq_true rfl) (Nat.le_of_ble_eq_true rfl) (by omega) ?_
      refine ih j 1 (x) (dp + 1) (s ++ [12]) I1 _ hj (by decide) (by omega) hf2 T1 hS1 (by simp only [List.length_append, List.length_cons, List.length_nil]; omega) (fun I2 hS2 hI2 => ?_)
      have hq := hQ I2 (by rw [List.append_assoc] at hS2; exact hS2) (fun b h1 h2 => by rw [hI2 b h1 h2]; exact f1 b h1 h2)
      refine x_iconst (v := nI 2) qX0_perform_194 rfl ?_
      refine x_imul qX0_perform_195 ?_
      refine x_iret qX0_perform_196 rfl rfl ?_
      exact hq
    · have hU2 : U = nI (upk (ownr 7 k a)) := by rw [← hU]; exact upk_tab _ ho hu0
      subst hU2
      rcases hb with hb | hb | hb | hb | hb | hb | hb | hb
      · rw [hb] at hS1 ⊢
        have he : evl i m j (f + 1) k a x = ((evl i m j f (upk (ownr 7 k a)) 1 x).1 ^^^ nI 6, 20 :: (evl i m j f (upk (ownr 7 k a)) 1 x).2) := by simp [evl, hb]
        have hf2 : fnn j f (upk (ownr 7 k a)) 1 = true := by simpa [fnn, hb] using hf
        rw [he] at hQ
        refine x_lkp (off := 141) (tgt := 197) qX0_perform_56 (by decide) (by decide +kernel) (by omega) ?_
        refine x_aldn qX0_perform_197 rfl trivial ?_
        refine x_aldn qX0_perform_198 rfl trivial ?_
        refine x_ild qX0_perform_199 rfl ?_
        refine x_iconst (v := nI 1) qX0_perform_201 rfl ?_
        refine x_ild qX0_perform_202 rfl ?_
        refine x_ild qX0_perform_204 rfl ?_
        refine x_cS6 (d' := f + 4) qX0_perform_206 cX0_13 rfl rfl (Nat.le_of_ble_eq_true rfl) (Nat.le_of_ble_eq_true rfl) (by omega) ?_
        refine ih (upk (ownr 7 k a)) 1 (x) (dp + 1) (s ++ [20]) I1 _ hup (by decide) (by omega) hf2 T1 hS1 (by simp only [List.length_append, List.length_cons, List.length_nil]; omega) (fun I2 hS2 hI2 => ?_)
        have hq := hQ I2 (by rw [List.append_assoc] at hS2; exact hS2) (fun b h1 h2 => by rw [hI2 b h1 h2]; exact f1 b h1 h2)
        refine x_bipush (v := nI 6) qX0_perform_209 rfl ?_
        refine x_ixor qX0_perform_211 ?_
        refine x_iret qX0_perform_212 rfl rfl ?_
        exact hq
      · rw [hb] at hS1 ⊢
        have he : evl i m j (f + 1) k a x = ((evl i m j f (upk (ownr 7 k a)) 0 (x * nI 3)).1, 30 :: (evl i m j f (upk (ownr 7 k a)) 0 (x * nI 3)).2) := by simp [evl, hb]
        have hf2 : fnn j f (upk (ownr 7 k a)) 0 = true := by simpa [fnn, hb] using hf
        rw [he] at hQ
        refine x_lkp (off := 157) (tgt := 213) qX0_perform_56 (by decide) (by decide +kernel) (by omega) ?_
        refine x_aldn qX0_perform_213 rfl trivial ?_
        refine x_aldn qX0_perform_214 rfl trivial ?_
        refine x_ild qX0_perform_215 rfl ?_
        refine x_iconst (v := nI 0) qX0_perform_217 rfl ?_
        refine x_ild qX0_perform_218 rfl ?_
        refine x_iconst (v := nI 3) qX0_perform_220 rfl ?_
        refine x_imul qX0_perform_221 ?_
        refine x_ild qX0_perform_222 rfl ?_
        refine x_cS6 (d' := f + 4) qX0_perform_224 cX0_13 rfl rfl (Nat.le_of_ble_eq_true rfl) (Nat.le_of_ble_eq_true rfl) (by omega) ?_
        refine ih (upk (ownr 7 k a)) 0 (x * nI 3) (dp + 1) (s ++ [30]) I1 _ hup (by decide) (by omega) hf2 T1 hS1 (by simp only [List.length_append, List.length_cons, List.length_nil]; omega) (fun I2 hS2 hI2 => ?_)
        have hq := hQ I2 (by rw [List.append_assoc] at hS2; exact hS2) (fun b h1 h2 => by rw [hI2 b h1 h2]; exact f1 b h1 h2)
        refine x_iret qX0_perform_227 rfl rfl ?_
        exact hq
      · rw [hb] at hS1 ⊢
        have he : evl i m j (f + 1) k a x = ((evl i m j f (upk (ownr 7 k a)) 2 x).1 + (evl i m j f j 1 (nI 1)).1, 40 :: (evl i m j f (upk (ownr 7 k a)) 2 x).2 ++ (evl i m j f j 1 (nI 1)).2) := by simp [evl, hb]
        have hf2 : fnn j f (upk (ownr 7 k a)) 2 = true ∧ fnn j f j 1 = true := by simpa [fnn, hb] using hf
        have hl2 := evl_len (i := i) (m := m) (j := j) f (upk (ownr 7 k a)) 2 (x)
        rw [he] at hQ
        refine x_lkp (off := 172) (tgt := 228) qX0_perform_56 (by decide) (by decide +kernel) (by omega) ?_
        refine x_aldn qX0_perform_228 rfl trivial ?_
        refine x_aldn qX0_perform_229 rfl trivial ?_
        refine x_ild qX0_perform_230 rfl ?_
        refine x_iconst (v := nI 2) qX0_perform_232 rfl ?_
        refine x_ild qX0_perform_233 rfl ?_
        refine x_ild qX0_perform_235 rfl ?_
        refine x_cS6 (d' := f + 4) qX0_perform_237 cX0_13 rfl rfl (Nat.le_of_ble_eq_true rfl) (Nat.le_of_ble_eq_true rfl) (by omega) ?_
        refine ih (upk (ownr 7 k a)) 2 (x) (dp + 1) (s ++ [40]) I1 _ hup (by decide) (by omega) hf2.1 T1 hS1 (by simp only [List.length_append, List.length_cons, List.length_nil]; omega) (fun I2 hS2 hI2 => ?_)
        have T2 : I2 (106 + i) 0 = nI i ∧ I2 (106 + i) 1 = nI j ∧ I2 (106 + i) 2 = nI m := by rw [hI2 _ (by omega) (by omega)]; exact T1
        refine x_aldn qX0_perform_240 rfl trivial ?_
        refine x_aldn qX0_perform_241 rfl trivial ?_
        refine x_ild qX0_perform_242 rfl ?_
        refine x_iconst (v := nI 1) qX0_perform_244 rfl ?_
        refine x_iconst (v := nI 1) qX0_perform_245 rfl ?_
        refine x_ild qX0_perform_246 rfl ?_
        refine x_cS6 (d' := f + 4) qX0_perform_248 cX0_13 rfl rfl (Nat.le_of_ble_eq_true rfl) (Nat.le_of_ble_eq_true rfl) (by omega) ?_
        refine ih j 1 ((nI 1)) (dp + 1) _ I2 _ hj (by decide) (by omega) hf2.2 T2 hS2 (by simp only [List.length_append, List.length_cons, List.length_nil]; omega) (fun I3 hS3 hI3 => ?_)
        have hq := hQ I3 (by rw [List.append_assoc, List.append_assoc] at hS3; exact hS3) (fun b h1 h2 => by rw [hI3 b h1 h2, hI2 b h1 h2]; exact f1 b h1 h2)
        refine x_iadd qX0_perform_251 ?_
        refine x_iret qX0_perform_252 rfl rfl ?_
        exact hq
      · rw [hb] at hS1 ⊢
        have he : evl i m j (f + 1) k a x = (-(evl i m j f (upk (ownr 7 k a)) 0 x).1, 50 :: (evl i m j f (upk (ownr 7 k a)) 0 x).2) := by simp [evl, hb]
        have hf2 : fnn j f (upk (ownr 7 k a)) 0 = true := by simpa [fnn, hb] using hf
        rw [he] at hQ
        refine x_lkp (off := 197) (tgt := 253) qX0_perform_56 (by decide) (by decide +kernel) (by omega) ?_
        refine x_aldn qX0_perform_253 rfl trivial ?_
        refine x_aldn qX0_perform_254 rfl trivial ?_
        refine x_ild qX0_perform_255 rfl ?_
        refine x_iconst (v := nI 0) qX0_perform_257 rfl ?_
        refine x_ild qX0_perform_258 rfl ?_
        refine x_ild qX0_perform_260 rfl ?_
        refine x_cS6 (d' := f + 4) qX0_perform_262 cX0_13 rfl rfl (Nat.le_of_ble_eq_true rfl) (Nat.le_of_ble_eq_true rfl) (by omega) ?_
        refine ih (upk (ownr 7 k a)) 0 (x) (dp + 1) (s ++ [50]) I1 _ hup (by decide) (by omega) hf2 T1 hS1 (by simp only [List.length_append, List.length_cons, List.length_nil]; omega) (fun I2 hS2 hI2 => ?_)
        have hq := hQ I2 (by rw [List.append_assoc] at hS2; exact hS2) (fun b h1 h2 => by rw [hI2 b h1 h2]; exact f1 b h1 h2)
        refine x_ineg qX0_perform_265 ?_
        refine x_iret qX0_perform_266 rfl rfl ?_
        exact hq
      · rw [hb] at hS1 ⊢
        have he : evl i m j (f + 1) k a x = ((evl i m j f (upk (ownr 7 k a)) 1 (x + nI 1)).1, 51 :: (evl i m j f (upk (ownr 7 k a)) 1 (x + nI 1)).2) := by simp [evl, hb]
        have hf2 : fnn j f (upk (ownr 7 k a)) 1 = true := by simpa [fnn, hb] using hf
        rw [he] at hQ
        refine x_lkp (off := 211) (tgt := 267) qX0_perform_56 (by decide) (by decide +kernel) (by omega) ?_
        refine x_aldn qX0_perform_267 rfl trivial ?_
        refine x_aldn qX0_perform_268 rfl trivial ?_
        refine x_ild qX0_perform_269 rfl ?_
        refine x_iconst (v := nI 1) qX0_perform_271 rfl ?_
        refine x_ild qX0_perform_272 rfl ?_
        refine x_iconst (v := nI 1) qX0_perform_274 rfl ?_
        refine x_iadd qX0_perform_275 ?_
        refine x_ild qX0_perform_276 rfl ?_
        refine x_cS6 (d' := f + 4) qX0_perform_278 cX0_13 rfl rfl (Nat.le_of_ble_eq_true rfl) (Nat.le_of_ble_eq_true rfl) (by omega) ?_
        refine ih (upk (ownr 7 k a)) 1 (x + nI 1) (dp + 1) (s ++ [51]) I1 _ hup (by decide) (by omega) hf2 T1 hS1 (by simp only [List.length_append, List.length_cons, List.length_nil]; omega) (fun I2 hS2 hI2 => ?_)
        have hq := hQ I2 (by rw [List.append_assoc] at hS2; exact hS2) (fun b h1 h2 => by rw [hI2 b h1 h2]; exact f1 b h1 h2)
        refine x_iret qX0_perform_281 rfl rfl ?_
        exact hq
      · rw [hb] at hS1 ⊢
        have he : evl i m j (f + 1) k a x = ((evl i m j f (upk (ownr 7 k a)) 2 (x - nI i)).1, 60 :: (evl i m j f (upk (ownr 7 k a)) 2 (x - nI i)).2) := by simp [evl, hb]
        have hf2 : fnn j f (upk (ownr 7 k a)) 2 = true := by simpa [fnn, hb] using hf
        rw [he] at hQ
        refine x_lkp (off := 226) (tgt := 282) qX0_perform_56 (by decide) (by decide +kernel) (by omega) ?_
        refine x_aldn qX0_perform_282 rfl trivial ?_
        refine x_aldn qX0_perform_283 rfl trivial ?_
        refine x_ild qX0_perform_284 rfl ?_
        refine x_iconst (v := nI 2) qX0_perform_286 rfl ?_
        refine x_ild qX0_perform_287 rfl ?_
        refine x_aldn qX0_perform_289 rfl trivial ?_
        refine x_getIe qX0_perform_290 fX0_38 (dd_th hi) T1.1 ?_
        refine x_isub qX0_perform_293 ?_
        refine x_ild qX0_perform_294 rfl ?_
        refine x_cS6 (d' := f + 4) qX0_perform_296 cX0_13 rfl rfl (Nat.le_of_ble_eq_true rfl) (Nat.le_of_ble_eq_true rfl) (by omega) ?_
        refine ih (upk (ownr 7 k a)) 2 (x - nI i) (dp + 1) (s ++ [60]) I1 _ hup (by decide) (by omega) hf2 T1 hS1 (by simp only [List.length_append, List.length_cons, List.length_nil]; omega) (fun I2 hS2 hI2 => ?_)
        have hq := hQ I2 (by rw [List.append_assoc] at hS2; exact hS2) (fun b h1 h2 => by rw [hI2 b h1 h2]; exact f1 b h1 h2)
        refine x_iret qX0_perform_299 rfl rfl ?_
        exact hq
      · rw [hb] at hS1 ⊢
        have he : evl i m j (f + 1) k a x = ((evl i m j f (upk (ownr 7 k a)) 1 x).1 + (evl i m j f (upk (ownr 7 k a)) 0 (nI 2)).1, 70 :: (evl i m j f (upk (ownr 7 k a)) 1 x).2 ++ (evl i m j f (upk (ownr 7 k a)) 0 (nI 2)).2) := by simp [evl, hb]
        have hf2 : fnn j f (upk (ownr 7 k a)) 1 = true ∧ fnn j f (upk (ownr 7 k a)) 0 = true := by simpa [fnn, hb] using hf
        have hl2 := evl_len (i := i) (m := m) (j := j) f (upk (ownr 7 k a)) 1 (x)
        rw [he] at hQ
        refine x_lkp (off := 244) (tgt := 300) qX0_perform_56 (by decide) (by decide +kernel) (by omega) ?_
        refine x_aldn qX0_perform_300 rfl trivial ?_
        refine x_aldn qX0_perform_301 rfl trivial ?_
        refine x_ild qX0_perform_302 rfl ?_
        refine x_iconst (v := nI 1) qX0_perform_304 rfl ?_
        refine x_ild qX0_perform_305 rfl ?_
        refine x_ild qX0_perform_307 rfl ?_
        refine x_cS6 (d' := f + 4) qX0_perform_309 cX0_13 rfl rfl (Nat.le_of_ble_eq_true rfl) (Nat.le_of_ble_eq_true rfl) (by omega) ?_
        refine ih (upk (ownr 7 k a)) 1 (x) (dp + 1) (s ++ [70]) I1 _ hup (by decide) (by omega) hf2.1 T1 hS1 (by simp only [List.length_append, List.length_cons, List.length_nil]; omega) (fun I2 hS2 hI2 => ?_)
        have T2 : I2 (106 + i) 0 = nI i ∧ I2 (106 + i) 1 = nI j ∧ I2 (106 + i) 2 = nI m := by rw [hI2 _ (by omega) (by omega)]; exact T1
        refine x_aldn qX0_perform_312 rfl trivial ?_
        refine x_aldn qX0_perform_313 rfl trivial ?_
        refine x_ild qX0_perform_314 rfl ?_
        refine x_iconst (v := nI 0) qX0_perform_316 rfl ?_
        refine x_iconst (v := nI 2) qX0_perform_317 rfl ?_
        refine x_ild qX0_perform_318 rfl ?_
        refine x_cS6 (d' := f + 4) qX0_perform_320 cX0_13 rfl rfl (Nat.le_of_ble_eq_true rfl) (Nat.le_of_ble_eq_true rfl) (by omega) ?_
        refine ih (upk (ownr 7 k a)) 0 ((nI 2)) (dp + 1) _ I2 _ hup (by decide) (by omega) hf2.2 T2 hS2 (by simp only [List.length_append, List.length_cons, List.length_nil]; omega) (fun I3 hS3 hI3 => ?_)
        have hq := hQ I3 (by rw [List.append_assoc, List.append_assoc] at hS3; exact hS3) (fun b h1 h2 => by rw [hI3 b h1 h2, hI2 b h1 h2]; exact f1 b h1 h2)
        refine x_iadd qX0_perform_323 ?_
        refine x_iret qX0_perform_324 rfl rfl ?_
        exact hq
      · rw [hb] at hS1 ⊢
        have he : evl i m j (f + 1) k a x = ((evl i m j f (upk (ownr 7 k a)) 0 x).1 ^^^ nI m, 71 :: (evl i m j f (upk (ownr 7 k a)) 0 x).2) := by simp [evl, hb]
        have hf2 : fnn j f (upk (ownr 7 k a)) 0 = true := by simpa [fnn, hb] using hf
        rw [he] at hQ
        refine x_lkp (off := 269) (tgt := 325) qX0_perform_56 (by decide) (by decide +kernel) (by omega) ?_
        refine x_aldn qX0_perform_325 rfl trivial ?_
        refine x_aldn qX0_perform_326 rfl trivial ?_
        refine x_ild qX0_perform_327 rfl ?_
        refine x_iconst (v := nI 0) qX0_perform_329 rfl ?_
        refine x_ild qX0_perform_330 rfl ?_
        refine x_ild qX0_perform_332 rfl ?_
        refine x_cS6 (d' := f + 4) qX0_perform_334 cX0_13 rfl rfl (Nat.le_of_ble_eq_true rfl) (Nat.le_of_ble_eq_true rfl) (by omega) ?_
        refine ih (upk (ownr 7 k a)) 0 (x) (dp + 1) (s ++ [71]) I1 _ hup (by decide) (by omega) hf2 T1 hS1 (by simp only [List.length_append, List.length_cons, List.length_nil]; omega) (fun I2 hS2 hI2 => ?_)
        have hq := hQ I2 (by rw [List.append_assoc] at hS2; exact hS2) (fun b h1 h2 => by rw [hI2 b h1 h2]; exact f1 b h1 h2)
        refine x_aldn qX0_perform_337 rfl trivial ?_
        refine x_getIe qX0_perform_338 fX0_41 (dd_th hi) ((congrFun (hI2 _ (by omega) (by omega)) 2).trans T1.2.2) ?_
        refine x_ixor qX0_perform_341 ?_
        refine x_iret qX0_perform_342 rfl rfl ?_
        exact hq
theorem c_X0_start {i m j a : Nat} {x : Int32} {I : cm_I} {Q : cm_Post} (hi : i < n) (hj : j < 7) (ha : a < 3) (hT : I (106 + i) 0 = nI i ∧ I (106 + i) 1 = nI j ∧ I (106 + i) 2 = nI m) (h0 : I 34 1 = 0) (hQ : ∀ I', TRC (evl i m j 8 j a x).2 I' → (∀ b, b ≠ 34 → b ≠ 35 → I' b = I b) → Q (some (.int (evl i m j 8 j a x).1)) I' L (RR n hr tl) (DD n)) : cm_Ex l g 13 0 0 mX0_start 0 [.ref 34, .ref (106 + i), .int (nI a), .int x] [] I L (RR n hr tl) (DD n) Q := by
  refine x_aldn qX0_start_0 rfl trivial ?_
  refine x_aldn qX0_start_1 rfl trivial ?_
  refine x_aldn qX0_start_2 rfl trivial ?_
  refine x_getIe qX0_start_3 fX0_7 (dd_th hi) hT.2.1 ?_
  refine x_ildn qX0_start_6 rfl ?_
  refine x_ildn qX0_start_7 rfl ?_
  refine x_iconst (v := nI 0) qX0_start_8 rfl ?_
  refine x_cS6 (d' := 12) qX0_start_9 cX0_13 rfl rfl (Nat.le_of_ble_eq_true rfl) (Nat.le_of_ble_eq_true rfl) (by omega) ?_
  refine c_X0_perform hi hj 8 j a x 0 [] I _ hj ha (by decide) (fnn_8 j hj a ha) hT ⟨h0, fun i hi => by cases hi⟩ (by decide) (fun I' hS hI => ?_)
  refine x_iret qX0_start_12 rfl rfl ?_
  exact hQ I' hS hI
end K30
