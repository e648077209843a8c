/-! the reference's reader: an E -/
theorem rdE {α : Type} {f : Nat → Nat → α} {a k : Nat} {v : α} : cm_u f a k v a k = v := by rw [cm_uu]; exact if_pos rfl
theorem rdK {α : Type} {f : Nat → Nat → α} {a k j : Nat} {v : α} (h : j ≠ k) : cm_u f a k v a j = f a j := by rw [cm_uu]; exact if_neg h
theorem rdB {α : Type} {f : Nat → Nat → α} {a k b j : Nat} {v : α} (h : b ≠ a) : cm_u f a k v b j = f b j := by rw [cm_u_ne h]
def FS (o : Nat) (I I' : cm_I) : Prop := (∀ b, b ≠ 73 → b ≠ 83 → b ≠ 84 → I' b = I b) ∧ (∀ k, k ≠ 7 → k ≠ 8 → k ≠ 18 → k ≠ 19 → k ≠ 20 → I' 73 k = I 73 k) ∧ (∀ j, j < o → I' 83 j = I 83 j)
def FB (c o : Nat) (I I' : cm_I) : Prop := (∀ b, b ≠ 73 → b ≠ 81 → b ≠ 82 → b ≠ 83 → b ≠ 84 → I' b = I b) ∧ (∀ k, k ≠ 7 → k ≠ 8 → k ≠ 18 → k ≠ 19 → k ≠ 20 → I' 73 k = I 73 k) ∧ (∀ j, j ≠ c → I' 81 j = I 81 j ∧ I' 82 j = I 82 j) ∧ (∀ j, j < o → I' 83 j = I 83 j)
section FBs
variable {c o k : Nat} {I I' I'' : cm_I} {v : Int32}
theorem FS_rfl : FS o I I := ⟨fun _ _ _ _ => rfl, fun _ _ _ _ _ _ => rfl, fun _ _ => rfl⟩
theorem FS_tr (a : FS o I I') (b : FS o I' I'') : FS o I I'' := ⟨fun x h1 h2 h3 => (b.1 x h1 h2 h3).trans (a.1 x h1 h2 h3), fun x h1 h2 h3 h4 h5 => (b.2.1 x h1 h2 h3 h4 h5).trans (a.2.1 x h1 h2 h3 h4 h5), fun j h => (b.2.2 j h).trans (a.2.2 j h)⟩
theorem FS_73 (h : k = 7 ∨ k = 8 ∨ k = 18 ∨ k = 19 ∨ k = 20) : FS o I (cm_u I 73 k v) := ⟨fun b h1 _ _ => cm_u_ne h1, fun j h1 h2 h3 h4 h5 => rdK (by omega), fun j _ => rdB (by decide)⟩
theorem FS_83 (h : o ≤ k) : FS o I (cm_u I 83 k v) := ⟨fun b _ h4 _ => cm_u_ne h4, fun j _ _ _ _ _ => rdB (by decide), fun j h1 => rdK (by omega)⟩
theorem FS_84 : FS o I (cm_u I 84 k v) := ⟨fun b _ _ h5 => cm_u_ne h5, fun j _ _ _ _ _ => rdB (by decide), fun j h1 => rdB (by decide)⟩
theorem FS_A (F : FA I I') : FS o I I' := ⟨fun b h1 _ _ => F.1 b h1, fun j h1 h2 _ _ _ => F.2 j h1 h2, fun j _ => by rw [F.1 83 (by decide)]⟩
theorem FB_rfl : FB c o I I := ⟨fun _ _ _ _ _ _ => rfl, fun _ _ _ _ _ _ => rfl, fun _ _ => ⟨rfl, rfl⟩, fun _ _ => rfl⟩
theorem FB_tr (a : FB c o I I') (b : FB c o I' I'') : FB c o I I'' := ⟨fun x h1 h2 h3 h4 h5 => (b.1 x h1 h2 h3 h4 h5).trans (a.1 x h1 h2 h3 h4 h5), fun x h1 h2 h3 h4 h5 => (b.2.1 x h1 h2 h3 h4 h5).trans (a.2.1 x h1 h2 h3 h4 h5), fun j h => ⟨(b.2.2.1 j h).1.trans (a.2.2.1 j h).1, (b.2.2.1 j h).2.trans (a.2.2.1 j h).2⟩, fun j h => (b.2.2.2 j h).trans (a.2.2.2 j h)⟩
theorem FB_S (a : FS o I I') : FB c o I I' := ⟨fun x h1 h2 h3 h4 h5 => a.1 x h1 h4 h5, a.2.1, fun j _ => ⟨by rw [a.1 81 (by decide) (by decide) (by decide)], by rw [a.1 82 (by decide) (by decide) (by decide)]⟩, a.2.2⟩
theorem FB_81 : FB c o I (cm_u I 81 c v) := ⟨fun b _ h2 _ _ _ => cm_u_ne h2, fun j _ _ _ _ _ => rdB (by decide), fun j h => ⟨rdK h, rdB (by decide)⟩, fun j h1 => rdB (by decide)⟩
theorem FB_82 : FB c o I (cm_u I 82 c v) := ⟨fun b _ _ h3 _ _ => cm_u_ne h3, fun j _ _ _ _ _ => rdB (by decide), fun j h => ⟨rdB (by decide), rdK h⟩, fun j h1 => rdB (by decide)⟩
end FBs
def WS : List Nat → cm_I → Prop
  | [], _ => True
  | x :: W, I => (I 84 W.length = nI x ∧ x < 128) ∧ WS W I
theorem WS_fr {I I' : cm_I} : ∀ {W : List Nat}, (∀ j, j < W.length → I' 84 j = I 84 j) → WS W I → WS W I' := by
  intro W
  induction W with
  | nil => intro _ _; trivial
  | cons x W ih =>
    intro h hw
    exact ⟨⟨by rw [h W.length (by simp)]; exact hw.1.1, hw.1.2⟩, ih (fun j hj => h j (by simp; omega)) hw.2⟩
theorem opW_le : ∀ {W : List Nat}, opW W ≤ W.length := by
  intro W
  induction W with
  | nil => exact Nat.le_refl _
  | cons x W ih =>
    show (if x = 33 ∨ x = 40 then opW W + 1 else opW W) ≤ W.length + 1
    split <;> omega
theorem opW_br {x : Nat} {W : List Nat} (h : x = 33 ∨ x = 40) : opW (x :: W) = opW W + 1 := by
  show (if _ then _ else _) = _
  rw [if_pos h]
def TS (o : Nat) (ts : List Nat) (I : cm_I) : Prop := I 73 18 = nI (o + ts.length) ∧ ∀ j t, ts[j]? = some t → I 83 (o + j) = rtk t
def PS (o : Nat) (W ts : List Nat) (I : cm_I) : Prop := TS o ts I ∧ I 73 19 = nI W.length ∧ I 73 20 = nI (opW W) ∧ WS W I
theorem TS_fr {o : Nat} {ts : List Nat} {I I' : cm_I} (P : TS o ts I) (h1 : I' 73 18 = I 73 18) (h2 : I' 83 = I 83) : TS o ts I' := ⟨h1.trans P.1, by rw [h2]; exact P.2⟩
theorem TS_put {o : Nat} {ts : List Nat} {I : cm_I} {t : Nat} {v : Int32} (P : TS o ts I) (hv : v = rtk t) : TS o (ts ++ [t]) (cm_u (cm_u I 83 (o + ts.length) v) 73 18 (nI (o + ts.length + 1))) := by
  refine ⟨?_, fun j t' h => ?_⟩
  · rw [rdE, List.length_append]; rfl
  · rw [rdB (by decide)]
    have hj := (List.getElem?_eq_some_iff.mp h).1
    rw [List.length_append] at hj
    have hj2 : j < ts.length + 1 := hj
    by_cases e : j = ts.length
    · subst e
      rw [List.getElem?_append_right (Nat.le_refl _), Nat.sub_self] at h
      cases h
      rw [rdE]; exact hv
    · rw [List.getElem?_append_left (by omega)] at h
      rw [rdK (by omega)]
      exact P.2 j t' h
theorem MX_FB {len : Nat} {tx : Nat → Nat} {c o : Nat} {I I' : cm_I} (M : MX len tx I) (F : FB c o I I') : MX len tx I' := MX_fr M (F.2.1 6 (by decide) (by decide) (by decide) (by decide) (by decide)) (F.1 76 (by decide) (by decide) (by decide) (by decide) (by decide))
section M4
variable {l : Launch} {g : cm_G} {I : cm_I} {L : cm_L} {hr tl : Option Nat} {Q : cm_Post} {u len p : Nat} {tx : Nat → Nat}
theorem c_X12_put {k : Nat} {v : Int32} (h : I 73 18 = nI k) (hk : k < 600) (hQ : Q none (cm_u (cm_u I 83 k v) 73 18 (nI (k + 1))) L (RR u hr tl) (DD u)) : cm_Ex l g 1 0 0 mX12_put 0 [.ref 73, .int v] [] I L (RR u hr tl) (DD u) Q := by
  refine x_aldn qX12_put_0 rfl trivial ?_
  refine x_getR qX12_put_1 fX12_59 rfl rfl ?_
  refine x_aldn qX12_put_4 rfl trivial ?_
  refine x_getIe qX12_put_5 fX12_65 rfl h ?_
  refine x_ildn qX12_put_8 rfl ?_
  refine x_iast qX12_put_9 dd_83 rfl (by omega) (by decide) ?_
  refine x_aldn qX12_put_10 rfl trivial ?_
  refine x_dup qX12_put_11 rfl ?_
  refine x_getIe qX12_put_12 fX12_65 rfl (show _ = nI k from by rw [rdB (by decide)]; exact h) ?_
  refine x_iconst (v := nI 1) qX12_put_15 rfl ?_
  refine x_iadd_n qX12_put_16 ?_
  refine x_putI qX12_put_17 fX12_65 (Or.inl rfl) rfl ?_
  refine x_vret qX12_put_20 rfl ?_
  exact hQ
theorem c_X12_whole {o : Nat} : ∀ (W ts : List Nat) (I : cm_I), PS o W ts I → o + ts.length + W.length ≤ 600 → W.length ≤ 101 → (∀ I', PS o (whl W ts).1 (whl W ts).2 I' → I' 73 7 = I 73 7 → FS o I I' → Q none I' L (RR u hr tl) (DD u)) → cm_Ex l g 2 0 0 mX12_whole 0 [.ref 73] [] I L (RR u hr tl) (DD u) Q := by
  intro W
  induction W with
  | nil =>
    intro ts I P hb hb2 hQ
    have h19 : I 73 19 = nI 0 := P.2.1
    refine x_aldn qX12_whole_0 rfl trivial ?_
    refine x_getIe qX12_whole_1 fX12_68 rfl h19 ?_
    refine x_if_le_t (tgt := 52) qX12_whole_4 (by omega) (by decide) ?_
    refine x_vret qX12_whole_52 rfl ?_
    exact hQ I P rfl FS_rfl
  | cons x W ih =>
    intro ts I P hb hb2 hQ
    have h19 : I 73 19 = nI (W.length + 1) := P.2.1
    have hw := P.2.2.2.1
    have hl : (x :: W).length = W.length + 1 := rfl
    rw [hl] at hb hb2
    refine x_aldn qX12_whole_0 rfl trivial ?_
    refine x_getIe qX12_whole_1 fX12_68 rfl h19 ?_
    refine x_if_le_n (tgt := 52) qX12_whole_4 (by omega) (by omega) (fun h => absurd h (by omega)) (fun _ => ?_)
    refine x_aldn qX12_whole_7 rfl trivial ?_
    refine x_getR qX12_whole_8 fX12_62 rfl rfl ?_
    refine x_aldn qX12_whole_11 rfl trivial ?_
    refine x_getIe qX12_whole_12 fX12_68 rfl h19 ?_
    refine x_iconst (v := nI 1) qX12_whole_15 rfl ?_
    refine x_isub_n qX12_whole_16 (by omega) ?_
    refine x_ialde qX12_whole_17 dd_84 rfl (by omega) (by decide) hw.1 ?_
    refine x_bipush (v := nI 33) qX12_whole_18 rfl ?_
    refine x_icmp_ne_n (tgt := 52) qX12_whole_20 (by omega) (by have := hw.2; omega) (by omega) (fun h => ?_) (fun h => ?_)
    · refine x_vret qX12_whole_52 rfl ?_
      have e : whl (x :: W) ts = (x :: W, ts) := by
        show (if x = 33 then _ else _) = _
        rw [if_neg h]
      rw [e] at hQ
      exact hQ I P rfl FS_rfl
    · subst h
      have e : whl (33 :: W) ts = whl W (ts ++ [5033]) := by
        show (if 33 = 33 then _ else _) = _
        rw [if_pos rfl]
      rw [e] at hQ
      have h20 : I 73 20 = nI (opW W + 1) := P.2.2.1
      have ol := @opW_le W
      refine x_aldn qX12_whole_23 rfl trivial ?_
      refine x_bipush (v := -33) qX12_whole_24 rfl ?_
      refine x_cV1 (d' := 1) qX12_whole_26 cX12_170 rfl ⟨_, rfl, rfl⟩ rfl rfl (Nat.le_of_ble_eq_true rfl) (Nat.le_of_ble_eq_true rfl) (by decide) ?_
      refine c_X12_put P.1.1 (by omega) ?_
      refine x_aldn qX12_whole_29 rfl trivial ?_
      refine x_dup qX12_whole_30 rfl ?_
      refine x_getIe qX12_whole_31 fX12_68 rfl (show _ = nI (W.length + 1) from by rw [rdK (by decide), rdB (by decide)]; exact h19) ?_
      refine x_iconst (v := nI 1) qX12_whole_34 rfl ?_
      refine x_isub_n qX12_whole_35 (by omega) ?_
      refine x_putI qX12_whole_36 fX12_68 (Or.inl rfl) rfl ?_
      refine x_aldn qX12_whole_39 rfl trivial ?_
      refine x_dup qX12_whole_40 rfl ?_
      refine x_getIe qX12_whole_41 fX12_71 rfl (show _ = nI (opW W + 1) from by rw [rdK (by decide), rdK (by decide), rdB (by decide)]; exact h20) ?_
      refine x_iconst (v := nI 1) qX12_whole_44 rfl ?_
      refine x_isub_n qX12_whole_45 (by omega) ?_
      refine x_putI qX12_whole_46 fX12_71 (Or.inl rfl) rfl ?_
      refine x_goto (tgt := 0) qX12_whole_49 (by omega) ?_
      have T1 := TS_put (t := 5033) (v := -33) P.1 rfl
      refine ih (ts ++ [5033]) _ ⟨TS_fr T1 ?_ ?_, ?_, ?_, WS_fr (fun j hj => ?_) P.2.2.2.2⟩ (by simp; omega) (by omega) (fun I' P' h7 F => hQ I' P' ?_ (FS_tr (FS_tr (FS_tr (FS_tr (FS_83 (by omega)) (FS_73 (by omega))) (FS_73 (by omega))) (FS_73 (by omega))) F))
      · rw [rdK (by decide), rdK (by decide)]
      · rw [cm_u_ne (by decide), cm_u_ne (by decide)]
      · rw [rdK (by decide), rdE]; rfl
      · rw [rdE]; rfl
      · rw [rdB (by decide), rdB (by decide), rdB (by decide), rdB (by decide)]
      · rw [h7, rdK (by decide), rdK (by decide), rdK (by decide), rdB (by decide)]
theorem c_X12_settle {o b : Nat} (hb128 : b < 128) : ∀ (W ts : List Nat) (I : cm_I), PS o W ts I → o + ts.length + W.length ≤ 600 → W.length ≤ 101 → (∀ I', PS o (stl b W ts).1 (stl b W ts).2 I' → I' 73 7 = I 73 7 → FS o I I' → Q none I' L (RR u hr tl) (DD u)) → cm_Ex l g 2 0 0 mX12_settle 0 [.ref 73, .int (nI b)] [] I L (RR u hr tl) (DD u) Q := by
  intro W
  induction W with
  | nil =>
    intro ts I P hb hb2 hQ
    have h19 : I 73 19 = nI 0 := P.2.1
    refine x_aldn qX12_settle_0 rfl trivial ?_
    refine x_getIe qX12_settle_1 fX12_68 rfl h19 ?_
    refine x_if_le_t (tgt := 72) qX12_settle_4 (by omega) (by decide) ?_
    refine x_vret qX12_settle_72 rfl ?_
    exact hQ I P rfl FS_rfl
  | cons x W ih =>
    intro ts I P hb hb2 hQ
    have h19 : I 73 19 = nI (W.length + 1) := P.2.1
    have hw := P.2.2.2.1
    have hx := hw.2
    have hl : (x :: W).length = W.length + 1 := rfl
    rw [hl] at hb hb2
    have pop : ∀ t, -nI x = rtk t → opW (x :: W) = opW W → stl b (x :: W) ts = stl b W (ts ++ [t]) → cm_Ex l g 2 0 0 mX12_settle 45 [.ref 73, .int (nI b)] [] I L (RR u hr tl) (DD u) Q := fun t ht ho he => by
      rw [he] at hQ
      have h20 : I 73 20 = nI (opW W) := by rw [← ho]; exact P.2.2.1
      refine x_aldn qX12_settle_45 rfl trivial ?_
      refine x_dup qX12_settle_46 rfl ?_
      refine x_getIe qX12_settle_47 fX12_68 rfl h19 ?_
      refine x_iconst (v := nI 1) qX12_settle_50 rfl ?_
      refine x_isub_n qX12_settle_51 (by omega) ?_
      refine x_putI qX12_settle_52 fX12_68 (Or.inl rfl) rfl ?_
      refine x_aldn qX12_settle_55 rfl trivial ?_
      refine x_aldn qX12_settle_56 rfl trivial ?_
      refine x_getR qX12_settle_57 fX12_62 rfl rfl ?_
      refine x_aldn qX12_settle_60 rfl trivial ?_
      refine x_getIe qX12_settle_61 fX12_68 rfl (show _ = nI W.length from by rw [rdE]; rfl) ?_
      refine x_ialde qX12_settle_64 dd_84 rfl (by show W.length < 101; omega) (by decide) (show _ = nI x from by rw [rdB (by decide)]; exact hw.1) ?_
      refine x_ineg qX12_settle_65 ?_
      refine x_topI ht ?_
      refine x_cV1 (d' := 1) qX12_settle_66 cX12_170 rfl ⟨_, rfl, rfl⟩ rfl rfl (Nat.le_of_ble_eq_true rfl) (Nat.le_of_ble_eq_true rfl) (by decide) ?_
      refine c_X12_put (k := o + ts.length) (by rw [rdK (by decide)]; exact P.1.1) (by omega) ?_
      refine x_goto (tgt := 0) qX12_settle_69 (by omega) ?_
      have T0 : TS o ts (cm_u I 73 19 (nI (W.length + 1 - 1))) := TS_fr P.1 (rdK (by decide)) (cm_u_ne (by decide))
      have T1 := TS_put (t := t) T0 rfl
      refine ih (ts ++ [t]) _ ⟨T1, ?_, ?_, WS_fr (fun j hj => ?_) P.2.2.2.2⟩ (by simp; omega) (by omega) (fun I' P' h7 F => hQ I' P' ?_ (FS_tr (FS_tr (FS_tr (FS_73 (by omega)) (FS_83 (by omega))) (FS_73 (by omega))) F))
      · rw [rdK (by decide), rdB (by decide), rdE]; rfl
      · rw [rdK (by decide), rdB (by decide), rdK (by decide)]; exact h20
      · rw [rdB (by decide), rdB (by decide), rdB (by decide)]
      · rw [h7, rdK (by decide), rdB (by decide), rdK (by decide)]
    have stp : stl b (x :: W) ts = (x :: W, ts) → cm_Ex l g 2 0 0 mX12_settle 72 [.ref 73, .int (nI b)] [] I L (RR u hr tl) (DD u) Q := fun e => by
      rw [e] at hQ
      refine x_vret qX12_settle_72 rfl ?_
      exact hQ I P rfl FS_rfl
    refine x_aldn qX12_settle_0 rfl trivial ?_
    refine x_getIe qX12_settle_1 fX12_68 rfl h19 ?_
    refine x_if_le_n (tgt := 72) qX12_settle_4 (by omega) (by omega) (fun h => absurd h (by omega)) (fun _ => ?_)
    refine x_aldn qX12_settle_7 rfl trivial ?_
    refine x_getR qX12_settle_8 fX12_62 rfl rfl ?_
    refine x_aldn qX12_settle_11 rfl trivial ?_
    refine x_getIe qX12_settle_12 fX12_68 rfl h19 ?_
    refine x_iconst (v := nI 1) qX12_settle_15 rfl ?_
    refine x_isub_n qX12_settle_16 (by omega) ?_
    refine x_ialde qX12_settle_17 dd_84 rfl (by omega) (by decide) hw.1 ?_
    refine x_bipush (v := nI 38) qX12_settle_18 rfl ?_
    refine x_icmp_eq_n (tgt := 45) qX12_settle_20 (by omega) (by omega) (by omega) (fun h => ?_) (fun h => ?_)
    · subst h
      refine pop 5038 (by decide) (opW_op (Or.inl rfl)) ?_
      show (if 38 = 38 then _ else _) = _
      rw [if_pos rfl]
    · refine x_aldn qX12_settle_23 rfl trivial ?_
      refine x_getR qX12_settle_24 fX12_62 rfl rfl ?_
      refine x_aldn qX12_settle_27 rfl trivial ?_
      refine x_getIe qX12_settle_28 fX12_68 rfl h19 ?_
      refine x_iconst (v := nI 1) qX12_settle_31 rfl ?_
      refine x_isub_n qX12_settle_32 (by omega) ?_
      refine x_ialde qX12_settle_33 dd_84 rfl (by omega) (by decide) hw.1 ?_
      refine x_bipush (v := nI 124) qX12_settle_34 rfl ?_
      refine x_icmp_ne_n (tgt := 72) qX12_settle_36 (by omega) (by omega) (by omega) (fun h2 => stp ?_) (fun h2 => ?_)
      · show (if x = 38 then _ else if x = 124 ∧ b ≠ 38 then _ else _) = _
        rw [if_neg h, if_neg (by omega)]
      · refine x_ildn qX12_settle_39 rfl ?_
        refine x_bipush (v := nI 38) qX12_settle_40 rfl ?_
        subst h2
        refine x_icmp_eq_n (tgt := 72) qX12_settle_42 (by omega) (by omega) (by omega) (fun h3 => stp ?_) (fun h3 => ?_)
        · show (if 124 = 38 then _ else if 124 = 124 ∧ b ≠ 38 then _ else _) = _
          rw [if_neg (by omega), if_neg (by omega)]
        · refine pop 5124 (by decide) (opW_op (Or.inr rfl)) ?_
          show (if 124 = 38 then _ else if 124 = 124 ∧ b ≠ 38 then _ else _) = _
          rw [if_neg (by omega), if_pos (by omega)]
theorem c_X12_takesTest {o B : Nat} {W ts : List Nat} (T : MX len tx I) (hp : I 73 7 = nI p) (hpl : p ≤ len) (P : PS o W ts I) (hB : o + ts.length + W.length ≤ B + p) (hB5 : B ≤ 500) (hBo : B ≤ o) (hok : ∀ p' t I', pTest (pk len tx) p = (p', some t) → p' ≤ len → o + (whl W (ts ++ [t])).2.length + (whl W (ts ++ [t])).1.length ≤ B + p' → I' 73 7 = nI p' → PS o (whl W (ts ++ [t])).1 (whl W (ts ++ [t])).2 I' → FS o I I' → Q (some (.int 1)) I' L (RR u hr tl) (DD u)) (hno : ∀ p' I', pTest (pk len tx) p = (p', none) → p' ≤ len → I' 73 7 = nI p' → FS o I I' → Q (some (.int 0)) I' L (RR u hr tl) (DD u)) : cm_Ex l g 4 0 0 mX12_takesTest 0 [.ref 73, .float 0, .float 0, .float 0] [] I L (RR u hr tl) (DD u) Q := by
  have hl := T.2.1
  have hcc := pkb (fun p h => (T.2.2 p h).2)
  have hc := hcc p
  have rvt := rv_toInt
  have e97 : (nI 97).toInt = 97 := by decide
  have e100 : (nI 100).toInt = 100 := by decide
  have e60 : (nI 60).toInt = 60 := by decide
  have e62 : (nI 62).toInt = 62 := by decide
  have wsum : ∀ (W ts : List Nat), (whl W ts).2.length + (whl W ts).1.length = ts.length + W.length := by
    intro W
    induction W with
    | nil => intro ts; rfl
    | cons x W ih =>
      intro ts
      show (if x = 33 then whl W (ts ++ [5033]) else (x :: W, ts)).2.length + (if x = 33 then whl W (ts ++ [5033]) else (x :: W, ts)).1.length = _
      split
      · rw [ih]; simp; omega
      · rfl
  refine x_aldn qX12_takesTest_0 rfl trivial ?_
  refine x_cV0 (d' := 1) qX12_takesTest_1 cX12_160 rfl ⟨_, rfl, rfl⟩ rfl rfl (Nat.le_of_ble_eq_true rfl) (Nat.le_of_ble_eq_true rfl) (by decide) ?_
  refine c_X12_next T hp (by omega) ?_
  refine x_ist1 qX12_takesTest_4 (by decide) rfl ?_
  have main : ∀ f, pOne 5 (pk len tx) p = (p + 1, some f) → f < 5 → pk len tx p < 256 → cm_Ex l g 4 0 0 mX12_takesTest 42 [.ref 73, .int (rvI (pk len tx p)), .int (nI f), .float 0] [] I L (RR u hr tl) (DD u) Q := fun f hf hf5 hc256 => by
    have hp1 := pkc_lt (len := len) (tx := tx) (p := p) rfl hc256
    have hc1 := hcc (p + 1)
    have F1 : FA I (cm_u I 73 7 (nI (p + 1))) := FA_7
    refine x_aldn qX12_takesTest_42 rfl trivial ?_
    refine x_dup qX12_takesTest_43 rfl ?_
    refine x_getIe qX12_takesTest_44 fX12_32 rfl hp ?_
    refine x_iconst (v := nI 1) qX12_takesTest_47 rfl ?_
    refine x_iadd_n qX12_takesTest_48 ?_
    refine x_putI qX12_takesTest_49 fX12_32 (Or.inl rfl) rfl ?_
    refine x_aldn qX12_takesTest_52 rfl trivial ?_
    refine x_cV0 (d' := 1) qX12_takesTest_53 cX12_160 rfl ⟨_, rfl, rfl⟩ rfl rfl (Nat.le_of_ble_eq_true rfl) (Nat.le_of_ble_eq_true rfl) (by decide) ?_
    refine c_X12_next (MX_FA T F1) rdE (by omega) ?_
    refine x_ist3 qX12_takesTest_56 (by decide) rfl ?_
    refine x_aldn qX12_takesTest_57 rfl trivial ?_
    refine x_ildn qX12_takesTest_58 rfl ?_
    refine x_bipush (v := nI 60) qX12_takesTest_59 rfl ?_
    refine x_bipush (v := nI 62) qX12_takesTest_61 rfl ?_
    refine x_cV3 (d' := 1) qX12_takesTest_63 cX12_149 rfl ⟨_, rfl, rfl⟩ rfl rfl (Nat.le_of_ble_eq_true rfl) (Nat.le_of_ble_eq_true rfl) (by decide) ?_
    refine c_X12_in (fun h => ?_) (fun h => ?_)
    · rw [e60, e62, rvt _ hc1] at h
      have hd : 60 ≤ pk len tx (p + 1) ∧ pk len tx (p + 1) ≤ 62 := by split at h <;> (try split at h) <;> omega
      have hp2 := pkc_lt (len := len) (tx := tx) (p := p + 1) rfl (by omega)
      have hs : pOne 6 (pk len tx) (p + 1) = (p + 1 + 1, some (pk len tx (p + 1) - 60)) := pOne_yes (by rw [fnd_6 _ hc1, if_pos hd])
      have F2 : FA I (cm_u (cm_u I 73 7 (nI (p + 1))) 73 7 (nI (p + 1 + 1))) := FA_tr FA_7 FA_7
      refine x_if_ne_t (tgt := 71) qX12_takesTest_66 (by omega) (by decide) ?_
      refine x_aldn qX12_takesTest_71 rfl trivial ?_
      refine x_dup qX12_takesTest_72 rfl ?_
      refine x_getIe qX12_takesTest_73 fX12_32 rfl (show _ = nI (p + 1) from rdE) ?_
      refine x_iconst (v := nI 1) qX12_takesTest_76 rfl ?_
      refine x_iadd_n qX12_takesTest_77 ?_
      refine x_putI qX12_takesTest_78 fX12_32 (Or.inl rfl) rfl ?_
      refine x_aldn qX12_takesTest_81 rfl trivial ?_
      refine x_iconst (v := nI 2) qX12_takesTest_82 rfl ?_
      refine x_cV1 (d' := 3) qX12_takesTest_83 cX12_174 rfl ⟨_, rfl, rfl⟩ rfl rfl (Nat.le_of_ble_eq_true rfl) (Nat.le_of_ble_eq_true rfl) (by decide) ?_
      refine c_X12_takesNumber (MX_FA T F2) rdE (by omega) (by decide) (by decide) (fun p' x I' hn h7 h8 F3 => ?_) (fun p' hn e => ?_)
      · obtain ⟨n1, n2, n3⟩ := pNum_some hn
        have F4 := FA_tr F2 F3
        have ht : pTest (pk len tx) p = (p', some (1000 * f + 100 * (pk len tx (p + 1) - 60) + x)) := by
          unfold pTest
          rw [hf]
          show pbd (pOne 6 (pk len tx) (p + 1)) _ = _
          rw [hs]
          show pbd (pNum (pk len tx) 2 (p + 1 + 1)) _ = _
          rw [hn]; rfl
        refine x_if_ne_t (tgt := 91) qX12_takesTest_86 (by omega) (by decide) ?_
        refine x_aldn qX12_takesTest_91 rfl trivial ?_
        refine x_sipush (v := nI 1000) qX12_takesTest_92 rfl ?_
        refine x_ildn qX12_takesTest_95 rfl ?_
        refine x_imul_n qX12_takesTest_96 ?_
        refine x_bipush (v := nI 100) qX12_takesTest_97 rfl ?_
        refine x_ildn qX12_takesTest_99 rfl ?_
        refine x_topI (rv_nI (by omega)) ?_
        refine x_bipush (v := nI 60) qX12_takesTest_100 rfl ?_
        refine x_isub_n qX12_takesTest_102 (by omega) ?_
        refine x_imul_n qX12_takesTest_103 ?_
        refine x_iadd_n qX12_takesTest_104 ?_
        refine x_aldn qX12_takesTest_105 rfl trivial ?_
        refine x_getIe qX12_takesTest_106 fX12_35 rfl h8 ?_
        refine x_iadd_n qX12_takesTest_109 ?_
        refine x_cV1 (d' := 1) qX12_takesTest_110 cX12_170 rfl ⟨_, rfl, rfl⟩ rfl rfl (Nat.le_of_ble_eq_true rfl) (Nat.le_of_ble_eq_true rfl) (by decide) ?_
        have P4 : TS o ts I' := TS_fr P.1 (F4.2 18 (by decide) (by decide)) (F4.1 83 (by decide))
        refine c_X12_put P4.1 (by omega) ?_
        refine x_aldn qX12_takesTest_113 rfl trivial ?_
        refine x_cV0 (d' := 2) qX12_takesTest_114 cX12_177 rfl ⟨_, rfl, rfl⟩ rfl rfl (Nat.le_of_ble_eq_true rfl) (Nat.le_of_ble_eq_true rfl) (by decide) ?_
        have hx : x < 100 := n3
        have T5 := TS_put (t := 1000 * f + 100 * (pk len tx (p + 1) - 60) + x) (v := nI (1000 * f + 100 * (pk len tx (p + 1) - 60) + x)) P4 (by unfold rtk; rw [if_neg (by omega), if_neg (by omega), if_neg (by omega)])
        have P5 : PS o W (ts ++ [1000 * f + 100 * (pk len tx (p + 1) - 60) + x]) _ := ⟨T5, by rw [rdK (by decide), rdB (by decide), F4.2 19 (by decide) (by decide)]; exact P.2.1, by rw [rdK (by decide), rdB (by decide), F4.2 20 (by decide) (by decide)]; exact P.2.2.1, WS_fr (fun j _ => by rw [rdB (by decide), rdB (by decide), F4.1 84 (by decide)]) P.2.2.2⟩
        have wl := wsum W (ts ++ [1000 * f + 100 * (pk len tx (p + 1) - 60) + x])
        have el : (ts ++ [1000 * f + 100 * (pk len tx (p + 1) - 60) + x]).length = ts.length + 1 := by simp
        refine c_X12_whole W _ _ P5 (by omega) (by omega) (fun I6 P6 h76 F6 => ?_)
        refine x_iconst (v := nI 1) qX12_takesTest_117 rfl ?_
        refine x_iret qX12_takesTest_118 rfl rfl ?_
        exact hok p' _ I6 ht n2 (by omega) (by rw [h76, rdK (by decide), rdB (by decide)]; exact h7) P6 (FS_tr (FS_tr (FS_A F4) (FS_tr (FS_83 (by omega)) (FS_73 (by omega)))) F6)
      · refine x_if_ne_f (tgt := 91) qX12_takesTest_86 (by omega) (by decide) ?_
        refine x_iconst (v := nI 0) qX12_takesTest_89 rfl ?_
        refine x_iret qX12_takesTest_90 rfl rfl ?_
        subst e
        refine hno (p + 1 + 1) _ ?_ (by omega) rdE (FS_A F2)
        unfold pTest
        rw [hf]
        show pbd (pOne 6 (pk len tx) (p + 1)) _ = _
        rw [hs]
        show pbd (pNum (pk len tx) 2 (p + 1 + 1)) _ = _
        rw [hn]; rfl
    · rw [e60, e62, rvt _ hc1] at h
      have hd : ¬ (60 ≤ pk len tx (p + 1) ∧ pk len tx (p + 1) ≤ 62) := fun e => h (by rw [if_pos (by omega)]; omega)
      refine x_if_ne_f (tgt := 71) qX12_takesTest_66 (by omega) (by decide) ?_
      refine x_iconst (v := nI 0) qX12_takesTest_69 rfl ?_
      refine x_iret qX12_takesTest_70 rfl rfl ?_
      refine hno (p + 1) _ ?_ (by omega) rdE (FS_A F1)
      unfold pTest
      rw [hf]
      show pbd (pOne 6 (pk len tx) (p + 1)) _ = _
      rw [pOne_no (by rw [fnd_6 _ hc1, if_neg hd])]
      rfl
  refine x_aldn qX12_takesTest_5 rfl trivial ?_
  refine x_ildn qX12_takesTest_6 rfl ?_
  refine x_bipush (v := nI 97) qX12_takesTest_7 rfl ?_
  refine x_bipush (v := nI 100) qX12_takesTest_9 rfl ?_
  refine x_cV3 (d' := 1) qX12_takesTest_11 cX12_149 rfl ⟨_, rfl, rfl⟩ rfl rfl (Nat.le_of_ble_eq_true rfl) (Nat.le_of_ble_eq_true rfl) (by decide) ?_
  refine c_X12_in (fun h => ?_) (fun h => ?_)
  · rw [e97, e100, rvt _ hc] at h
    have hd : 97 ≤ pk len tx p ∧ pk len tx p ≤ 100 := by split at h <;> (try split at h) <;> omega
    refine x_if_eq_f (tgt := 24) qX12_takesTest_14 (by omega) (by decide) ?_
    refine x_ildn qX12_takesTest_17 rfl ?_
    refine x_topI (rv_nI (by omega)) ?_
    refine x_bipush (v := nI 97) qX12_takesTest_18 rfl ?_
    refine x_isub_n qX12_takesTest_20 (by omega) ?_
    refine x_goto (tgt := 35) qX12_takesTest_21 (by omega) ?_
    refine x_ist2 qX12_takesTest_35 (by decide) rfl ?_
    refine x_ildn qX12_takesTest_36 rfl ?_
    refine x_if_ge_nt (tgt := 42) qX12_takesTest_37 (by omega) (by omega) ?_
    exact main _ (pOne_yes (by rw [fnd_5 _ hc, if_pos hd])) (by omega) (by omega)
  · rw [e97, e100, rvt _ hc] at h
    have hd : ¬ (97 ≤ pk len tx p ∧ pk len tx p ≤ 100) := fun e => h (by rw [if_pos (by omega)]; omega)
    refine x_if_eq_t (tgt := 24) qX12_takesTest_14 (by omega) (by decide) ?_
    refine x_ildn qX12_takesTest_24 rfl ?_
    refine x_bipush (v := nI 114) qX12_takesTest_25 rfl ?_
    refine x_icmp_ne (tgt := 34) qX12_takesTest_27 (by omega) (fun h2 => ?_) (fun h2 => ?_)
    · rw [rv_eq _ hc 114 (by decide)] at h2
      refine x_iconst (v := -1) qX12_takesTest_34 rfl ?_
      refine x_ist2 qX12_takesTest_35 (by decide) rfl ?_
      refine x_ildn qX12_takesTest_36 rfl ?_
      refine x_if_ge_f (tgt := 42) qX12_takesTest_37 (by omega) (by decide) ?_
      refine x_iconst (v := nI 0) qX12_takesTest_40 rfl ?_
      refine x_iret qX12_takesTest_41 rfl rfl ?_
      refine hno p I ?_ hpl hp FS_rfl
      unfold pTest
      rw [pOne_no (by rw [fnd_5 _ hc, if_neg hd, if_neg h2])]
      rfl
    · rw [rv_eq _ hc 114 (by decide)] at h2
      refine x_iconst (v := nI 4) qX12_takesTest_30 rfl ?_
      refine x_goto (tgt := 35) qX12_takesTest_31 (by omega) ?_
      refine x_ist2 qX12_takesTest_35 (by decide) rfl ?_
      refine x_ildn qX12_takesTest_36 rfl ?_
      refine x_if_ge_t (tgt := 42) qX12_takesTest_37 (by omega) (by decide) ?_
      exact main 4 (pOne_yes (by rw [fnd_5 _ hc, if_neg hd, if_pos h2])) (by omega) (by omega)
end M4
