/-! the reference's reader: clauses, a house -/
def fgr (c : Nat → Nat) (p : Nat) : Nat × Option Nat := pbd (pOne 4 c p) fun p1 a => pbd (pSg 32 c p1) fun p2 _ => (p2, some a)
theorem pTab_eq {c : Nat → Nat} {w p : Nat} : pTab c w p = pbd (fgr c p) fun p2 a => pbd (fgr c p2) fun p4 b => pbd (pNum c 3 p4) fun p5 x => (p5, some (w, 4 * a + b, x, [])) := by
  unfold pTab fgr
  cases pOne 4 c p with
  | mk p1 o =>
    cases o with
    | none => rfl
    | some a =>
      show pbd (pSg 32 c p1) _ = pbd (pbd (pSg 32 c p1) _) _
      cases pSg 32 c p1 with
      | mk p2 o2 =>
        cases o2 with
        | none => rfl
        | some _ =>
          show pbd (pOne 4 c p2) _ = pbd (pbd (pOne 4 c p2) _) _
          cases pOne 4 c p2 with
          | mk p3 o3 =>
            cases o3 with
            | none => rfl
            | some b =>
              show pbd (pSg 32 c p3) _ = pbd (pbd (pSg 32 c p3) _) _
              cases pSg 32 c p3 with
              | mk p4 o4 =>
                cases o4 with
                | none => rfl
                | some _ => rfl
def FC (c o : Nat) (I I' : cm_I) : Prop := (∀ b, b ≠ 73 → (b < 78 ∨ 84 < b) → I' b = I b) ∧ (∀ k, k ≠ 7 → k ≠ 8 → k ≠ 18 → k ≠ 19 → k ≠ 20 → I' 73 k = I 73 k) ∧ (∀ b, 78 ≤ b → b ≤ 82 → ∀ j, j ≠ c → I' b j = I b j) ∧ (∀ j, j < o → I' 83 j = I 83 j)
def FT (c : Nat) (I I' : cm_I) : Prop := (∀ b, b ≠ 73 → b ≠ 79 → b ≠ 80 → I' b = I b) ∧ (∀ k, k ≠ 7 → k ≠ 8 → I' 73 k = I 73 k) ∧ (∀ j, j ≠ c → I' 79 j = I 79 j ∧ I' 80 j = I 80 j)
section FCs
variable {c o k : Nat} {I I' I'' : cm_I} {v : Int32}
theorem FC_tr (a : FC c o I I') (b : FC c o I' I'') : FC c o I I'' := ⟨fun x h1 h2 => (b.1 x h1 h2).trans (a.1 x h1 h2), fun x h1 h2 h3 h4 h5 => (b.2.1 x h1 h2 h3 h4 h5).trans (a.2.1 x h1 h2 h3 h4 h5), fun x h1 h2 j h => (b.2.2.1 x h1 h2 j h).trans (a.2.2.1 x h1 h2 j h), fun j h => (b.2.2.2 j h).trans (a.2.2.2 j h)⟩
theorem FC_A (F : FA I I') : FC c o I I' := ⟨fun b h1 _ => F.1 b h1, fun j h1 h2 _ _ _ => F.2 j h1 h2, fun b h1 h2 j _ => by rw [F.1 b (by omega)], fun j _ => by rw [F.1 83 (by decide)]⟩
theorem FC_B (F : FB c o I I') : FC c o I I' := ⟨fun b h1 h2 => F.1 b h1 (by omega) (by omega) (by omega) (by omega), F.2.1, fun b h1 h2 j h => by
  by_cases e : b = 81
  · subst e; exact (F.2.2.1 j h).1
  · by_cases e2 : b = 82
    · subst e2; exact (F.2.2.1 j h).2
    · rw [F.1 b (by omega) e e2 (by omega) (by omega)], F.2.2.2⟩
theorem FC_T (F : FT c I I') : FC c o I I' := ⟨fun b h1 h2 => F.1 b h1 (by omega) (by omega), fun j h1 h2 _ _ _ => F.2.1 j h1 h2, fun b h1 h2 j h => by
  by_cases e : b = 79
  · subst e; exact (F.2.2 j h).1
  · by_cases e2 : b = 80
    · subst e2; exact (F.2.2 j h).2
    · rw [F.1 b (by omega) e e2], fun j _ => by rw [F.1 83 (by decide) (by decide) (by decide)]⟩
theorem FC_78 : FC c o I (cm_u I 78 c v) := ⟨fun b h1 h2 => cm_u_ne (by omega), fun j _ _ _ _ _ => rdB (by decide), fun b h1 h2 j h => by
  by_cases e : b = 78
  · subst e; exact rdK h
  · exact rdB e, fun j h1 => rdB (by decide)⟩
theorem FT_tr (a : FT c I I') (b : FT c I' I'') : FT c I I'' := ⟨fun x h1 h2 h3 => (b.1 x h1 h2 h3).trans (a.1 x h1 h2 h3), fun x h1 h2 => (b.2.1 x h1 h2).trans (a.2.1 x h1 h2), fun j h => ⟨(b.2.2 j h).1.trans (a.2.2 j h).1, (b.2.2 j h).2.trans (a.2.2 j h).2⟩⟩
theorem FT_A (F : FA I I') : FT c I I' := ⟨fun b h1 _ _ => F.1 b h1, F.2, fun j _ => ⟨by rw [F.1 79 (by decide)], by rw [F.1 80 (by decide)]⟩⟩
theorem FT_79 : FT c I (cm_u I 79 c v) := ⟨fun b _ h2 _ => cm_u_ne h2, fun j _ _ => rdB (by decide), fun j h => ⟨rdK h, rdB (by decide)⟩⟩
theorem FT_80 : FT c I (cm_u I 80 c v) := ⟨fun b _ _ h3 => cm_u_ne h3, fun j _ _ => rdB (by decide), fun j h => ⟨rdB (by decide), rdK h⟩⟩
end FCs
theorem MX_FT {len : Nat} {tx : Nat → Nat} {c : Nat} {I I' : cm_I} (M : MX len tx I) (F : FT c I I') : MX len tx I' := MX_fr M (F.2.1 6 (by decide) (by decide)) (F.1 76 (by decide) (by decide) (by decide))
theorem MX_FC {len : Nat} {tx : Nat → Nat} {c o : Nat} {I I' : cm_I} (M : MX len tx I) (F : FC c o I I') : MX len tx I' := MX_fr M (F.2.1 6 (by decide) (by decide) (by decide) (by decide) (by decide)) (F.1 76 (by decide) (by decide))
theorem swo : ∀ c, c < 257 → Op.lookupswitch.offset [(98, 59), (116, 28)] 91 (rvI c).toInt = if c = 98 then 59 else if c = 116 then 28 else 91 := by decide +kernel
theorem pWd_two {c : Nat → Nat} {a b p p' : Nat} {r : List Nat} (h : pWd c (a :: b :: r) p = (p', some ())) : c p = a ∧ c (p + 1) = b := by
  have h' : (if c p = a then (if c (p + 1) = b then pWd c r (p + 1 + 1) else (p + 1, none)) else (p, none)) = (p', some ()) := h
  by_cases e : c p = a
  · rw [if_pos e] at h'
    by_cases e2 : c (p + 1) = b
    · exact ⟨e, e2⟩
    · rw [if_neg e2] at h'; cases h'
  · rw [if_neg e] at h'; cases h'
theorem pWd_0 {c : Nat → Nat} {a p : Nat} {r : List Nat} (h : c p ≠ a) : pWd c (a :: r) p = (p, none) := by
  show (if c p = a then _ else _) = _
  rw [if_neg h]
theorem pWd_1 {c : Nat → Nat} {a b p : Nat} {r : List Nat} (h : c p = a) (h2 : c (p + 1) ≠ b) : pWd c (a :: b :: r) p = (p + 1, none) := by
  show (if c p = a then (if c (p + 1) = b then _ else _) else _) = _
  rw [if_pos h, if_neg h2]
theorem okr_mem : ∀ {ts : List Nat} {h : Nat}, okr ts h → ∀ t, t ∈ ts → t < 5000 ∨ t = 5033 ∨ t = 5038 ∨ t = 5124 := by
  intro ts
  induction ts with
  | nil => intro h _ t ht; cases ht
  | cons x ts ih =>
    intro h ho t ht
    have ho' : if x = 5033 then 1 ≤ h ∧ okr ts h else if x = 5038 ∨ x = 5124 then 2 ≤ h ∧ okr ts (h - 1) else (x / 1000 < 5 ∧ x / 100 % 10 < 3 ∧ h < 24) ∧ okr ts (h + 1) := ho
    by_cases e : x = 5033
    · rw [if_pos e] at ho'
      rcases List.mem_cons.mp ht with q | q
      · exact Or.inr (Or.inl (by omega))
      · exact ih ho'.2 t q
    · rw [if_neg e] at ho'
      by_cases e2 : x = 5038 ∨ x = 5124
      · rw [if_pos e2] at ho'
        rcases List.mem_cons.mp ht with q | q
        · exact Or.inr (Or.inr (by omega))
        · exact ih ho'.2 t q
      · rw [if_neg e2] at ho'
        rcases List.mem_cons.mp ht with q | q
        · exact Or.inl (by omega)
        · exact ih ho'.2 t q
theorem pWd_ge {c : Nat → Nat} : ∀ {bs : List Nat} {p p' : Nat}, pWd c bs p = (p', some ()) → p ≤ p' := by
  intro bs
  induction bs with
  | nil => intro p p' h; cases h; exact Nat.le_refl _
  | cons b bs ih =>
    intro p p' h
    have h' : (if c p = b then pWd c bs (p + 1) else (p, none)) = (p', some ()) := h
    by_cases e : c p = b
    · rw [if_pos e] at h'; have := ih h'; omega
    · rw [if_neg e] at h'; cases h'
theorem pTab_ge {len : Nat} {tx : Nat → Nat} {w p p' : Nat} {cl : Cls} (h : pTab (pk len tx) w p = (p', some cl)) : p ≤ p' := by
  obtain ⟨p1, a, h1, h⟩ := pbd_some h
  obtain ⟨p2, _, h2, h⟩ := pbd_some h
  obtain ⟨p3, b, h3, h⟩ := pbd_some h
  obtain ⟨p4, _, h4, h⟩ := pbd_some h
  obtain ⟨p5, x, h5, h⟩ := pbd_some h
  obtain ⟨q1, q2, q3⟩ := pNum_some h5
  have e1 := pOne_some (by decide) h1
  have e3 := pOne_some (by decide) h3
  have sg : ∀ {q q' : Nat}, pSg 32 (pk len tx) q = (q', some ()) → q ≤ q' := by
    intro q q' h
    unfold pSg at h
    split at h
    · cases h; omega
    · cases h
  have e2 := sg h2
  have e4 := sg h4
  cases h
  omega
section M6
variable {l : Launch} {g : cm_G} {I : cm_I} {L : cm_L} {hr tl : Option Nat} {Q : cm_Post} {u len p : Nat} {tx : Nat → Nat}
theorem c_X12_takesState {c : Nat} (T : MX len tx I) (hp : I 73 7 = nI p) (hpl : p ≤ len) (hc72 : c < 72) (hok : ∀ p' i x I', (∀ w, pTab (pk len tx) w p = (p', some (w, i, x, []))) → p' ≤ len → I' 73 7 = nI p' → I' 79 c = nI i → I' 80 c = nI x → x ≤ 999 → i < 16 → FT c I I' → Q (some (.int 1)) I' L (RR u hr tl) (DD u)) (hno : ∀ p' I', (∀ w, pTab (pk len tx) w p = (p', none)) → p' ≤ len → I' 73 7 = nI p' → FT c I I' → Q (some (.int 0)) I' L (RR u hr tl) (DD u)) : cm_Ex l g 4 0 0 mX12_takesState 0 [.ref 73, .int (nI c)] [] I L (RR u hr tl) (DD u) Q := by
  refine x_aldn qX12_takesState_0 rfl trivial ?_
  refine x_cV0 (d' := 3) qX12_takesState_1 cX12_186 rfl ⟨_, rfl, rfl⟩ rfl rfl (Nat.le_of_ble_eq_true rfl) (Nat.le_of_ble_eq_true rfl) (by decide) ?_
  refine c_X12_takesFigure T hp hpl (fun p1 a I1 h1 l1 a4 h17 h18 F1 => ?_) (fun p1 I1 h1 l1 h17 F1 => ?_)
  · have h1' : fgr (pk len tx) p = (p1, some a) := h1
    have G1 : FT c I (cm_u I1 79 c (nI (4 * a))) := FT_tr (FT_A F1) FT_79
    refine x_if_ne_t (tgt := 9) qX12_takesState_4 (by omega) (by decide) ?_
    refine x_aldn qX12_takesState_9 rfl trivial ?_
    refine x_getR qX12_takesState_10 fX12_47 rfl rfl ?_
    refine x_ildn qX12_takesState_13 rfl ?_
    refine x_iconst (v := nI 4) qX12_takesState_14 rfl ?_
    refine x_aldn qX12_takesState_15 rfl trivial ?_
    refine x_getIe qX12_takesState_16 fX12_35 rfl h18 ?_
    refine x_imul_n qX12_takesState_19 ?_
    refine x_iast qX12_takesState_20 dd_79 rfl (by omega) (by decide) ?_
    refine x_aldn qX12_takesState_21 rfl trivial ?_
    refine x_cV0 (d' := 3) qX12_takesState_22 cX12_186 rfl ⟨_, rfl, rfl⟩ rfl rfl (Nat.le_of_ble_eq_true rfl) (Nat.le_of_ble_eq_true rfl) (by decide) ?_
    refine c_X12_takesFigure (MX_FT T G1) (by rw [rdB (by decide)]; exact h17) l1 (fun p2 b I2 h2 l2 b4 h27 h28 F2 => ?_) (fun p2 I2 h2 l2 h27 F2 => ?_)
    · have h2' : fgr (pk len tx) p1 = (p2, some b) := h2
      have G2 : FT c I (cm_u I2 79 c (nI (4 * a + b))) := FT_tr (FT_tr G1 (FT_A F2)) FT_79
      refine x_if_ne_t (tgt := 30) qX12_takesState_25 (by omega) (by decide) ?_
      refine x_aldn qX12_takesState_30 rfl trivial ?_
      refine x_getR qX12_takesState_31 fX12_47 rfl rfl ?_
      refine x_ildn qX12_takesState_34 rfl ?_
      refine x_dup2 qX12_takesState_35 rfl rfl ?_
      refine x_ialde qX12_takesState_36 dd_79 rfl (by omega) (by decide) (show _ = nI (4 * a) from by rw [F2.1 79 (by decide), rdE]) ?_
      refine x_aldn qX12_takesState_37 rfl trivial ?_
      refine x_getIe qX12_takesState_38 fX12_35 rfl h28 ?_
      refine x_iadd_n qX12_takesState_41 ?_
      refine x_iast qX12_takesState_42 dd_79 rfl (by omega) (by decide) ?_
      refine x_aldn qX12_takesState_43 rfl trivial ?_
      refine x_iconst (v := nI 3) qX12_takesState_44 rfl ?_
      refine x_cV1 (d' := 3) qX12_takesState_45 cX12_174 rfl ⟨_, rfl, rfl⟩ rfl rfl (Nat.le_of_ble_eq_true rfl) (Nat.le_of_ble_eq_true rfl) (by decide) ?_
      refine c_X12_takesNumber (MX_FT T G2) (by rw [rdB (by decide)]; exact h27) l2 (by decide) (by decide) (fun p3 x I3 h3 h37 h38 F3 => ?_) (fun p3 h3 e => ?_)
      · obtain ⟨n1, n2, n3⟩ := pNum_some h3
        have hx : x < 1000 := n3
        refine x_if_ne_t (tgt := 53) qX12_takesState_48 (by omega) (by decide) ?_
        refine x_aldn qX12_takesState_53 rfl trivial ?_
        refine x_getR qX12_takesState_54 fX12_50 rfl rfl ?_
        refine x_ildn qX12_takesState_57 rfl ?_
        refine x_aldn qX12_takesState_58 rfl trivial ?_
        refine x_getIe qX12_takesState_59 fX12_35 rfl h38 ?_
        refine x_iast qX12_takesState_62 dd_80 rfl (by omega) (by decide) ?_
        refine x_iconst (v := nI 1) qX12_takesState_63 rfl ?_
        refine x_iret qX12_takesState_64 rfl rfl ?_
        refine hok p3 (4 * a + b) x _ (fun w => ?_) n2 (by rw [rdB (by decide)]; exact h37) (by rw [rdB (by decide), F3.1 79 (by decide), rdE]) rdE (by omega) (by omega) (FT_tr (FT_tr G2 (FT_A F3)) FT_80)
        rw [pTab_eq, h1']
        show pbd (fgr (pk len tx) p1) _ = _
        rw [h2']
        show pbd (pNum (pk len tx) 3 p2) _ = _
        rw [h3]; rfl
      · refine x_if_ne_f (tgt := 53) qX12_takesState_48 (by omega) (by decide) ?_
        refine x_iconst (v := nI 0) qX12_takesState_51 rfl ?_
        refine x_iret qX12_takesState_52 rfl rfl ?_
        refine hno p3 _ (fun w => ?_) (by omega) (by rw [rdB (by decide), e]; exact h27) G2
        rw [pTab_eq, h1']
        show pbd (fgr (pk len tx) p1) _ = _
        rw [h2']
        show pbd (pNum (pk len tx) 3 p2) _ = _
        rw [h3]; rfl
    · have h2' : fgr (pk len tx) p1 = (p2, none) := h2
      refine x_if_ne_f (tgt := 30) qX12_takesState_25 (by omega) (by decide) ?_
      refine x_iconst (v := nI 0) qX12_takesState_28 rfl ?_
      refine x_iret qX12_takesState_29 rfl rfl ?_
      refine hno p2 I2 (fun w => ?_) l2 h27 (FT_tr G1 (FT_A F2))
      rw [pTab_eq, h1']
      show pbd (fgr (pk len tx) p1) _ = _
      rw [h2']; rfl
  · have h1' : fgr (pk len tx) p = (p1, none) := h1
    refine x_if_ne_f (tgt := 9) qX12_takesState_4 (by omega) (by decide) ?_
    refine x_iconst (v := nI 0) qX12_takesState_7 rfl ?_
    refine x_iret qX12_takesState_8 rfl rfl ?_
    refine hno p1 I1 (fun w => ?_) l1 h17 (FT_A F1)
    rw [pTab_eq, h1']; rfl
theorem c_X12_takesClause {h c o : Nat} (T : MX len tx I) (hp : I 73 7 = nI p) (hpl : p ≤ len) (hs : I 73 18 = nI o) (hc72 : c < 72) (hh : h < 6) (ho : 100 * h ≤ o) (hB : o ≤ 100 * h + p) (hok : ∀ p' cl o' I', pCl (pk len tx) p = (p', some cl) → p' ≤ len → I' 73 7 = nI p' → MC h c cl I' → I' 73 18 = nI o' → o ≤ o' → o' ≤ 100 * h + p' → (cl.1 = 2 → ∃ o1, I' 81 c = nI o1 ∧ o1 < 1000 ∧ o1 + cl.2.2.2.length ≤ o') → FC c o I I' → Q (some (.int 1)) I' L (RR u hr tl) (DD u)) (hno : ∀ p' I', pCl (pk len tx) p = (p', none) → p' ≤ len → I' 73 7 = nI p' → FC c o I I' → Q (some (.int 0)) I' L (RR u hr tl) (DD u)) : cm_Ex l g 6 0 0 mX12_takesClause 0 [.ref 73, .int (nI c)] [] I L (RR u hr tl) (DD u) Q := by
  have hl := T.2.1
  have hcc := pkb (fun p h => (T.2.2 p h).2)
  have sw := swo _ (hcc p)
  refine x_aldn qX12_takesClause_0 rfl trivial ?_
  refine x_cV0 (d' := 1) qX12_takesClause_1 cX12_160 rfl ⟨_, rfl, rfl⟩ rfl rfl (Nat.le_of_ble_eq_true rfl) (Nat.le_of_ble_eq_true rfl) (by decide) ?_
  refine c_X12_next T hp (by omega) ?_
  have G : ∀ v, FC c o I (cm_u I 78 c v) := fun v => FC_78
  have TG : ∀ v, MX len tx (cm_u I 78 c v) := fun v => MX_FC T (G v)
  have pG : ∀ v, cm_u I 78 c v 73 7 = nI p := fun v => by rw [rdB (by decide)]; exact hp
  by_cases h116 : pk len tx p = 116
  · have eC : pCl (pk len tx) p = pbd (pWd (pk len tx) (tyn 3) p) fun p1 _ => pTab (pk len tx) 0 p1 := by
      unfold pCl; rw [if_neg (by omega), if_neg (by omega), if_neg (by omega)]
    refine x_lkp (off := 28) (tgt := 32) qX12_takesClause_4 (by decide) (sw.trans (by rw [if_neg (by omega), if_pos h116])) (by omega) ?_
    refine x_aldn qX12_takesClause_32 rfl trivial ?_
    refine x_getR qX12_takesClause_33 fX12_44 rfl rfl ?_
    refine x_ildn qX12_takesClause_36 rfl ?_
    refine x_iconst (v := nI 0) qX12_takesClause_37 rfl ?_
    refine x_iast qX12_takesClause_38 dd_78 rfl (by omega) (by decide) ?_
    refine x_aldn qX12_takesClause_39 rfl trivial ?_
    refine x_ldc (v := nI 656741) qX12_takesClause_40 vX12_189 ?_
    refine x_iconst (v := nI 4) qX12_takesClause_42 rfl ?_
    refine x_cV2 (d' := 3) qX12_takesClause_43 cX12_190 rfl ⟨_, rfl, rfl⟩ rfl rfl (Nat.le_of_ble_eq_true rfl) (Nat.le_of_ble_eq_true rfl) (by decide) ?_
    refine c_X12_takesWord (TG _) (pG _) hpl (by decide) (by decide) (fun p1 I1 hw l1 h17 F1 => ?_) (fun p1 I1 hw l1 h17 F1 => ?_)
    · rw [show wl 656741 4 = tyn 3 by decide] at hw
      have G1 := FC_tr (G (nI 0)) (FC_A F1)
      rw [hw] at eC
      refine x_if_eq_f (tgt := 61) qX12_takesClause_46 (by omega) (by decide) ?_
      refine x_aldn qX12_takesClause_49 rfl trivial ?_
      refine x_ildn qX12_takesClause_50 rfl ?_
      refine x_cV1 (d' := 4) qX12_takesClause_51 cX12_194 rfl ⟨_, rfl, rfl⟩ rfl rfl (Nat.le_of_ble_eq_true rfl) (Nat.le_of_ble_eq_true rfl) (by decide) ?_
      refine c_X12_takesState (MX_FC T G1) h17 l1 hc72 (fun p2 i x I2 ht l2 h27 h79 h80 hx hi16 F2 => ?_) (fun p2 I2 ht l2 h27 F2 => ?_)
      · refine x_if_eq_f (tgt := 61) qX12_takesClause_54 (by omega) (by decide) ?_
        refine x_iconst (v := nI 1) qX12_takesClause_57 rfl ?_
        refine x_goto (tgt := 62) qX12_takesClause_58 (by omega) ?_
        refine x_iret qX12_takesClause_62 rfl rfl ?_
        have e78 : I2 78 c = nI 0 := by rw [F2.1 78 (by decide) (by decide) (by decide), F1.1 78 (by decide), rdE]
        have e18 : I2 73 18 = nI o := by rw [F2.2.1 18 (by decide) (by decide), F1.2 18 (by decide) (by decide), rdB (by decide)]; exact hs
        have lw := pWd_ge hw
        exact hok p2 (0, i, x, []) o I2 (eC.trans (ht 0)) l2 h27 ⟨e78, show 0 < 4 by decide, fun _ => ⟨h79, hi16⟩, fun _ => ⟨h80, rfl⟩, hx, fun e => by cases e⟩ e18 (Nat.le_refl _) (by have := pTab_ge (ht 0); omega) (fun e => by cases e) (FC_tr G1 (FC_T F2))
      · refine x_if_eq_t (tgt := 61) qX12_takesClause_54 (by omega) (by decide) ?_
        refine x_iconst (v := nI 0) qX12_takesClause_61 rfl ?_
        refine x_iret qX12_takesClause_62 rfl rfl ?_
        exact hno p2 I2 (eC.trans (ht 0)) l2 h27 (FC_tr G1 (FC_T F2))
    · rw [show wl 656741 4 = tyn 3 by decide] at hw
      rw [hw] at eC
      refine x_if_eq_t (tgt := 61) qX12_takesClause_46 (by omega) (by decide) ?_
      refine x_iconst (v := nI 0) qX12_takesClause_61 rfl ?_
      refine x_iret qX12_takesClause_62 rfl rfl ?_
      exact hno p1 I1 eC l1 h17 (FC_tr (G (nI 0)) (FC_A F1))
  · by_cases h98 : pk len tx p = 98
    · have eC : pCl (pk len tx) p = pbd (pWd (pk len tx) (tyn 0) p) fun p1 _ => pbd (pEf (pS (pk len tx) 4) (pk len tx) p1) fun p2 t => (p2, some (2, 0, 0, t)) := by
        unfold pCl; rw [if_pos h98]
      refine x_lkp (off := 59) (tgt := 63) qX12_takesClause_4 (by decide) (sw.trans (by rw [if_pos h98])) (by omega) ?_
      refine x_aldn qX12_takesClause_63 rfl trivial ?_
      refine x_getR qX12_takesClause_64 fX12_44 rfl rfl ?_
      refine x_ildn qX12_takesClause_67 rfl ?_
      refine x_iconst (v := nI 2) qX12_takesClause_68 rfl ?_
      refine x_iast qX12_takesClause_69 dd_78 rfl (by omega) (by decide) ?_
      refine x_aldn qX12_takesClause_70 rfl trivial ?_
      refine x_sipush (v := nI 2098) qX12_takesClause_71 rfl ?_
      refine x_iconst (v := nI 3) qX12_takesClause_74 rfl ?_
      refine x_cV2 (d' := 3) qX12_takesClause_75 cX12_190 rfl ⟨_, rfl, rfl⟩ rfl rfl (Nat.le_of_ble_eq_true rfl) (Nat.le_of_ble_eq_true rfl) (by decide) ?_
      refine c_X12_takesWord (TG _) (pG _) hpl (by decide) (by decide) (fun p1 I1 hw l1 h17 F1 => ?_) (fun p1 I1 hw l1 h17 F1 => ?_)
      · rw [show wl 2098 3 = tyn 0 by decide] at hw
        have G1 := FC_tr (G (nI 2)) (FC_A F1)
        rw [hw] at eC
        have lw := pWd_ge hw
        refine x_if_eq_f (tgt := 93) qX12_takesClause_78 (by omega) (by decide) ?_
        refine x_aldn qX12_takesClause_81 rfl trivial ?_
        refine x_ildn qX12_takesClause_82 rfl ?_
        refine x_cV1 (d' := 5) qX12_takesClause_83 cX12_197 rfl ⟨_, rfl, rfl⟩ rfl rfl (Nat.le_of_ble_eq_true rfl) (Nat.le_of_ble_eq_true rfl) (by decide) ?_
        have e18 : I1 73 18 = nI o := by rw [F1.2 18 (by decide) (by decide), rdB (by decide)]; exact hs
        refine c_X12_takesE (B := 100 * h) (MX_FC T G1) h17 l1 e18 hc72 (by omega) (by omega) ho (fun p2 ts I2 ht l2 h27 T2 h81 h82 lb F2 => ?_) (fun p2 I2 ht l2 h27 F2 => ?_)
        · refine x_if_eq_f (tgt := 93) qX12_takesClause_86 (by omega) (by decide) ?_
          refine x_iconst (v := nI 1) qX12_takesClause_89 rfl ?_
          refine x_goto (tgt := 94) qX12_takesClause_90 (by omega) ?_
          refine x_iret qX12_takesClause_94 rfl rfl ?_
          have e78 : I2 78 c = nI 2 := by rw [F2.1 78 (by decide) (by decide) (by decide) (by decide) (by decide), F1.1 78 (by decide), rdE]
          obtain ⟨q1, q2, q3, q4⟩ := pEf_some (pS_some (len := len) (tx := tx) 4) _ _ _ ht
          have q0 := q4 0 (by decide)
          have eC2 : pCl (pk len tx) p = (p2, some (2, 0, 0, ts)) := by
            rw [eC]
            show pbd (pEf (pS (pk len tx) 4) (pk len tx) p1) _ = _
            rw [ht]; rfl
          exact hok p2 (2, 0, 0, ts) (o + ts.length) I2 eC2 l2 h27 ⟨e78, show 2 < 4 by decide, fun e => absurd (show 2 ≤ 1 from e) (by decide), fun e => absurd rfl e, show 0 ≤ 999 by decide, fun _ => ⟨o, h81, h82, ho, by show o + ts.length ≤ _; omega, T2.2, okr_mem q0.1, q0.1, q0.2, q4⟩⟩ T2.1 (by omega) lb (fun _ => ⟨o, h81, by omega, Nat.le_refl _⟩) (FC_tr G1 (FC_B F2))
        · refine x_if_eq_t (tgt := 93) qX12_takesClause_86 (by omega) (by decide) ?_
          refine x_iconst (v := nI 0) qX12_takesClause_93 rfl ?_
          refine x_iret qX12_takesClause_94 rfl rfl ?_
          have eC2 : pCl (pk len tx) p = (p2, none) := by
            rw [eC]
            show pbd (pEf (pS (pk len tx) 4) (pk len tx) p1) _ = _
            rw [ht]; rfl
          exact hno p2 I2 eC2 l2 h27 (FC_tr G1 (FC_B F2))
      · rw [show wl 2098 3 = tyn 0 by decide] at hw
        rw [hw] at eC
        refine x_if_eq_t (tgt := 93) qX12_takesClause_78 (by omega) (by decide) ?_
        refine x_iconst (v := nI 0) qX12_takesClause_93 rfl ?_
        refine x_iret qX12_takesClause_94 rfl rfl ?_
        exact hno p1 I1 eC l1 h17 (FC_tr (G (nI 2)) (FC_A F1))
    · refine x_lkp (off := 91) (tgt := 95) qX12_takesClause_4 (by decide) (sw.trans (by rw [if_neg h98, if_neg h116])) (by omega) ?_
      refine x_aldn qX12_takesClause_95 rfl trivial ?_
      refine x_getR qX12_takesClause_96 fX12_44 rfl rfl ?_
      refine x_ildn qX12_takesClause_99 rfl ?_
      refine x_aldn qX12_takesClause_100 rfl trivial ?_
      refine x_cV0 (d' := 1) qX12_takesClause_101 cX12_200 rfl ⟨_, rfl, rfl⟩ rfl rfl (Nat.le_of_ble_eq_true rfl) (Nat.le_of_ble_eq_true rfl) (by decide) ?_
      refine c_X12_second T hp (by omega) ?_
      refine x_bipush (v := nI 105) qX12_takesClause_104 rfl ?_
      refine x_icmp_ne (tgt := 113) qX12_takesClause_106 (by omega) (fun h5 => ?_) (fun h5 => ?_)
      · rw [rv_eq _ (hcc (p + 1)) 105 (by decide)] at h5
        refine x_iconst (v := nI 1) qX12_takesClause_113 rfl ?_
        refine x_iast qX12_takesClause_114 dd_78 rfl (by omega) (by decide) ?_
        refine x_aldn qX12_takesClause_115 rfl trivial ?_
        refine x_getR qX12_takesClause_116 fX12_44 rfl rfl ?_
        refine x_ildn qX12_takesClause_119 rfl ?_
        refine x_ialde qX12_takesClause_120 dd_78 rfl (by omega) (by decide) rdE ?_
        refine x_iconst (v := nI 1) qX12_takesClause_121 rfl ?_
        refine x_icmp_ne_nf (tgt := 149) qX12_takesClause_122 (by omega) (by omega) (by omega) rfl ?_
        refine x_aldn qX12_takesClause_125 rfl trivial ?_
        refine x_ldc (v := nI 241700) qX12_takesClause_126 vX12_203 ?_
        refine x_iconst (v := nI 4) qX12_takesClause_128 rfl ?_
        refine x_cV2 (d' := 3) qX12_takesClause_129 cX12_190 rfl ⟨_, rfl, rfl⟩ rfl rfl (Nat.le_of_ble_eq_true rfl) (Nat.le_of_ble_eq_true rfl) (by decide) ?_
        refine c_X12_takesWord (TG _) (pG _) hpl (by decide) (by decide) (fun p1 I1 hw l1 h17 F1 => ?_) (fun p1 I1 hw l1 h17 F1 => ?_)
        · rw [show wl 241700 4 = tyn 1 by decide] at hw
          have h2 := pWd_two hw
          have eC : pCl (pk len tx) p = pbd (pWd (pk len tx) (tyn 1) p) fun p1 _ => pTab (pk len tx) 1 p1 := by
            unfold pCl; rw [if_neg h98, if_pos h2]
          have G1 := FC_tr (G (nI 1)) (FC_A F1)
          rw [hw] at eC
          refine x_if_eq_f (tgt := 147) qX12_takesClause_132 (by omega) (by decide) ?_
          refine x_aldn qX12_takesClause_135 rfl trivial ?_
          refine x_ildn qX12_takesClause_136 rfl ?_
          refine x_cV1 (d' := 4) qX12_takesClause_137 cX12_194 rfl ⟨_, rfl, rfl⟩ rfl rfl (Nat.le_of_ble_eq_true rfl) (Nat.le_of_ble_eq_true rfl) (by decide) ?_
          refine c_X12_takesState (MX_FC T G1) h17 l1 hc72 (fun p2 i x I2 ht l2 h27 h79 h80 hx hi16 F2 => ?_) (fun p2 I2 ht l2 h27 F2 => ?_)
          · refine x_if_eq_f (tgt := 147) qX12_takesClause_140 (by omega) (by decide) ?_
            refine x_iconst (v := nI 1) qX12_takesClause_143 rfl ?_
            refine x_goto (tgt := 148) qX12_takesClause_144 (by omega) ?_
            refine x_iret qX12_takesClause_148 rfl rfl ?_
            have e78 : I2 78 c = nI 1 := by rw [F2.1 78 (by decide) (by decide) (by decide), F1.1 78 (by decide), rdE]
            have e18 : I2 73 18 = nI o := by rw [F2.2.1 18 (by decide) (by decide), F1.2 18 (by decide) (by decide), rdB (by decide)]; exact hs
            have lw := pWd_ge hw
            exact hok p2 (1, i, x, []) o I2 (eC.trans (ht 1)) l2 h27 ⟨e78, show 1 < 4 by decide, fun _ => ⟨h79, hi16⟩, fun _ => ⟨h80, rfl⟩, hx, fun e => by cases e⟩ e18 (Nat.le_refl _) (by have := pTab_ge (ht 1); omega) (fun e => by cases e) (FC_tr G1 (FC_T F2))
          · refine x_if_eq_t (tgt := 147) qX12_takesClause_140 (by omega) (by decide) ?_
            refine x_iconst (v := nI 0) qX12_takesClause_147 rfl ?_
            refine x_iret qX12_takesClause_148 rfl rfl ?_
            exact hno p2 I2 (eC.trans (ht 1)) l2 h27 (FC_tr G1 (FC_T F2))
        · rw [show wl 241700 4 = tyn 1 by decide] at hw
          refine x_if_eq_t (tgt := 147) qX12_takesClause_132 (by omega) (by decide) ?_
          refine x_iconst (v := nI 0) qX12_takesClause_147 rfl ?_
          refine x_iret qX12_takesClause_148 rfl rfl ?_
          refine hno p1 I1 ?_ l1 h17 (FC_tr (G (nI 1)) (FC_A F1))
          unfold pCl
          rw [if_neg h98]
          by_cases h3 : pk len tx p = 103 ∧ pk len tx (p + 1) = 108
          · rw [if_pos h3, hw]; rfl
          · rw [if_neg h3]
            by_cases h4 : pk len tx p = 103
            · have e : p1 = p + 1 := by
                rw [show tyn 1 = 103 :: 108 :: [97, 100, 32] from rfl, pWd_1 h4 (fun e => h3 ⟨h4, e⟩)] at hw
                cases hw; rfl
              rw [if_pos h4, show tyn 2 = 103 :: 105 :: [118, 101, 32] from rfl, pWd_1 h4 h5, e]; rfl
            · have e : p1 = p := by
                rw [show tyn 1 = 103 :: [108, 97, 100, 32] from rfl, pWd_0 h4] at hw
                cases hw; rfl
              rw [if_neg h4, show tyn 3 = 116 :: [97, 107, 101, 32] from rfl, pWd_0 h116, e]; rfl
      · rw [rv_eq _ (hcc (p + 1)) 105 (by decide)] at h5
        refine x_iconst (v := nI 3) qX12_takesClause_109 rfl ?_
        refine x_goto (tgt := 114) qX12_takesClause_110 (by omega) ?_
        refine x_iast qX12_takesClause_114 dd_78 rfl (by omega) (by decide) ?_
        refine x_aldn qX12_takesClause_115 rfl trivial ?_
        refine x_getR qX12_takesClause_116 fX12_44 rfl rfl ?_
        refine x_ildn qX12_takesClause_119 rfl ?_
        refine x_ialde qX12_takesClause_120 dd_78 rfl (by omega) (by decide) rdE ?_
        refine x_iconst (v := nI 1) qX12_takesClause_121 rfl ?_
        refine x_icmp_ne_nt (tgt := 149) qX12_takesClause_122 (by omega) (by omega) (by omega) (by decide) ?_
        refine x_aldn qX12_takesClause_149 rfl trivial ?_
        refine x_ldc (v := nI 239301) qX12_takesClause_150 vX12_204 ?_
        refine x_iconst (v := nI 4) qX12_takesClause_152 rfl ?_
        refine x_cV2 (d' := 3) qX12_takesClause_153 cX12_190 rfl ⟨_, rfl, rfl⟩ rfl rfl (Nat.le_of_ble_eq_true rfl) (Nat.le_of_ble_eq_true rfl) (by decide) ?_
        refine c_X12_takesWord (TG _) (pG _) hpl (by decide) (by decide) (fun p1 I1 hw l1 h17 F1 => ?_) (fun p1 I1 hw l1 h17 F1 => ?_)
        · rw [show wl 239301 4 = tyn 2 by decide] at hw
          have h2 := pWd_two hw
          have eC : pCl (pk len tx) p = pbd (pWd (pk len tx) (tyn 2) p) fun p1 _ => pbd (pNum (pk len tx) 3 p1) fun p2 x => (p2, some (3, 0, x, [])) := by
            unfold pCl; rw [if_neg h98, if_neg (by omega), if_pos h2.1]
          have G1 := FC_tr (G (nI 3)) (FC_A F1)
          rw [hw] at eC
          have lw := pWd_ge hw
          refine x_if_eq_f (tgt := 167) qX12_takesClause_156 (by omega) (by decide) ?_
          refine x_aldn qX12_takesClause_159 rfl trivial ?_
          refine x_iconst (v := nI 3) qX12_takesClause_160 rfl ?_
          refine x_cV1 (d' := 3) qX12_takesClause_161 cX12_174 rfl ⟨_, rfl, rfl⟩ rfl rfl (Nat.le_of_ble_eq_true rfl) (Nat.le_of_ble_eq_true rfl) (by decide) ?_
          refine c_X12_takesNumber (MX_FC T G1) h17 l1 (by decide) (by decide) (fun p2 x I2 ht h27 h28 F2 => ?_) (fun p2 ht e => ?_)
          · obtain ⟨n1, n2, n3⟩ := pNum_some ht
            have hx : x < 1000 := n3
            refine x_if_ne_t (tgt := 169) qX12_takesClause_164 (by omega) (by decide) ?_
            refine x_aldn qX12_takesClause_169 rfl trivial ?_
            refine x_getR qX12_takesClause_170 fX12_50 rfl rfl ?_
            refine x_ildn qX12_takesClause_173 rfl ?_
            refine x_aldn qX12_takesClause_174 rfl trivial ?_
            refine x_getIe qX12_takesClause_175 fX12_35 rfl h28 ?_
            refine x_iast qX12_takesClause_178 dd_80 rfl (by omega) (by decide) ?_
            refine x_iconst (v := nI 1) qX12_takesClause_179 rfl ?_
            refine x_iret qX12_takesClause_180 rfl rfl ?_
            have e78 : I2 78 c = nI 3 := by rw [F2.1 78 (by decide), F1.1 78 (by decide), rdE]
            have e18 : I2 73 18 = nI o := by rw [F2.2 18 (by decide) (by decide), F1.2 18 (by decide) (by decide), rdB (by decide)]; exact hs
            have eC2 : pCl (pk len tx) p = (p2, some (3, 0, x, [])) := by
              rw [eC]
              show pbd (pNum (pk len tx) 3 p1) _ = _
              rw [ht]; rfl
            exact hok p2 (3, 0, x, []) o _ eC2 n2 (by rw [rdB (by decide)]; exact h27) ⟨by rw [rdB (by decide)]; exact e78, show 3 < 4 by decide, fun e => absurd (show 3 ≤ 1 from e) (by decide), fun _ => ⟨rdE, rfl⟩, by show x ≤ 999; omega, fun e => by cases e⟩ (by rw [rdB (by decide)]; exact e18) (Nat.le_refl _) (by omega) (fun e => by cases e) (FC_tr G1 (FC_tr (FC_A F2) (FC_T FT_80)))
          · refine x_if_ne_f (tgt := 169) qX12_takesClause_164 (by omega) (by decide) ?_
            refine x_iconst (v := nI 0) qX12_takesClause_167 rfl ?_
            refine x_iret qX12_takesClause_168 rfl rfl ?_
            have eC2 : pCl (pk len tx) p = (p2, none) := by
              rw [eC]
              show pbd (pNum (pk len tx) 3 p1) _ = _
              rw [ht]; rfl
            exact hno p2 I1 eC2 (by omega) (by rw [e]; exact h17) G1
        · rw [show wl 239301 4 = tyn 2 by decide] at hw
          refine x_if_eq_t (tgt := 167) qX12_takesClause_156 (by omega) (by decide) ?_
          refine x_iconst (v := nI 0) qX12_takesClause_167 rfl ?_
          refine x_iret qX12_takesClause_168 rfl rfl ?_
          refine hno p1 I1 ?_ l1 h17 (FC_tr (G (nI 3)) (FC_A F1))
          unfold pCl
          rw [if_neg h98, if_neg (by omega)]
          by_cases h4 : pk len tx p = 103
          · rw [if_pos h4, hw]; rfl
          · have e : p1 = p := by
              rw [show tyn 2 = 103 :: [105, 118, 101, 32] from rfl, pWd_0 h4] at hw
              cases hw; rfl
            rw [if_neg h4, show tyn 3 = 116 :: [97, 107, 101, 32] from rfl, pWd_0 h116, e]; rfl
end M6
