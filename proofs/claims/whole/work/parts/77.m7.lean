/-! the reference: a house read; last, of -/
def FG (h : Nat) (I I' : cm_I) : Prop := (∀ b, b ≠ 73 → (b < 77 ∨ 84 < b) → I' b = I b) ∧ (∀ k, k ≠ 7 → k ≠ 8 → k ≠ 18 → k ≠ 19 → k ≠ 20 → I' 73 k = I 73 k) ∧ (∀ b, 78 ≤ b → b ≤ 82 → ∀ j, j < 12 * h → I' b j = I b j) ∧ (∀ j, j < 100 * h → I' 83 j = I 83 j) ∧ (∀ j, j ≠ h → I' 77 j = I 77 j)
theorem FG_tr {h : Nat} {I I' I'' : cm_I} (a : FG h I I') (b : FG h I' I'') : FG h I I'' := ⟨fun x h1 h2 => (b.1 x h1 h2).trans (a.1 x h1 h2), fun x h1 h2 h3 h4 h5 => (b.2.1 x h1 h2 h3 h4 h5).trans (a.2.1 x h1 h2 h3 h4 h5), fun x h1 h2 j h => (b.2.2.1 x h1 h2 j h).trans (a.2.2.1 x h1 h2 j h), fun j h => (b.2.2.2.1 j h).trans (a.2.2.2.1 j h), fun j h => (b.2.2.2.2 j h).trans (a.2.2.2.2 j h)⟩
theorem FG_73 {h k : Nat} {I : cm_I} {v : Int32} (e : k = 7 ∨ k = 8 ∨ k = 18 ∨ k = 19 ∨ k = 20) : FG h I (cm_u I 73 k v) := ⟨fun b h1 _ => cm_u_ne h1, fun j h1 h2 h3 h4 h5 => rdK (by omega), fun b h1 h2 j _ => rdB (by omega), fun j _ => rdB (by decide), fun j _ => rdB (by decide)⟩
theorem FG_77 {h : Nat} {I : cm_I} {v : Int32} : FG h I (cm_u I 77 h v) := ⟨fun b h1 h2 => cm_u_ne (by omega), fun j h1 h2 h3 h4 h5 => rdB (by decide), fun b h1 h2 j _ => rdB (by omega), fun j _ => rdB (by decide), fun j h => rdK h⟩
theorem FG_C {h c o : Nat} {I I' : cm_I} (F : FC c o I I') (hc : 12 * h ≤ c) (ho : 100 * h ≤ o) : FG h I I' := ⟨fun b h1 h2 => F.1 b h1 (by omega), F.2.1, fun b h1 h2 j hj => F.2.2.1 b h1 h2 j (by omega), fun j hj => F.2.2.2 j (by omega), fun j _ => by rw [F.1 77 (by decide) (by decide)]⟩
theorem FG_A {h : Nat} {I I' : cm_I} (F : FA I I') : FG h I I' := ⟨fun b h1 _ => F.1 b h1, fun j h1 h2 _ _ _ => F.2 j h1 h2, fun b h1 h2 j _ => by rw [F.1 b (by omega)], fun j _ => by rw [F.1 83 (by decide)], fun j _ => by rw [F.1 77 (by decide)]⟩
theorem MX_FG {len : Nat} {tx : Nat → Nat} {h : Nat} {I I' : cm_I} (M : MX len tx I) (F : FG h I I') : MX len tx I' := MX_fr M (F.2.1 6 (by decide) (by decide) (by decide) (by decide) (by decide)) (F.1 76 (by decide) (by decide))
/-- a clause, and that its tokens end ahead of o -/
def MCo (h c o : Nat) (cl : Cls) (I : cm_I) : Prop := MC h c cl I ∧ (cl.1 = 2 → ∃ o1, I 81 c = nI o1 ∧ o1 < 1000 ∧ o1 + cl.2.2.2.length ≤ o)
theorem MC_cg {h c : Nat} {cl : Cls} {I I' : cm_I} (M : MC h c cl I) (h1 : ∀ b, 78 ≤ b → b ≤ 82 → I' b c = I b c) (h2 : cl.1 = 2 → ∀ o1, I 81 c = nI o1 → 100 * h ≤ o1 → o1 + cl.2.2.2.length ≤ 100 * h + 100 → ∀ j, o1 ≤ j → j < o1 + cl.2.2.2.length → I' 83 j = I 83 j) : MC h c cl I' := by
  obtain ⟨a1, a2, a3, a4, a5, a6⟩ := M
  refine ⟨by rw [h1 78 (by decide) (by decide)]; exact a1, a2, by rw [h1 79 (by decide) (by decide)]; exact a3, by rw [h1 80 (by decide) (by decide)]; exact a4, a5, fun e => ?_⟩
  obtain ⟨o, b1, b2, b3, b4, b5, b6⟩ := a6 e
  refine ⟨o, by rw [h1 81 (by decide) (by decide)]; exact b1, by rw [h1 82 (by decide) (by decide)]; exact b2, b3, b4, fun j t hj => ?_, b6⟩
  have hl := (List.getElem?_eq_some_iff.mp hj).1
  rw [h2 e o b1 b3 b4 (o + j) (by omega) (by omega)]
  exact b5 j t hj
theorem MCo_fr {h c c' o o' : Nat} {cl : Cls} {I I' : cm_I} (M : MCo h c o cl I) (F : FC c' o I I') (hne : c ≠ c') (hh : h < 6) (hoo : o ≤ o') : MCo h c o' cl I' := by
  obtain ⟨M1, M2⟩ := M
  refine ⟨MC_cg M1 (fun b h1 h2 => F.2.2.1 b h1 h2 c hne) (fun e2 o1 e hb hb2 j h1 hj => ?_), fun e => ?_⟩
  · refine F.2.2.2 j ?_
    obtain ⟨o2, q1, q2, q3⟩ := M2 e2
    have := (nI_eq (show o1 < 2147483648 by omega) (show o2 < 2147483648 by omega)).mp (e.symm.trans q1)
    omega
  · obtain ⟨o2, q1, q2, q3⟩ := M2 e
    exact ⟨o2, by rw [F.2.2.1 81 (by decide) (by decide) c hne]; exact q1, q2, by omega⟩
theorem MCo_fr2 {h c o : Nat} {cl : Cls} {I I' : cm_I} (M : MCo h c o cl I) (hI : ∀ b, 78 ≤ b → b ≤ 83 → I' b = I b) : MCo h c o cl I' := ⟨MC_fr M.1 hI, fun e => by rw [hI 81 (by decide) (by decide)]; exact M.2 e⟩
theorem MHS_FG {h h' : Nat} {cs : List Cls} {I I' : cm_I} (M : MHS h' cs I) (F : FG h I I') (hl : h' < h) : MHS h' cs I' := by
  obtain ⟨a1, a2, a3⟩ := M
  refine ⟨by rw [F.2.2.2.2 h' (by omega)]; exact a1, a2, fun i cl hi => ?_⟩
  have hi2 := (List.getElem?_eq_some_iff.mp hi).1
  exact MC_cg (a3 i cl hi) (fun b h1 h2 => F.2.2.1 b h1 h2 _ (by omega)) (fun _ o1 _ hb hb2 j h1 hj => F.2.2.2.1 j (by omega))
theorem MIMG_app {im : IM} {hs : List (List Cls)} {cs : List Cls} {I : cm_I} (M : MIMG im hs I) : MIMG im (hs ++ [cs]) I := by
  cases im with
  | none => exact M
  | some q =>
    obtain ⟨a, x, b, y, z⟩ := q
    obtain ⟨m1, m2, m3, m4, m5⟩ := M
    refine ⟨m1, m2, m3, m4, ?_⟩
    rw [List.length_append]
    rcases m5 with e | e
    · exact Or.inl (by omega)
    · exact Or.inr e
/-- the house in hand -/
def fsN (hx : Nat) : Nat := if hx = 6 then 0 else 12 * hx
def HK (hx : Nat) (cs : List Cls) (I : cm_I) : Prop := I 73 5 = hxI hx ∧ (hx < 6 ∧ MHS hx cs I ∨ hx = 6 ∧ cs = [])
theorem HK_at {hx : Nat} {cs : List Cls} {I : cm_I} (K : HK hx cs I) : cs.length ≤ 12 ∧ fsN hx + cs.length ≤ 72 ∧ ∀ i cl, cs[i]? = some cl → MC hx (fsN hx + i) cl I := by
  unfold fsN
  rcases K.2 with ⟨h, a1, a2, a3⟩ | ⟨h, e⟩
  · rw [if_neg (by omega)]
    exact ⟨a2, by omega, a3⟩
  · subst e; subst h
    exact ⟨by decide, by decide, fun i cl hi => by cases hi⟩
theorem HK_fr {hx : Nat} {cs : List Cls} {I I' : cm_I} (K : HK hx cs I) (h5 : I' 73 5 = I 73 5) (hI : ∀ b, 77 ≤ b → b ≤ 83 → I' b = I b) : HK hx cs I' := by
  refine ⟨h5.trans K.1, ?_⟩
  rcases K.2 with ⟨h, M⟩ | e
  · exact Or.inl ⟨h, MHS_fr M hI⟩
  · exact Or.inr e
section M7
variable {l : Launch} {g : cm_G} {I : cm_I} {L : cm_L} {hr tl : Option Nat} {Q : cm_Post} {u : Nat} {n : Nat} {kd mm : Nat → Nat} {len : Nat} {tx : Nat → Nat} {hs : List (List Cls)} {hx c1 : Nat} {w1 : Nat → Nat} {c2 : Nat} {w2 : Nat → Nat} {im : IM} {s : List Nat} {tp : TP}
theorem MI_HK (M : MI n kd mm len tx hs hx c1 w1 c2 w2 im s tp I L) : HK hx (hcs hs hx) I := by
  obtain ⟨-, -, ⟨b1, b2, b3⟩, ⟨d1, d2⟩, -⟩ := M
  refine ⟨d2, ?_⟩
  unfold hcs
  rcases d1 with d1 | d1
  · refine Or.inl ⟨by omega, b3 hx _ ?_⟩
    rw [List.getD_eq_getElem?_getD, List.getElem?_eq_getElem d1]; rfl
  · subst d1
    refine Or.inr ⟨rfl, ?_⟩
    rw [List.getD_eq_getElem?_getD, List.getElem?_eq_none (by omega)]; rfl
theorem c_X12_goes {h : Nat} (T : MX len tx I) (hh : h < 6) (hok : ∀ p' cs I', pAll (pk len tx) len 12 0 [] = (p', some cs) → MHS h cs I' → FG h I I' → Q (some (.int 1)) I' L (RR u hr tl) (DD u)) (hno : ∀ p' I', pAll (pk len tx) len 12 0 [] = (p', none) → p' ≤ len → I' 73 7 = nI p' → FG h I I' → Q (some (.int 0)) I' L (RR u hr tl) (DD u)) : cm_Ex l g 7 0 0 mX12_goes 0 [.ref 73, .int (nI h), .float 0] [] I L (RR u hr tl) (DD u) Q := by
  have hl := T.2.1
  have loop : ∀ m n cs q o I', n + m = 12 → 1 ≤ m → cs.length = n → pAll (pk len tx) len m q cs = pAll (pk len tx) len 12 0 [] → (∀ i cl, cs[i]? = some cl → MCo h (12 * h + i) o cl I') → I' 73 7 = nI q → q ≤ len → I' 73 18 = nI o → 100 * h ≤ o → o ≤ 100 * h + q → FG h I I' → cm_Ex l g 7 0 0 mX12_goes 15 [.ref 73, .int (nI h), .int (nI n)] [] I' L (RR u hr tl) (DD u) Q := by
    intro m
    induction m with
    | zero => intro n cs q o I' h1 h2; exact absurd h2 (by decide)
    | succ m ih =>
      intro n cs q o I' hn hm hcs hA hM h7 hq h18 ho hB F
      have T' := MX_FG T F
      refine x_aldn qX12_goes_15 rfl trivial ?_
      refine x_bipush (v := nI 12) qX12_goes_16 rfl ?_
      refine x_ildn qX12_goes_18 rfl ?_
      refine x_imul_n qX12_goes_19 ?_
      refine x_ildn qX12_goes_20 rfl ?_
      refine x_iadd_n qX12_goes_21 ?_
      refine x_cV1 (d' := 6) qX12_goes_22 cX12_205 rfl ⟨_, rfl, rfl⟩ rfl rfl (Nat.le_of_ble_eq_true rfl) (Nat.le_of_ble_eq_true rfl) (by decide) ?_
      refine c_X12_takesClause (h := h) (c := 12 * h + n) (o := o) T' h7 hq h18 (by omega) hh ho hB (fun p' cl o' I2 hc l2 h27 M2 h218 oo ob M2b F2 => ?_) (fun p' I2 hc l2 h27 F2 => ?_)
      · have hu : pAll (pk len tx) len (m + 1) q cs = if p' < len then (if m = 0 then (p', none) else if pk len tx p' = 59 then pAll (pk len tx) len m (p' + 1) (cs ++ [cl]) else (p', none)) else (p', some (cs ++ [cl])) := by
          show pbd (pCl (pk len tx) q) _ = _
          rw [hc]; rfl
        have G2 := FG_tr F (FG_C F2 (by omega) ho)
        have G3 : FG h I (cm_u I2 77 h (nI (n + 1))) := FG_tr G2 FG_77
        have k7 : cm_u I2 77 h (nI (n + 1)) 73 7 = nI p' := by rw [rdB (by decide)]; exact h27
        have k18 : cm_u I2 77 h (nI (n + 1)) 73 18 = nI o' := by rw [rdB (by decide)]; exact h218
        have k77 : cm_u I2 77 h (nI (n + 1)) 77 h = nI (n + 1) := rdE
        have hM3 : ∀ i cl', (cs ++ [cl])[i]? = some cl' → MCo h (12 * h + i) o' cl' (cm_u I2 77 h (nI (n + 1))) := fun i cl' hi => by
          have hi2 := (List.getElem?_eq_some_iff.mp hi).1
          rw [List.length_append] at hi2
          have hi3 : i < cs.length + 1 := hi2
          refine MCo_fr2 ?_ (fun b h1 h2 => cm_u_ne (by omega))
          by_cases e : i = cs.length
          · subst e
            rw [List.getElem?_append_right (Nat.le_refl _), Nat.sub_self] at hi
            cases hi
            rw [hcs]
            exact ⟨M2, M2b⟩
          · rw [List.getElem?_append_left (by omega)] at hi
            exact MCo_fr (hM i cl' hi) F2 (by omega) hh oo
        have hl3 : (cs ++ [cl]).length = n + 1 := by rw [List.length_append, hcs]; rfl
        have T3 := MX_FG T G3
        refine x_if_ne_t (tgt := 30) qX12_goes_25 (by omega) (by decide) ?_
        refine x_iinc2 qX12_goes_30 (by decide) (cm_inc _) rfl ?_
        refine x_aldn qX12_goes_33 rfl trivial ?_
        refine x_getR qX12_goes_34 fX12_41 rfl rfl ?_
        refine x_ildn qX12_goes_37 rfl ?_
        refine x_ildn qX12_goes_38 rfl ?_
        refine x_iast qX12_goes_39 dd_77 rfl (by omega) (by decide) ?_
        generalize cm_u I2 77 h (nI (n + 1)) = I3 at *
        refine x_aldn qX12_goes_40 rfl trivial ?_
        refine x_getIe qX12_goes_41 fX12_32 rfl k7 ?_
        refine x_aldn qX12_goes_44 rfl trivial ?_
        refine x_getIe qX12_goes_45 fX12_29 rfl T3.1 ?_
        refine x_icmp_ne_n (tgt := 53) qX12_goes_48 (by omega) (by omega) (by omega) (fun hne => ?_) (fun heq => ?_)
        · rw [if_pos (by omega)] at hu
          refine x_ildn qX12_goes_53 rfl ?_
          refine x_bipush (v := nI 12) qX12_goes_54 rfl ?_
          refine x_icmp_eq_n (tgt := 68) qX12_goes_56 (by omega) (by omega) (by omega) (fun e12 => ?_) (fun e12 => ?_)
          · rw [if_pos (by omega)] at hu
            refine x_iconst (v := nI 0) qX12_goes_68 rfl ?_
            refine x_iret qX12_goes_69 rfl rfl ?_
            exact hno p' I3 (by rw [← hA, hu]) l2 k7 G3
          · rw [if_neg (by omega)] at hu
            refine x_aldn qX12_goes_59 rfl trivial ?_
            refine x_bipush (v := nI 59) qX12_goes_60 rfl ?_
            refine x_cV1 (d' := 2) qX12_goes_62 cX12_163 rfl ⟨_, rfl, rfl⟩ rfl rfl (Nat.le_of_ble_eq_true rfl) (Nat.le_of_ble_eq_true rfl) (by decide) ?_
            refine c_X12_takesSign T3 k7 (by omega) (by decide) (fun h59 => ?_) (fun h59 => ?_)
            · rw [if_pos h59] at hu
              refine x_if_ne_t (tgt := 15) qX12_goes_65 (by omega) (by decide) ?_
              exact ih (n + 1) (cs ++ [cl]) (p' + 1) o' _ (by omega) (by omega) hl3 (by rw [← hA, hu]) (fun i cl' hi => MCo_fr2 (hM3 i cl' hi) (fun b h1 h2 => cm_u_ne (by omega))) rdE (by omega) (by rw [rdK (by decide)]; exact k18) (by omega) (by omega) (FG_tr G3 (FG_73 (by omega)))
            · rw [if_neg h59] at hu
              refine x_if_ne_f (tgt := 15) qX12_goes_65 (by omega) (by decide) ?_
              refine x_iconst (v := nI 0) qX12_goes_68 rfl ?_
              refine x_iret qX12_goes_69 rfl rfl ?_
              exact hno p' I3 (by rw [← hA, hu]) l2 k7 G3
        · rw [if_neg (by omega)] at hu
          refine x_iconst (v := nI 1) qX12_goes_51 rfl ?_
          refine x_iret qX12_goes_52 rfl rfl ?_
          exact hok p' (cs ++ [cl]) I3 (by rw [← hA, hu]) ⟨by rw [hl3]; exact k77, by omega, fun i cl' hi => (hM3 i cl' hi).1⟩ G3
      · have hu : pAll (pk len tx) len (m + 1) q cs = (p', none) := by
          show pbd (pCl (pk len tx) q) _ = _
          rw [hc]; rfl
        refine x_if_ne_f (tgt := 30) qX12_goes_25 (by omega) (by decide) ?_
        refine x_iconst (v := nI 0) qX12_goes_28 rfl ?_
        refine x_iret qX12_goes_29 rfl rfl ?_
        exact hno p' I2 (by rw [← hA, hu]) l2 h27 (FG_tr F (FG_C F2 (by omega) ho))
  refine x_aldn qX12_goes_0 rfl trivial ?_
  refine x_iconst (v := nI 0) qX12_goes_1 rfl ?_
  refine x_putI qX12_goes_2 fX12_32 (Or.inl rfl) rfl ?_
  refine x_aldn qX12_goes_5 rfl trivial ?_
  refine x_bipush (v := nI 100) qX12_goes_6 rfl ?_
  refine x_ildn qX12_goes_8 rfl ?_
  refine x_imul_n qX12_goes_9 ?_
  refine x_putI qX12_goes_10 fX12_65 (Or.inl rfl) rfl ?_
  refine x_iconst (v := nI 0) qX12_goes_13 rfl ?_
  refine x_ist2 qX12_goes_14 (by decide) rfl ?_
  refine loop 12 0 [] 0 (100 * h) _ (by omega) (by decide) rfl rfl (fun i cl hi => by cases hi) ?_ (by omega) rdE (Nat.le_refl _) (by omega) (FG_tr (FG_73 (by omega)) (FG_73 (by omega)))
  rw [rdK (by decide), rdE]
theorem c_X12_house (M : MI n kd mm len tx hs hx c1 w1 c2 w2 im s tp I L) (hful : ¬ hs.length < 6 → KMQ Q (.int (-4)) u hr tl (MI n kd mm len tx hs hx c1 w1 c2 w2 im s tp) I L) (hno : hs.length < 6 → ∀ p, pAll (pk len tx) len 12 0 [] = (p, none) → KMQ Q (.int (-10 - nI p)) u hr tl (MI n kd mm 0 tx hs hx c1 w1 c2 w2 im s tp) I L)
  (hok : hs.length < 6 → ∀ p cs, pAll (pk len tx) len 12 0 [] = (p, some cs) → KMQ Q (.int (nI hs.length)) u hr tl (MI n kd mm 0 tx (hs ++ [cs]) hs.length c1 w1 c2 w2 im s tp) I L) : cm_Ex l g 8 0 0 mX12_house 0 [.ref 73, .float 0] [] I L (RR u hr tl) (DD u) Q := by
  obtain ⟨a1, a2, ⟨b1, b2, b3⟩, ⟨d1, d2⟩, e1, e2, f, ⟨g1, g2⟩, kk⟩ := id M
  refine x_aldn qX12_house_0 rfl trivial ?_
  refine x_getIe qX12_house_1 fX12_23 rfl b1 ?_
  refine x_bipush (v := nI 6) qX12_house_4 rfl ?_
  refine x_icmp_ne_n (tgt := 12) qX12_house_6 (by omega) (by omega) (by omega) (fun h6 => ?_) (fun h6 => ?_)
  · have h6' : hs.length < 6 := by omega
    refine x_aldn qX12_house_12 rfl trivial ?_
    refine x_aldn qX12_house_13 rfl trivial ?_
    refine x_getIe qX12_house_14 fX12_23 rfl b1 ?_
    refine x_cV1 (d' := 7) qX12_house_17 cX12_208 rfl ⟨_, rfl, rfl⟩ rfl rfl (Nat.le_of_ble_eq_true rfl) (Nat.le_of_ble_eq_true rfl) (by decide) ?_
    refine c_X12_goes a2 h6' (fun p' cs I' hA S F => ?_) (fun p' I' hA l2 h7 F => ?_)
    · refine x_ist1 qX12_house_20 (by decide) rfl ?_
      refine x_aldn qX12_house_21 rfl trivial ?_
      refine x_iconst (v := nI 0) qX12_house_22 rfl ?_
      refine x_putI qX12_house_23 fX12_29 (Or.inl rfl) rfl ?_
      refine x_ildn qX12_house_26 rfl ?_
      refine x_if_ne_t (tgt := 38) qX12_house_27 (by omega) (by decide) ?_
      have f4 : I' 73 4 = nI hs.length := by rw [F.2.1 4 (by decide) (by decide) (by decide) (by decide) (by decide)]; exact b1
      refine x_aldn qX12_house_38 rfl trivial ?_
      refine x_aldn qX12_house_39 rfl trivial ?_
      refine x_getIe qX12_house_40 fX12_23 rfl (show _ = nI hs.length from by rw [rdK (by decide)]; exact f4) ?_
      refine x_putI qX12_house_43 fX12_26 (Or.inl rfl) rfl ?_
      refine x_aldn qX12_house_46 rfl trivial ?_
      refine x_dup qX12_house_47 rfl ?_
      refine x_getIe qX12_house_48 fX12_23 rfl (show _ = nI hs.length from by rw [rdK (by decide), rdK (by decide)]; exact f4) ?_
      refine x_iconst (v := nI 1) qX12_house_51 rfl ?_
      refine x_iadd_n qX12_house_52 ?_
      refine x_putI qX12_house_53 fX12_23 (Or.inl rfl) rfl ?_
      refine x_aldn qX12_house_56 rfl trivial ?_
      refine x_getIe qX12_house_57 fX12_26 rfl (show _ = nI hs.length from by rw [rdK (by decide), rdE]) ?_
      refine x_iret qX12_house_60 rfl rfl ?_
      have fb : ∀ b, b ≠ 73 → cm_u (cm_u (cm_u I' 73 6 (nI 0)) 73 5 (nI hs.length)) 73 4 (nI (hs.length + 1)) b = I' b := fun b h => by rw [cm_u_ne h, cm_u_ne h, cm_u_ne h]
      have fk : ∀ k, k ≠ 4 → k ≠ 5 → k ≠ 6 → cm_u (cm_u (cm_u I' 73 6 (nI 0)) 73 5 (nI hs.length)) 73 4 (nI (hs.length + 1)) 73 k = I' 73 k := fun k h1 h2 h3 => by rw [rdK h1, rdK h2, rdK h3]
      have q4 : cm_u (cm_u (cm_u I' 73 6 (nI 0)) 73 5 (nI hs.length)) 73 4 (nI (hs.length + 1)) 73 4 = nI (hs.length + 1) := rdE
      have q5 : cm_u (cm_u (cm_u I' 73 6 (nI 0)) 73 5 (nI hs.length)) 73 4 (nI (hs.length + 1)) 73 5 = nI hs.length := by rw [rdK (by decide), rdE]
      have q6 : cm_u (cm_u (cm_u I' 73 6 (nI 0)) 73 5 (nI hs.length)) 73 4 (nI (hs.length + 1)) 73 6 = nI 0 := by rw [rdK (by decide), rdK (by decide), rdE]
      generalize cm_u (cm_u (cm_u I' 73 6 (nI 0)) 73 5 (nI hs.length)) 73 4 (nI (hs.length + 1)) = I2 at *
      have gb : ∀ b, b ≠ 73 → (b < 77 ∨ 84 < b) → I2 b = I b := fun b h1 h2 => (fb b h1).trans (F.1 b h1 h2)
      have gk : ∀ k, k ≠ 4 → k ≠ 5 → k ≠ 6 → k ≠ 7 → k ≠ 8 → k ≠ 18 → k ≠ 19 → k ≠ 20 → I2 73 k = I 73 k := fun k h1 h2 h3 h4 h5 h6 h7 h8 => (fk k h1 h2 h3).trans (F.2.1 k h4 h5 h6 h7 h8)
      have hl : (hs ++ [cs]).length = hs.length + 1 := by rw [List.length_append]; rfl
      refine hok h6' p' cs hA I2 L ⟨?_, ⟨q6, by decide, fun p hp => absurd hp (by omega)⟩, ⟨by rw [hl]; exact q4, by omega, fun h cs' hh => ?_⟩, ⟨Or.inl (by omega), ?_⟩, ?_, ?_, ?_, ⟨?_, g2⟩, ?_⟩ (fun b hb => ⟨gb b (by omega) (by omega), rfl⟩)
      · exact MH_fr a1 (gk 0 (by decide) (by decide) (by decide) (by decide) (by decide) (by decide) (by decide) (by decide)) (gk 1 (by decide) (by decide) (by decide) (by decide) (by decide) (by decide) (by decide) (by decide)) (gb 74 (by decide) (by decide)) (gb 75 (by decide) (by decide))
      · have hh2 := (List.getElem?_eq_some_iff.mp hh).1
        rw [hl] at hh2
        by_cases e : h = hs.length
        · subst e
          rw [List.getElem?_append_right (Nat.le_refl _), Nat.sub_self] at hh
          cases hh
          exact MHS_fr S (fun b h1 h2 => fb b (by omega))
        · rw [List.getElem?_append_left (by omega)] at hh
          exact MHS_fr (MHS_FG (b3 h cs' hh) F (by omega)) (fun b h1 h2 => fb b (by omega))
      · rw [q5]; unfold hxI; rw [if_neg (by omega)]
      · exact MMT_fr e1 (by rw [gb 86 (by decide) (by decide)]) (gb 85 (by decide) (by decide))
      · exact MMT_fr e2 (by rw [gb 86 (by decide) (by decide)]) (gb 85 (by decide) (by decide))
      · exact MIMG_app (MIMG_fr f (gk 35 (by decide) (by decide) (by decide) (by decide) (by decide) (by decide) (by decide) (by decide)) (gk 36 (by decide) (by decide) (by decide) (by decide) (by decide) (by decide) (by decide) (by decide)) (gb 99 (by decide) (by decide)) (gb 100 (by decide) (by decide)))
      · exact MTR_fr g1 (gk 39 (by decide) (by decide) (by decide) (by decide) (by decide) (by decide) (by decide) (by decide)) (gb 101 (by decide) (by decide))
      · exact MTP_fr kk (gb 102 (by decide) (by decide)) (gb 103 (by decide) (by decide)) rfl
    · have hl := a2.2.1
      refine x_ist1 qX12_house_20 (by decide) rfl ?_
      refine x_aldn qX12_house_21 rfl trivial ?_
      refine x_iconst (v := nI 0) qX12_house_22 rfl ?_
      refine x_putI qX12_house_23 fX12_29 (Or.inl rfl) rfl ?_
      refine x_ildn qX12_house_26 rfl ?_
      refine x_if_ne_f (tgt := 38) qX12_house_27 (by omega) (by decide) ?_
      refine x_bipush (v := -10) qX12_house_30 rfl ?_
      refine x_aldn qX12_house_32 rfl trivial ?_
      refine x_getIe qX12_house_33 fX12_32 rfl (show _ = nI p' from by rw [rdK (by decide)]; exact h7) ?_
      refine x_isub qX12_house_36 ?_
      refine x_iret qX12_house_37 rfl rfl ?_
      have fb : ∀ b, b ≠ 73 → cm_u I' 73 6 (nI 0) b = I' b := fun b h => cm_u_ne h
      have fk : ∀ k, k ≠ 6 → cm_u I' 73 6 (nI 0) 73 k = I' 73 k := fun k h1 => rdK h1
      have q6 : cm_u I' 73 6 (nI 0) 73 6 = nI 0 := rdE
      generalize cm_u I' 73 6 (nI 0) = I2 at *
      have gb : ∀ b, b ≠ 73 → (b < 77 ∨ 84 < b) → I2 b = I b := fun b h1 h2 => (fb b h1).trans (F.1 b h1 h2)
      have gk : ∀ k, k ≠ 6 → k ≠ 7 → k ≠ 8 → k ≠ 18 → k ≠ 19 → k ≠ 20 → I2 73 k = I 73 k := fun k h3 h4 h5 h6 h7 h8 => (fk k h3).trans (F.2.1 k h4 h5 h6 h7 h8)
      refine hno h6' p' hA I2 L ⟨?_, ⟨q6, by decide, fun p hp => absurd hp (by omega)⟩, ⟨(gk 4 (by decide) (by decide) (by decide) (by decide) (by decide) (by decide)).trans b1, b2, fun h cs' hh => ?_⟩, ⟨d1, (gk 5 (by decide) (by decide) (by decide) (by decide) (by decide) (by decide)).trans d2⟩, ?_, ?_, ?_, ⟨?_, g2⟩, ?_⟩ (fun b hb => ⟨gb b (by omega) (by omega), rfl⟩)
      · exact MH_fr a1 (gk 0 (by decide) (by decide) (by decide) (by decide) (by decide) (by decide)) (gk 1 (by decide) (by decide) (by decide) (by decide) (by decide) (by decide)) (gb 74 (by decide) (by decide)) (gb 75 (by decide) (by decide))
      · have hh2 := (List.getElem?_eq_some_iff.mp hh).1
        exact MHS_fr (MHS_FG (b3 h cs' hh) F hh2) (fun b h1 h2 => fb b (by omega))
      · exact MMT_fr e1 (by rw [gb 86 (by decide) (by decide)]) (gb 85 (by decide) (by decide))
      · exact MMT_fr e2 (by rw [gb 86 (by decide) (by decide)]) (gb 85 (by decide) (by decide))
      · exact MIMG_fr f (gk 35 (by decide) (by decide) (by decide) (by decide) (by decide) (by decide)) (gk 36 (by decide) (by decide) (by decide) (by decide) (by decide) (by decide)) (gb 99 (by decide) (by decide)) (gb 100 (by decide) (by decide))
      · exact MTR_fr g1 (gk 39 (by decide) (by decide) (by decide) (by decide) (by decide) (by decide)) (gb 101 (by decide) (by decide))
      · exact MTP_fr kk (gb 102 (by decide) (by decide)) (gb 103 (by decide) (by decide)) rfl
  · refine x_bipush (v := -4) qX12_house_9 rfl ?_
    refine x_iret qX12_house_11 rfl rfl ?_
    exact hful (by omega) I L M KC_rfl
theorem c_X12_first {cs : List Cls} (K : HK hx cs I) (hQ : Q (some (.int (nI (fsN hx)))) I L (RR u hr tl) (DD u)) : cm_Ex l g 1 0 0 mX12_first 0 [.ref 73] [] I L (RR u hr tl) (DD u) Q := by
  obtain ⟨k5, k⟩ := K
  unfold hxI at k5
  unfold fsN at hQ
  by_cases e : hx = 6
  · rw [if_pos e] at k5 hQ
    refine x_aldn qX12_first_0 rfl trivial ?_
    refine x_getIe qX12_first_1 fX12_26 rfl k5 ?_
    refine x_if_ge_f (tgt := 11) qX12_first_4 (by omega) (by decide) ?_
    refine x_iconst (v := nI 0) qX12_first_7 rfl ?_
    refine x_goto (tgt := 18) qX12_first_8 (by omega) ?_
    refine x_iret qX12_first_18 rfl rfl ?_
    exact hQ
  · rw [if_neg e] at k5 hQ
    have h6 : hx < 6 := by rcases k with k | k; exact k.1; exact absurd k.1 e
    refine x_aldn qX12_first_0 rfl trivial ?_
    refine x_getIe qX12_first_1 fX12_26 rfl k5 ?_
    refine x_if_ge_nt (tgt := 11) qX12_first_4 (by omega) (by omega) ?_
    refine x_bipush (v := nI 12) qX12_first_11 rfl ?_
    refine x_aldn qX12_first_13 rfl trivial ?_
    refine x_getIe qX12_first_14 fX12_26 rfl k5 ?_
    refine x_imul_n qX12_first_17 ?_
    refine x_iret qX12_first_18 rfl rfl ?_
    exact hQ
theorem c_X12_behind {cs : List Cls} (K : HK hx cs I) (hQ : Q (some (.int (nI (fsN hx + cs.length)))) I L (RR u hr tl) (DD u)) : cm_Ex l g 1 0 0 mX12_behind 0 [.ref 73] [] I L (RR u hr tl) (DD u) Q := by
  obtain ⟨k5, k⟩ := K
  unfold hxI at k5
  unfold fsN at hQ
  by_cases e : hx = 6
  · rw [if_pos e] at k5 hQ
    have hc : cs = [] := by rcases k with k | k; exact absurd k.1 (by omega); exact k.2
    subst hc
    refine x_aldn qX12_behind_0 rfl trivial ?_
    refine x_getIe qX12_behind_1 fX12_26 rfl k5 ?_
    refine x_if_ge_f (tgt := 11) qX12_behind_4 (by omega) (by decide) ?_
    refine x_iconst (v := nI 0) qX12_behind_7 rfl ?_
    refine x_goto (tgt := 28) qX12_behind_8 (by omega) ?_
    refine x_iret qX12_behind_28 rfl rfl ?_
    exact hQ
  · rw [if_neg e] at k5 hQ
    have h6 : hx < 6 ∧ MHS hx cs I := by rcases k with k | k; exact k; exact absurd k.1 e
    have h7 := h6.1
    refine x_aldn qX12_behind_0 rfl trivial ?_
    refine x_getIe qX12_behind_1 fX12_26 rfl k5 ?_
    refine x_if_ge_nt (tgt := 11) qX12_behind_4 (by omega) (by omega) ?_
    refine x_bipush (v := nI 12) qX12_behind_11 rfl ?_
    refine x_aldn qX12_behind_13 rfl trivial ?_
    refine x_getIe qX12_behind_14 fX12_26 rfl k5 ?_
    refine x_imul_n qX12_behind_17 ?_
    refine x_aldn qX12_behind_18 rfl trivial ?_
    refine x_getR qX12_behind_19 fX12_41 rfl rfl ?_
    refine x_aldn qX12_behind_22 rfl trivial ?_
    refine x_getIe qX12_behind_23 fX12_26 rfl k5 ?_
    refine x_ialde qX12_behind_26 dd_77 rfl (by omega) (by decide) h6.2.1 ?_
    refine x_iadd_n qX12_behind_27 ?_
    refine x_iret qX12_behind_28 rfl rfl ?_
    exact hQ
theorem c_X12_last {cs : List Cls} {w i : Nat} (K : HK hx cs I) (hw : w = 0 ∨ w = 1 ∨ w = 3) (hi : i < 1000) (hQ : Q (some (.int (nI (lst w i cs)))) I L (RR u hr tl) (DD u)) : cm_Ex l g 2 0 0 mX12_last 0 [.ref 73, .int (nI w), .int (nI i), .float 0, .float 0] [] I L (RR u hr tl) (DD u) Q := by
  obtain ⟨l12, l72, at_⟩ := HK_at K
  have loop : ∀ (rest : List Cls) j v, cs.drop j = rest → j ≤ cs.length → Q (some (.int (nI (rest.foldl (fun v cl => if cl.1 = w ∧ (w = 3 ∨ cl.2.1 = i) then cl.2.2.1 else v) v)))) I L (RR u hr tl) (DD u) → cm_Ex l g 2 0 0 mX12_last 8 [.ref 73, .int (nI w), .int (nI i), .int (nI v), .int (nI (fsN hx + j))] [] I L (RR u hr tl) (DD u) Q := by
    intro rest
    induction rest with
    | nil =>
      intro j v hd hj hq
      have hjl : cs.length ≤ j := List.drop_eq_nil_iff.mp hd
      refine x_ild qX12_last_8 rfl ?_
      refine x_aldn qX12_last_10 rfl trivial ?_
      refine x_cV0 (d' := 1) qX12_last_11 cX12_214 rfl ⟨_, rfl, rfl⟩ rfl rfl (Nat.le_of_ble_eq_true rfl) (Nat.le_of_ble_eq_true rfl) (by decide) ?_
      refine c_X12_behind K ?_
      refine x_icmp_ge_nt (tgt := 58) qX12_last_14 (by omega) (by omega) (by omega) (by omega) ?_
      refine x_ildn qX12_last_58 rfl ?_
      refine x_iret qX12_last_59 rfl rfl ?_
      exact hq
    | cons cl rest ih =>
      intro j v hd hj hq
      have hjl : j < cs.length := by
        by_cases e : j < cs.length
        · exact e
        · rw [List.drop_eq_nil_iff.mpr (by omega)] at hd; cases hd
      have hcl : cs[j]? = some cl := by
        have := congrArg (fun x => x[0]?) hd
        simpa using this
      have hd2 : cs.drop (j + 1) = rest := by
        have := congrArg List.tail hd
        simpa using this
      obtain ⟨m1, m2, m3, m4, m5, -⟩ := at_ j cl hcl
      rw [List.foldl_cons] at hq
      refine x_ild qX12_last_8 rfl ?_
      refine x_aldn qX12_last_10 rfl trivial ?_
      refine x_cV0 (d' := 1) qX12_last_11 cX12_214 rfl ⟨_, rfl, rfl⟩ rfl rfl (Nat.le_of_ble_eq_true rfl) (Nat.le_of_ble_eq_true rfl) (by decide) ?_
      refine c_X12_behind K ?_
      refine x_icmp_ge_nf (tgt := 58) qX12_last_14 (by omega) (by omega) (by omega) (by omega) ?_
      have nx : ∀ v', v' = (if cl.1 = w ∧ (w = 3 ∨ cl.2.1 = i) then cl.2.2.1 else v) → cm_Ex l g 2 0 0 mX12_last 52 [.ref 73, .int (nI w), .int (nI i), .int (nI v'), .int (nI (fsN hx + j))] [] I L (RR u hr tl) (DD u) Q := fun v' e => by
        rw [← e] at hq
        refine x_iinc4 qX12_last_52 (by decide) (cm_inc _) rfl ?_
        refine x_goto (tgt := 8) qX12_last_55 (by omega) ?_
        exact ih (j + 1) v' hd2 (by omega) hq
      refine x_aldn qX12_last_17 rfl trivial ?_
      refine x_getR qX12_last_18 fX12_44 rfl rfl ?_
      refine x_ild qX12_last_21 rfl ?_
      refine x_ialde qX12_last_23 dd_78 rfl (by omega) (by decide) m1 ?_
      refine x_ildn qX12_last_24 rfl ?_
      refine x_icmp_ne_n (tgt := 52) qX12_last_25 (by omega) (by omega) (by omega) (fun h1 => nx v ?_) (fun h1 => ?_)
      · rw [if_neg (fun e => h1 e.1)]
      · have h4 := (m4 (by omega)).1
        refine x_ildn qX12_last_28 rfl ?_
        refine x_iconst (v := nI 3) qX12_last_29 rfl ?_
        refine x_icmp_eq_n (tgt := 44) qX12_last_30 (by omega) (by omega) (by omega) (fun h3 => ?_) (fun h3 => ?_)
        · refine x_aldn qX12_last_44 rfl trivial ?_
          refine x_getR qX12_last_45 fX12_50 rfl rfl ?_
          refine x_ild qX12_last_48 rfl ?_
          refine x_ialde qX12_last_50 dd_80 rfl (by omega) (by decide) h4 ?_
          refine x_ist3 qX12_last_51 (by decide) rfl ?_
          refine nx _ ?_
          rw [if_pos ⟨h1, Or.inl h3⟩]
        · refine x_aldn qX12_last_33 rfl trivial ?_
          refine x_getR qX12_last_34 fX12_47 rfl rfl ?_
          refine x_ild qX12_last_37 rfl ?_
          refine x_ialde qX12_last_39 dd_79 rfl (by omega) (by decide) (m3 (by omega)).1 ?_
          refine x_ildn qX12_last_40 rfl ?_
          have hb := (m3 (by omega)).2
          refine x_icmp_ne_n (tgt := 52) qX12_last_41 (by omega) (by omega) (by omega) (fun h5 => nx v ?_) (fun h5 => ?_)
          · rw [if_neg (fun e => by rcases e.2 with q | q; exact h3 q; exact h5 q)]
          · refine x_aldn qX12_last_44 rfl trivial ?_
            refine x_getR qX12_last_45 fX12_50 rfl rfl ?_
            refine x_ild qX12_last_48 rfl ?_
            refine x_ialde qX12_last_50 dd_80 rfl (by omega) (by decide) h4 ?_
            refine x_ist3 qX12_last_51 (by decide) rfl ?_
            refine nx _ ?_
            rw [if_pos ⟨h1, Or.inr h5⟩]
  refine x_iconst (v := nI 0) qX12_last_0 rfl ?_
  refine x_ist3 qX12_last_1 (by decide) rfl ?_
  refine x_aldn qX12_last_2 rfl trivial ?_
  refine x_cV0 (d' := 1) qX12_last_3 cX12_211 rfl ⟨_, rfl, rfl⟩ rfl rfl (Nat.le_of_ble_eq_true rfl) (Nat.le_of_ble_eq_true rfl) (by decide) ?_
  refine c_X12_first K ?_
  refine x_ist4 qX12_last_6 (by decide) rfl ?_
  exact loop cs 0 0 rfl (by omega) hQ
end M7
