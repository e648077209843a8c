/-! the reference: what may not be at once -/
theorem bev_shift {v : Nat → Bool} : ∀ {ts : List Nat} {k h : Nat} {f F : Nat → Bool}, okr ts k → (∀ j, j < k → F (h + j) = f j) → (bev v ts (h + k, F)).1 = h + (bev v ts (k, f)).1 ∧ (∀ j, j < (bev v ts (k, f)).1 → (bev v ts (h + k, F)).2 (h + j) = (bev v ts (k, f)).2 j) ∧ (∀ j, j < h → (bev v ts (h + k, F)).2 j = F j) ∧ (bev v ts (k, f)).1 = hgt ts k := by
  intro ts
  induction ts with
  | nil => intro k h f F _ hF; exact ⟨rfl, hF, fun _ _ => rfl, rfl⟩
  | cons t ts ih =>
    intro k h f F ho hF
    have ho' : if t = 5033 then 1 ≤ k ∧ okr ts k else if t = 5038 ∨ t = 5124 then 2 ≤ k ∧ okr ts (k - 1) else (t / 1000 < 5 ∧ t / 100 % 10 < 3 ∧ k < 24) ∧ okr ts (k + 1) := ho
    have eb : ∀ s, bev v (t :: ts) s = bev v ts (bstp v s t) := fun s => rfl
    have eh : hgt (t :: ts) k = hgt ts (if t = 5033 then k else if t = 5038 ∨ t = 5124 then k - 1 else k + 1) := rfl
    rw [eb, eb, eh]
    by_cases e1 : t = 5033
    · rw [if_pos e1] at ho'
      have s1 : ∀ x : Nat × (Nat → Bool), bstp v x t = (x.1, fun j => if j + 1 = x.1 then !x.2 j else x.2 j) := fun x => by unfold bstp; rw [if_pos e1]
      rw [s1, s1, if_pos e1]
      have q := ih (k := k) (h := h) (f := fun j => if j + 1 = k then !f j else f j) (F := fun j => if j + 1 = h + k then !F j else F j) ho'.2 (fun j hj => by
        show (if h + j + 1 = h + k then !F (h + j) else F (h + j)) = _
        rw [hF j hj]
        by_cases e : j + 1 = k
        · rw [if_pos (by omega), if_pos e]
        · rw [if_neg (by omega), if_neg e])
      refine ⟨q.1, q.2.1, fun j hj => (q.2.2.1 j hj).trans ?_, q.2.2.2⟩
      show (if j + 1 = h + k then _ else _) = _
      rw [if_neg (by omega)]
    · rw [if_neg e1] at ho'
      by_cases e2 : t = 5038 ∨ t = 5124
      · rw [if_pos e2] at ho'
        obtain ⟨op, hop⟩ : ∃ op : Bool → Bool → Bool, ∀ x : Nat × (Nat → Bool), bstp v x t = (x.1 - 1, fun j => if j + 2 = x.1 then op (x.2 j) (x.2 (j + 1)) else x.2 j) := by
          rcases e2 with e | e
          · exact ⟨fun a b => a && b, fun x => by unfold bstp; rw [if_neg e1, if_pos e]⟩
          · exact ⟨fun a b => a || b, fun x => by unfold bstp; rw [if_neg e1, if_neg (by omega), if_pos e]⟩
        rw [hop, hop, if_neg e1, if_pos e2]
        have e0 : h + k - 1 = h + (k - 1) := by omega
        show (bev v ts (h + k - 1, _)).1 = _ ∧ (∀ j, _ → (bev v ts (h + k - 1, _)).2 _ = _) ∧ (∀ j, _ → (bev v ts (h + k - 1, _)).2 _ = _) ∧ _
        rw [e0]
        have q := ih (k := k - 1) (h := h) (f := fun j => if j + 2 = k then op (f j) (f (j + 1)) else f j) (F := fun j => if j + 2 = h + k then op (F j) (F (j + 1)) else F j) ho'.2 (fun j hj => by
          show (if h + j + 2 = h + k then op (F (h + j)) (F (h + j + 1)) else F (h + j)) = _
          rw [hF j (by omega), show h + j + 1 = h + (j + 1) by omega]
          by_cases e : j + 2 = k
          · rw [if_pos (by omega), if_pos e, hF (j + 1) (by omega)]
          · rw [if_neg (by omega), if_neg e])
        refine ⟨q.1, q.2.1, fun j hj => (q.2.2.1 j hj).trans ?_, q.2.2.2⟩
        show (if j + 2 = h + k then _ else _) = _
        rw [if_neg (by omega)]
      · rw [if_neg e2] at ho'
        have s1 : ∀ x : Nat × (Nat → Bool), bstp v x t = (x.1 + 1, fun j => if j = x.1 then v t else x.2 j) := fun x => by unfold bstp; rw [if_neg e1, if_neg (fun e => e2 (Or.inl e)), if_neg (fun e => e2 (Or.inr e))]
        rw [s1, s1, if_neg e1, if_neg e2]
        have q := ih (k := k + 1) (h := h) (f := fun j => if j = k then v t else f j) (F := fun j => if j = h + k then v t else F j) ho'.2 (fun j hj => by
          show (if h + j = h + k then v t else F (h + j)) = _
          by_cases e : j = k
          · rw [if_pos (by omega), if_pos e]
          · rw [if_neg (by omega), if_neg e, hF j (by omega)])
        refine ⟨q.1, q.2.1, fun j hj => (q.2.2.1 j hj).trans ?_, q.2.2.2⟩
        show (if j = h + k then _ else _) = _
        rw [if_neg (by omega)]
def clB (v : Nat → Bool) (cl : Cls) : Bool := decide (cl.1 = 2) && (bev v cl.2.2.2 (0, fun _ => false)).2 0
def clO (cl : Cls) : Prop := (cl.1 = 2 → okr cl.2.2.2 0 ∧ hgt cl.2.2.2 0 = 1) ∧ (cl.1 ≠ 2 → cl.2.2.2 = [])
theorem bev_btk {v : Nat → Bool} : ∀ {cs : List Cls} {h : Nat} {F : Nat → Bool}, (∀ cl, cl ∈ cs → clO cl) → exb (bev v (btk cs) (h, F)).2 (bev v (btk cs) (h, F)).1 = (exb F h || cs.any (clB v)) := by
  intro cs
  induction cs with
  | nil => intro h F _; show exb F h = (exb F h || false); rw [Bool.or_false]
  | cons cl cs ih =>
    intro h F ho
    have hcl := ho cl List.mem_cons_self
    have ih2 := fun h F => @ih h F (fun c hc => ho c (List.mem_cons_of_mem _ hc))
    have eb : bev v (btk (cl :: cs)) (h, F) = bev v (btk cs) (bev v cl.2.2.2 (h, F)) := by
      show bev v (cl.2.2.2 ++ btk cs) _ = _
      unfold bev
      rw [List.foldl_append]
    rw [eb, List.any_cons]
    by_cases e : cl.1 = 2
    · obtain ⟨o1, o2⟩ := hcl.1 e
      obtain ⟨s1, s2, s3, s4⟩ := bev_shift (v := v) (h := h) (f := fun _ => false) (F := F) o1 (fun j hj => absurd hj (by omega))
      rw [Nat.add_zero] at s1 s2 s3
      rw [o2] at s4
      rw [s4] at s1 s2
      have ep : bev v cl.2.2.2 (h, F) = (h + 1, (bev v cl.2.2.2 (h, F)).2) := by rw [← s1]
      rw [ep, ih2]
      have ec : clB v cl = (bev v cl.2.2.2 (0, fun _ => false)).2 0 := by unfold clB; rw [decide_eq_true e]; rfl
      have ex : exb (bev v cl.2.2.2 (h, F)).2 (h + 1) = (exb F h || clB v cl) := by
        rw [Bool.eq_iff_iff, exb_iff, Bool.or_eq_true, exb_iff, ec]
        constructor
        · rintro ⟨i, hi, hf⟩
          by_cases e : i = h
          · subst e; right; rw [← s2 0 (by omega)]; exact hf
          · left; exact ⟨i, by omega, by rw [← s3 i (by omega)]; exact hf⟩
        · rintro (⟨i, hi, hf⟩ | hf)
          · exact ⟨i, by omega, by rw [s3 i hi]; exact hf⟩
          · exact ⟨h, by omega, by rw [← s2 0 (by omega)] at hf; exact hf⟩
      rw [ex, Bool.or_assoc]
    · rw [hcl.2 e]
      have ec : clB v cl = false := by unfold clB; rw [decide_eq_false e]; rfl
      rw [ec, Bool.false_or]
      exact ih2 h F
theorem MC_clO {h c : Nat} {cl : Cls} {I : cm_I} (M : MC h c cl I) : clO cl := ⟨fun e => by
  obtain ⟨o, b1, b2, b3, b4, b5, b6, b7, b8, b9⟩ := M.2.2.2.2.2 e
  exact ⟨b7, b8⟩, fun e => (M.2.2.2.1 e).2⟩
theorem HK_clO {hx : Nat} {cs : List Cls} {I : cm_I} (K : HK hx cs I) : ∀ cl, cl ∈ cs → clO cl := fun cl hcl => by
  obtain ⟨i, hi⟩ := List.getElem?_of_mem hcl
  exact MC_clO ((HK_at K).2.2 i cl hi)
theorem brd_any {hx n r w : Nat} {mm : Nat → Nat} {cs : List Cls} {I : cm_I} (K : HK hx cs I) : brd n mm (btk cs) r w = cs.any (clB (tst n mm w r)) := by
  unfold brd
  rw [bev_btk (HK_clO K)]
  show (false || _) = _
  rw [Bool.false_or]
theorem lwf_mono {kd mm : Nat → Nat} {w t : Nat} (h : lwf kd mm t w = false) : ∀ k, lwf kd mm (t + k) w = false := by
  intro k
  induction k with
  | zero => exact h
  | succ k ih =>
    show (lwf kd mm (t + k) w && _) = false
    rw [ih, Bool.false_and]
theorem nar_b (b : Bool) : narrow .boolean (.int (b2I b)) = .int (b2I b) := by cases b <;> rfl
/-- the states of a way -/
def S87 (n : Nat) (mm : Nat → Nat) (w : Nat) (I : cm_I) : Prop := ∀ t, t < 4 → I 87 (4 * w + t) = nI (if t < n then dgt mm w t else 0)
section M13
variable {l : Launch} {g : cm_G} {I : cm_I} {L : cm_L} {hr tl : Option Nat} {Q : cm_Post} {u : Nat} {n : Nat} {kd mm : Nat → Nat} {hx : Nat} {cs : List Cls}
theorem c_X12_holds {h c w r : Nat} {cl : Cls} (M : MC h c cl I) (hh : h < 6) (hc : c < 72) (e2 : cl.1 = 2) (hw : w < 64) (hr12 : r < 12) (hn4 : n ≤ 4) (ho : okm mm n) (S : S87 n mm w I) (hQ : ∀ I', (∀ b, b ≠ 93 → I' b = I b) → Q (some (.int (b2I (clB (tst n mm w r) cl)))) I' L (RR u hr tl) (DD u)) : cm_Ex l g 2 0 0 mX12_holds 0 [.ref 73, .int (nI c), .int (nI w), .int (nI r), .float 0, .float 0, .float 0, .float 0, .float 0] [] I L (RR u hr tl) (DD u) Q := by
  obtain ⟨o, b1, b2, b3, b4, b5, b6, b7, b8, b9⟩ := M.2.2.2.2.2 e2
  have ev : clB (tst n mm w r) cl = (bev (tst n mm w r) cl.2.2.2 (0, fun _ => false)).2 0 := by unfold clB; rw [decide_eq_true e2]; rfl
  rw [ev] at hQ
  generalize cl.2.2.2 = toks at *
  have t33 : (-33 : Int32).toInt = -33 := by decide
  have loop : ∀ (rest : List Nat) j nh F I' (a6 a7 a8 : Value), toks.drop j = rest → j ≤ toks.length → okr rest nh → nh ≤ 24 → hgt rest nh = 1 → (∀ i, i < nh → I' 93 i = b2I (F i)) → (∀ b, b ≠ 93 → I' b = I b) → (∀ I', (∀ b, b ≠ 93 → I' b = I b) → Q (some (.int (b2I ((bev (tst n mm w r) rest (nh, F)).2 0)))) I' L (RR u hr tl) (DD u)) → cm_Ex l g 2 0 0 mX12_holds 11 [.ref 73, .int (nI c), .int (nI w), .int (nI r), .int (nI nh), .int (nI (o + j)), a6, a7, a8] [] I' L (RR u hr tl) (DD u) Q := by
    intro rest
    induction rest with
    | nil =>
      intro j nh F I' a6 a7 a8 hd hj hok hn hg hP hI hq
      have hjl : toks.length ≤ j := List.drop_eq_nil_iff.mp hd
      have hn1 : nh = 1 := hg
      refine x_ild qX12_holds_11 rfl ?_
      refine x_aldn qX12_holds_13 rfl trivial ?_
      refine x_getR qX12_holds_14 fX12_56 rfl rfl ?_
      refine x_ildn qX12_holds_17 rfl ?_
      refine x_ialde qX12_holds_18 dd_82 rfl (by omega) (by decide) (show _ = nI (o + toks.length) from by rw [hI 82 (by decide)]; exact b2) ?_
      refine x_icmp_ge_nt (tgt := 270) qX12_holds_19 (by omega) (by omega) (by omega) (by omega) ?_
      refine x_aldn qX12_holds_270 rfl trivial ?_
      refine x_getR qX12_holds_271 fX12_99 rfl rfl ?_
      refine x_iconst (v := nI 0) qX12_holds_274 rfl ?_
      refine x_zalde qX12_holds_275 dd_93 rfl (by omega) (by decide) (hP 0 (by omega)) ?_
      refine x_iret qX12_holds_276 rfl (nar_b _) ?_
      exact hq I' hI
    | cons t rest ih =>
      intro j nh F I' a6 a7 a8 hd hj hok hn hg hP hI hq
      have hjl : j < toks.length := by
        by_cases e : j < toks.length
        · exact e
        · rw [List.drop_eq_nil_iff.mpr (by omega)] at hd; cases hd
      have ht : toks[j]? = some t := by
        have := congrArg (fun x => x[0]?) hd
        simpa using this
      have hd2 : toks.drop (j + 1) = rest := by
        have := congrArg List.tail hd
        simpa using this
      have e83 : I' 83 (o + j) = rtk t := by rw [hI 83 (by decide)]; exact b5 j t ht
      have hok' : if t = 5033 then 1 ≤ nh ∧ okr rest nh else if t = 5038 ∨ t = 5124 then 2 ≤ nh ∧ okr rest (nh - 1) else (t / 1000 < 5 ∧ t / 100 % 10 < 3 ∧ nh < 24) ∧ okr rest (nh + 1) := hok
      have hg' : hgt rest (if t = 5033 then nh else if t = 5038 ∨ t = 5124 then nh - 1 else nh + 1) = 1 := hg
      have nxt : ∀ nh' F' I2 (a6 a7 a8 : Value), bstp (tst n mm w r) (nh, F) t = (nh', F') → okr rest nh' → nh' ≤ 24 → hgt rest nh' = 1 → (∀ i, i < nh' → I2 93 i = b2I (F' i)) → (∀ b, b ≠ 93 → I2 b = I b) → cm_Ex l g 2 0 0 mX12_holds 264 [.ref 73, .int (nI c), .int (nI w), .int (nI r), .int (nI nh'), .int (nI (o + j)), a6, a7, a8] [] I2 L (RR u hr tl) (DD u) Q := fun nh' F' I2 a6 a7 a8 hs h1 h2 h3 h4 h5 => by
        refine x_iinc5 qX12_holds_264 (by decide) (cm_inc _) rfl ?_
        refine x_goto (tgt := 11) qX12_holds_267 (by omega) ?_
        refine ih (j + 1) nh' F' I2 a6 a7 a8 hd2 (by omega) h1 h2 h3 h4 h5 (fun I3 hI3 => ?_)
        have := hq I3 hI3
        have eb : bev (tst n mm w r) (t :: rest) (nh, F) = bev (tst n mm w r) rest (bstp (tst n mm w r) (nh, F) t) := rfl
        rw [eb, hs] at this
        exact this
      refine x_ild qX12_holds_11 rfl ?_
      refine x_aldn qX12_holds_13 rfl trivial ?_
      refine x_getR qX12_holds_14 fX12_56 rfl rfl ?_
      refine x_ildn qX12_holds_17 rfl ?_
      refine x_ialde qX12_holds_18 dd_82 rfl (by omega) (by decide) (show _ = nI (o + toks.length) from by rw [hI 82 (by decide)]; exact b2) ?_
      refine x_icmp_ge_nf (tgt := 270) qX12_holds_19 (by omega) (by omega) (by omega) (by omega) ?_
      refine x_aldn qX12_holds_22 rfl trivial ?_
      refine x_getR qX12_holds_23 fX12_59 rfl rfl ?_
      refine x_ild qX12_holds_26 rfl ?_
      refine x_ialde qX12_holds_28 dd_83 rfl (by omega) (by decide) e83 ?_
      refine x_ist6 qX12_holds_29 (by decide) rfl ?_
      refine x_ild qX12_holds_31 rfl ?_
      refine x_bipush (v := -33) qX12_holds_33 rfl ?_
      by_cases t1 : t = 5033
      · rw [if_pos t1] at hok' hg'
        have hs : bstp (tst n mm w r) (nh, F) t = (nh, fun j => if j + 1 = nh then !F j else F j) := by unfold bstp; rw [if_pos t1]
        have er : rtk t = -33 := by rw [t1]; rfl
        rw [er]
        obtain ⟨m, rfl⟩ : ∃ m, nh = m + 1 := ⟨nh - 1, by omega⟩
        have fin : ∀ b, b = (!F m) → cm_Ex l g 2 0 0 mX12_holds 63 [.ref 73, .int (nI c), .int (nI w), .int (nI r), .int (nI (m + 1)), .int (nI (o + j)), .int (-33), a7, a8] [.int (b2I b), .int (nI (m + 1 - 1)), .ref 93] I' L (RR u hr tl) (DD u) Q := fun b hb => by
          refine x_zast qX12_holds_63 dd_93 rfl (by omega) (by decide) (nar_b b) ?_
          refine x_goto (tgt := 264) qX12_holds_64 (by omega) ?_
          refine nxt _ _ _ _ _ _ hs hok'.2 hn hg' (fun i hi => ?_) (fun b h1 => by rw [cm_u_ne h1]; exact hI b h1)
          show _ = b2I (if i + 1 = m + 1 then !F i else F i)
          by_cases e : i = m
          · subst e; rw [if_pos rfl, ← hb]; exact rdE
          · rw [if_neg (by omega), rdK (by omega)]; exact hP i hi
        refine x_icmp_ne_f (tgt := 67) qX12_holds_35 (by omega) rfl ?_
        refine x_aldn qX12_holds_38 rfl trivial ?_
        refine x_getR qX12_holds_39 fX12_99 rfl rfl ?_
        refine x_ild qX12_holds_42 rfl ?_
        refine x_iconst (v := nI 1) qX12_holds_44 rfl ?_
        refine x_isub_n qX12_holds_45 (by omega) ?_
        refine x_aldn qX12_holds_46 rfl trivial ?_
        refine x_getR qX12_holds_47 fX12_99 rfl rfl ?_
        refine x_ild qX12_holds_50 rfl ?_
        refine x_iconst (v := nI 1) qX12_holds_52 rfl ?_
        refine x_isub_n qX12_holds_53 (by omega) ?_
        refine x_zalde qX12_holds_54 dd_93 rfl (by omega) (by decide) (hP m (by omega)) ?_
        cases hF : F m with
        | true =>
          refine x_if_ne_t (tgt := 62) qX12_holds_55 (by omega) (by decide) ?_
          refine x_iconst (v := nI 0) qX12_holds_62 rfl ?_
          exact fin false (by rw [hF]; rfl)
        | false =>
          refine x_if_ne_f (tgt := 62) qX12_holds_55 (by omega) (by decide) ?_
          refine x_iconst (v := nI 1) qX12_holds_58 rfl ?_
          refine x_goto (tgt := 63) qX12_holds_59 (by omega) ?_
          exact fin true (by rw [hF]; rfl)
      · rw [if_neg t1] at hok' hg'
        by_cases t2 : t = 5038 ∨ t = 5124
        · rw [if_pos t2] at hok' hg'
          obtain ⟨m, rfl⟩ : ∃ m, nh = m + 1 + 1 := ⟨nh - 2, by omega⟩
          have e1 : I' 93 (m + 1 - 1) = b2I (F m) := hP m (by omega)
          have e2 : I' 93 (m + 1) = b2I (F (m + 1)) := hP (m + 1) (by omega)
          have fin : ∀ v6 x F', bstp (tst n mm w r) (m + 1 + 1, F) t = (m + 1, F') → F' m = x → (∀ i, i < m → F' i = F i) → cm_Ex l g 2 0 0 mX12_holds 147 [.ref 73, .int (nI c), .int (nI w), .int (nI r), .int (nI (m + 1)), .int (nI (o + j)), v6, a7, a8] [.int (b2I x), .int (nI (m + 1 - 1)), .ref 93] I' L (RR u hr tl) (DD u) Q := fun v6 x F' hs hx hlow => by
            refine x_zast qX12_holds_147 dd_93 rfl (by omega) (by decide) (nar_b x) ?_
            refine x_goto (tgt := 264) qX12_holds_148 (by omega) ?_
            refine nxt _ _ _ _ _ _ hs hok'.2 (by omega) hg' (fun i hi => ?_) (fun b h1 => by rw [cm_u_ne h1]; exact hI b h1)
            by_cases e : i = m
            · subst e; rw [hx]; exact rdE
            · rw [rdK (by omega), hlow i (by omega)]; exact hP i (by omega)
          rcases t2 with t2 | t2
          · have hs : bstp (tst n mm w r) (m + 1 + 1, F) t = (m + 1, fun j => if j + 2 = m + 1 + 1 then F j && F (j + 1) else F j) := by unfold bstp; rw [if_neg t1, if_pos t2]; rfl
            have er : rtk t = -38 := by rw [t2]; rfl
            rw [er]
            refine x_icmp_ne_t (tgt := 67) qX12_holds_35 (by omega) (by decide) ?_
            refine x_ild qX12_holds_67 rfl ?_
            refine x_if_ge_f (tgt := 151) qX12_holds_69 (by omega) (by decide) ?_
            refine x_iinc4 qX12_holds_72 (by decide) (cm_dec _) rfl ?_
            refine x_aldn qX12_holds_75 rfl trivial ?_
            refine x_getR qX12_holds_76 fX12_99 rfl rfl ?_
            refine x_ild qX12_holds_79 rfl ?_
            refine x_iconst (v := nI 1) qX12_holds_81 rfl ?_
            refine x_isub_n qX12_holds_82 (by omega) ?_
            refine x_ild qX12_holds_83 rfl ?_
            refine x_bipush (v := -38) qX12_holds_85 rfl ?_
            refine x_icmp_ne_f (tgt := 120) qX12_holds_87 (by omega) rfl ?_
            refine x_aldn qX12_holds_90 rfl trivial ?_
            refine x_getR qX12_holds_91 fX12_99 rfl rfl ?_
            refine x_ild qX12_holds_94 rfl ?_
            refine x_iconst (v := nI 1) qX12_holds_96 rfl ?_
            refine x_isub_n qX12_holds_97 (by omega) ?_
            refine x_zalde qX12_holds_98 dd_93 rfl (by omega) (by decide) e1 ?_
            have low : ∀ i, i < m → (if i + 2 = m + 1 + 1 then F i && F (i + 1) else F i) = F i := fun i hi => if_neg (by omega)
            have top : (if m + 2 = m + 1 + 1 then F m && F (m + 1) else F m) = (F m && F (m + 1)) := if_pos rfl
            cases hF : F m with
            | false =>
              refine x_if_eq_t (tgt := 116) qX12_holds_99 (by omega) (by decide) ?_
              refine x_iconst (v := nI 0) qX12_holds_116 rfl ?_
              refine x_goto (tgt := 147) qX12_holds_117 (by omega) ?_
              exact fin _ false _ hs (by show (if _ then _ else _) = _; rw [top, hF]; rfl) low
            | true =>
              refine x_if_eq_f (tgt := 116) qX12_holds_99 (by omega) (by decide) ?_
              refine x_aldn qX12_holds_102 rfl trivial ?_
              refine x_getR qX12_holds_103 fX12_99 rfl rfl ?_
              refine x_ild qX12_holds_106 rfl ?_
              refine x_zalde qX12_holds_108 dd_93 rfl (by omega) (by decide) e2 ?_
              cases hF2 : F (m + 1) with
              | false =>
                refine x_if_eq_t (tgt := 116) qX12_holds_109 (by omega) (by decide) ?_
                refine x_iconst (v := nI 0) qX12_holds_116 rfl ?_
                refine x_goto (tgt := 147) qX12_holds_117 (by omega) ?_
                exact fin _ false _ hs (by show (if _ then _ else _) = _; rw [top, hF, hF2]; rfl) low
              | true =>
                refine x_if_eq_f (tgt := 116) qX12_holds_109 (by omega) (by decide) ?_
                refine x_iconst (v := nI 1) qX12_holds_112 rfl ?_
                refine x_goto (tgt := 147) qX12_holds_113 (by omega) ?_
                exact fin _ true _ hs (by show (if _ then _ else _) = _; rw [top, hF, hF2]; rfl) low
          · have hs : bstp (tst n mm w r) (m + 1 + 1, F) t = (m + 1, fun j => if j + 2 = m + 1 + 1 then F j || F (j + 1) else F j) := by unfold bstp; rw [if_neg t1, if_neg (by omega), if_pos t2]; rfl
            have er : rtk t = -124 := by rw [t2]; rfl
            rw [er]
            refine x_icmp_ne_t (tgt := 67) qX12_holds_35 (by omega) (by decide) ?_
            refine x_ild qX12_holds_67 rfl ?_
            refine x_if_ge_f (tgt := 151) qX12_holds_69 (by omega) (by decide) ?_
            refine x_iinc4 qX12_holds_72 (by decide) (cm_dec _) rfl ?_
            refine x_aldn qX12_holds_75 rfl trivial ?_
            refine x_getR qX12_holds_76 fX12_99 rfl rfl ?_
            refine x_ild qX12_holds_79 rfl ?_
            refine x_iconst (v := nI 1) qX12_holds_81 rfl ?_
            refine x_isub_n qX12_holds_82 (by omega) ?_
            refine x_ild qX12_holds_83 rfl ?_
            refine x_bipush (v := -38) qX12_holds_85 rfl ?_
            refine x_icmp_ne_t (tgt := 120) qX12_holds_87 (by omega) (by decide) ?_
            refine x_aldn qX12_holds_120 rfl trivial ?_
            refine x_getR qX12_holds_121 fX12_99 rfl rfl ?_
            refine x_ild qX12_holds_124 rfl ?_
            refine x_iconst (v := nI 1) qX12_holds_126 rfl ?_
            refine x_isub_n qX12_holds_127 (by omega) ?_
            refine x_zalde qX12_holds_128 dd_93 rfl (by omega) (by decide) e1 ?_
            have low : ∀ i, i < m → (if i + 2 = m + 1 + 1 then F i || F (i + 1) else F i) = F i := fun i hi => if_neg (by omega)
            have top : (if m + 2 = m + 1 + 1 then F m || F (m + 1) else F m) = (F m || F (m + 1)) := if_pos rfl
            cases hF : F m with
            | true =>
              refine x_if_ne_t (tgt := 142) qX12_holds_129 (by omega) (by decide) ?_
              refine x_iconst (v := nI 1) qX12_holds_142 rfl ?_
              refine x_goto (tgt := 147) qX12_holds_143 (by omega) ?_
              exact fin _ true _ hs (by show (if _ then _ else _) = _; rw [top, hF]; rfl) low
            | false =>
              refine x_if_ne_f (tgt := 142) qX12_holds_129 (by omega) (by decide) ?_
              refine x_aldn qX12_holds_132 rfl trivial ?_
              refine x_getR qX12_holds_133 fX12_99 rfl rfl ?_
              refine x_ild qX12_holds_136 rfl ?_
              refine x_zalde qX12_holds_138 dd_93 rfl (by omega) (by decide) e2 ?_
              cases hF2 : F (m + 1) with
              | false =>
                refine x_if_eq_t (tgt := 146) qX12_holds_139 (by omega) (by decide) ?_
                refine x_iconst (v := nI 0) qX12_holds_146 rfl ?_
                exact fin _ false _ hs (by show (if _ then _ else _) = _; rw [top, hF, hF2]; rfl) low
              | true =>
                refine x_if_eq_f (tgt := 146) qX12_holds_139 (by omega) (by decide) ?_
                refine x_iconst (v := nI 1) qX12_holds_142 rfl ?_
                refine x_goto (tgt := 147) qX12_holds_143 (by omega) ?_
                exact fin _ true _ hs (by show (if _ then _ else _) = _; rw [top, hF, hF2]; rfl) low
        · rw [if_neg t2] at hok' hg'
          obtain ⟨⟨k1, k2, k3⟩, k4⟩ := hok'
          have t5 : t < 5000 := by omega
          have er : rtk t = nI t := by unfold rtk; rw [if_neg t1, if_neg (fun e => t2 (Or.inl e)), if_neg (fun e => t2 (Or.inr e))]
          have hs : bstp (tst n mm w r) (nh, F) t = (nh + 1, fun j => if j = nh then tst n mm w r t else F j) := by unfold bstp; rw [if_neg t1, if_neg (fun e => t2 (Or.inl e)), if_neg (fun e => t2 (Or.inr e))]
          rw [er]
          have fin : ∀ v7 v8 x, tst n mm w r t = x → cm_Ex l g 2 0 0 mX12_holds 260 [.ref 73, .int (nI c), .int (nI w), .int (nI r), .int (nI nh), .int (nI (o + j)), .int (nI t), v7, v8] [.int (b2I x), .int (nI nh), .ref 93] I' L (RR u hr tl) (DD u) Q := fun v7 v8 x hx => by
            refine x_zast qX12_holds_260 dd_93 rfl (by omega) (by decide) (nar_b x) ?_
            refine x_iinc4 qX12_holds_261 (by decide) (cm_inc _) rfl ?_
            refine nxt _ _ _ _ _ _ hs k4 (by omega) hg' (fun i hi => ?_) (fun b h1 => by rw [cm_u_ne h1]; exact hI b h1)
            show _ = b2I (if i = nh then tst n mm w r t else F i)
            by_cases e : i = nh
            · subst e; rw [if_pos rfl, hx]; exact rdE
            · rw [if_neg e, rdK e]; exact hP i (by omega)
          have val : ∀ (v8 : Value), hvl n mm (t / 1000) w r < 1000 → cm_Ex l g 2 0 0 mX12_holds 180 [.ref 73, .int (nI c), .int (nI w), .int (nI r), .int (nI nh), .int (nI (o + j)), .int (nI t), a7, v8] [.int (nI (hvl n mm (t / 1000) w r))] I' L (RR u hr tl) (DD u) Q := fun v8 hv => by
            have et : tst n mm w r t = cmpb (t / 100 % 10) (hvl n mm (t / 1000) w r) (t % 100) := rfl
            rw [et] at fin
            generalize hvl n mm (t / 1000) w r = vv at *
            refine x_ist7 qX12_holds_180 (by decide) rfl ?_
            refine x_ild qX12_holds_182 rfl ?_
            refine x_bipush (v := nI 100) qX12_holds_184 rfl ?_
            refine x_idiv_n qX12_holds_186 (by omega) (by omega) (by omega) ?_
            refine x_bipush (v := nI 10) qX12_holds_187 rfl ?_
            refine x_irem_n qX12_holds_189 (by omega) (by omega) (by omega) ?_
            refine x_ist8 qX12_holds_190 (by decide) rfl ?_
            refine x_aldn qX12_holds_192 rfl trivial ?_
            refine x_getR qX12_holds_193 fX12_99 rfl rfl ?_
            refine x_ild qX12_holds_196 rfl ?_
            refine x_ild qX12_holds_198 rfl ?_
            refine x_if_ne_n (tgt := 221) qX12_holds_200 (by omega) (by omega) (fun h200 => ?_) (fun h200 => ?_)
            · refine x_ild qX12_holds_221 rfl ?_
              refine x_iconst (v := nI 1) qX12_holds_223 rfl ?_
              refine x_icmp_ne_n (tgt := 245) qX12_holds_224 (by omega) (by omega) (by omega) (fun h224 => ?_) (fun h224 => ?_)
              · refine x_ild qX12_holds_245 rfl ?_
                refine x_ild qX12_holds_247 rfl ?_
                refine x_bipush (v := nI 100) qX12_holds_249 rfl ?_
                refine x_irem_n qX12_holds_251 (by omega) (by omega) (by omega) ?_
                refine x_icmp_le_n (tgt := 259) qX12_holds_252 (by omega) (by omega) (by omega) (fun h252 => ?_) (fun h252 => ?_)
                · refine x_iconst (v := nI 0) qX12_holds_259 rfl ?_
                  first | exact fin _ _ true (by unfold cmpb; split <;> (try split) <;> simp only [decide_eq_true_eq] <;> omega) | exact fin _ _ false (by unfold cmpb; split <;> (try split) <;> simp only [decide_eq_false_iff_not] <;> omega)
                · refine x_iconst (v := nI 1) qX12_holds_255 rfl ?_
                  refine x_goto (tgt := 260) qX12_holds_256 (by omega) ?_
                  first | exact fin _ _ true (by unfold cmpb; split <;> (try split) <;> simp only [decide_eq_true_eq] <;> omega) | exact fin _ _ false (by unfold cmpb; split <;> (try split) <;> simp only [decide_eq_false_iff_not] <;> omega)
              · refine x_ild qX12_holds_227 rfl ?_
                refine x_ild qX12_holds_229 rfl ?_
                refine x_bipush (v := nI 100) qX12_holds_231 rfl ?_
                refine x_irem_n qX12_holds_233 (by omega) (by omega) (by omega) ?_
                refine x_icmp_ne_n (tgt := 241) qX12_holds_234 (by omega) (by omega) (by omega) (fun h234 => ?_) (fun h234 => ?_)
                · refine x_iconst (v := nI 0) qX12_holds_241 rfl ?_
                  refine x_goto (tgt := 260) qX12_holds_242 (by omega) ?_
                  first | exact fin _ _ true (by unfold cmpb; split <;> (try split) <;> simp only [decide_eq_true_eq] <;> omega) | exact fin _ _ false (by unfold cmpb; split <;> (try split) <;> simp only [decide_eq_false_iff_not] <;> omega)
                · refine x_iconst (v := nI 1) qX12_holds_237 rfl ?_
                  refine x_goto (tgt := 260) qX12_holds_238 (by omega) ?_
                  first | exact fin _ _ true (by unfold cmpb; split <;> (try split) <;> simp only [decide_eq_true_eq] <;> omega) | exact fin _ _ false (by unfold cmpb; split <;> (try split) <;> simp only [decide_eq_false_iff_not] <;> omega)
            · refine x_ild qX12_holds_203 rfl ?_
              refine x_ild qX12_holds_205 rfl ?_
              refine x_bipush (v := nI 100) qX12_holds_207 rfl ?_
              refine x_irem_n qX12_holds_209 (by omega) (by omega) (by omega) ?_
              refine x_icmp_ge_n (tgt := 217) qX12_holds_210 (by omega) (by omega) (by omega) (fun h210 => ?_) (fun h210 => ?_)
              · refine x_iconst (v := nI 0) qX12_holds_217 rfl ?_
                refine x_goto (tgt := 260) qX12_holds_218 (by omega) ?_
                first | exact fin _ _ true (by unfold cmpb; split <;> (try split) <;> simp only [decide_eq_true_eq] <;> omega) | exact fin _ _ false (by unfold cmpb; split <;> (try split) <;> simp only [decide_eq_false_iff_not] <;> omega)
              · refine x_iconst (v := nI 1) qX12_holds_213 rfl ?_
                refine x_goto (tgt := 260) qX12_holds_214 (by omega) ?_
                first | exact fin _ _ true (by unfold cmpb; split <;> (try split) <;> simp only [decide_eq_true_eq] <;> omega) | exact fin _ _ false (by unfold cmpb; split <;> (try split) <;> simp only [decide_eq_false_iff_not] <;> omega)
          refine x_icmp_ne_t (tgt := 67) qX12_holds_35 (by omega) (fun e => by have := congrArg Int32.toInt e; rw [nI_toInt (by omega), t33] at this; omega) ?_
          refine x_ild qX12_holds_67 rfl ?_
          refine x_if_ge_nt (tgt := 151) qX12_holds_69 (by omega) (by omega) ?_
          refine x_ild qX12_holds_151 rfl ?_
          refine x_sipush (v := nI 1000) qX12_holds_153 rfl ?_
          refine x_idiv_n qX12_holds_156 (by omega) (by omega) (by omega) ?_
          refine x_iconst (v := nI 4) qX12_holds_157 rfl ?_
          refine x_icmp_ne_n (tgt := 165) qX12_holds_158 (by omega) (by omega) (by omega) (fun e4 => ?_) (fun e4 => ?_)
          · have hd4 : hvl n mm (t / 1000) w r = (if t / 1000 < n then dgt mm w (t / 1000) else 0) := by unfold hvl; rw [if_neg e4]
            have hl : hvl n mm (t / 1000) w r < 1000 := by
              rw [hd4]
              split
              · rename_i q
                have := dgt_lt ho q w
                have := (ho _ q).2
                omega
              · omega
            refine x_aldn qX12_holds_165 rfl trivial ?_
            refine x_getR qX12_holds_166 fX12_80 rfl rfl ?_
            refine x_iconst (v := nI 4) qX12_holds_169 rfl ?_
            refine x_ildn qX12_holds_170 rfl ?_
            refine x_imul_n qX12_holds_171 ?_
            refine x_ild qX12_holds_172 rfl ?_
            refine x_sipush (v := nI 1000) qX12_holds_174 rfl ?_
            refine x_idiv_n qX12_holds_177 (by omega) (by omega) (by omega) ?_
            refine x_iadd_n qX12_holds_178 ?_
            refine x_ialde qX12_holds_179 dd_87 rfl (by omega) (by decide) (show _ = nI (hvl n mm (t / 1000) w r) from by rw [hI 87 (by decide), S _ (by omega), hd4]) ?_
            exact val _ hl
          · have hd4 : hvl n mm (t / 1000) w r = r := by unfold hvl; rw [if_pos e4]
            refine x_ildn qX12_holds_161 rfl ?_
            refine x_goto (tgt := 180) qX12_holds_162 (by omega) ?_
            have q := val a8 (by rw [hd4]; omega)
            rw [hd4] at q
            exact q
  refine x_iconst (v := nI 0) qX12_holds_0 rfl ?_
  refine x_ist4 qX12_holds_1 (by decide) rfl ?_
  refine x_aldn qX12_holds_3 rfl trivial ?_
  refine x_getR qX12_holds_4 fX12_53 rfl rfl ?_
  refine x_ildn qX12_holds_7 rfl ?_
  refine x_ialde qX12_holds_8 dd_81 rfl (by omega) (by decide) b1 ?_
  refine x_ist5 qX12_holds_9 (by decide) rfl ?_
  exact loop toks 0 0 (fun _ => false) I _ _ _ rfl (by omega) b7 (by omega) b8 (fun i hi => absurd hi (by omega)) (fun _ _ => rfl) hQ
end M13
