/-! the reference's reader: an E, the loop -/
section M5
variable {l : Launch} {g : cm_G} {I : cm_I} {L : cm_L} {hr tl : Option Nat} {Q : cm_Post} {u len p : Nat} {tx : Nat → Nat}
theorem stl_sum {b : Nat} : ∀ (W ts : List Nat), (stl b W ts).2.length + (stl b W ts).1.length = ts.length + W.length := by
  intro W
  induction W with
  | nil => intro ts; rfl
  | cons x W ih =>
    intro ts
    show (if x = 38 then stl b W (ts ++ [5038]) else if x = 124 ∧ b ≠ 38 then stl b W (ts ++ [5124]) else (x :: W, ts)).2.length + (if x = 38 then stl b W (ts ++ [5038]) else if x = 124 ∧ b ≠ 38 then stl b W (ts ++ [5124]) else (x :: W, ts)).1.length = _
    split
    · rw [ih]; simp; omega
    · split
      · rw [ih]; simp; omega
      · rfl
theorem whl_sum : ∀ (W ts : List Nat), (whl W ts).2.length + (whl W ts).1.length = ts.length + W.length := by
  intro W
  induction W with
  | nil => intro ts; rfl
  | cons x W ih =>
    intro ts
    show (if x = 33 then whl W (ts ++ [5033]) else (x :: W, ts)).2.length + (if x = 33 then whl W (ts ++ [5033]) else (x :: W, ts)).1.length = _
    split
    · rw [ih]; simp; omega
    · rfl
/-- what waits, is: a bracket, a not, an and, an or -/
def wok (W : List Nat) : Prop := ∀ x, x ∈ W → x = 33 ∨ x = 40 ∨ x = 38 ∨ x = 124
theorem wok_stl {b : Nat} : ∀ {W ts : List Nat}, wok W → wok (stl b W ts).1 := by
  intro W
  induction W with
  | nil => intro ts h; exact h
  | cons x W ih =>
    intro ts h
    have h2 : wok W := fun y hy => h y (List.mem_cons_of_mem _ hy)
    show wok (if x = 38 then stl b W (ts ++ [5038]) else if x = 124 ∧ b ≠ 38 then stl b W (ts ++ [5124]) else (x :: W, ts)).1
    split
    · exact ih h2
    · split
      · exact ih h2
      · exact h
theorem wok_whl : ∀ {W ts : List Nat}, wok W → wok (whl W ts).1 := by
  intro W
  induction W with
  | nil => intro ts h; exact h
  | cons x W ih =>
    intro ts h
    have h2 : wok W := fun y hy => h y (List.mem_cons_of_mem _ hy)
    show wok (if x = 33 then whl W (ts ++ [5033]) else (x :: W, ts)).1
    split
    · exact ih h2
    · exact h
theorem stl_head : ∀ {W ts : List Nat} {x : Nat} {X : List Nat}, wok W → (stl 124 W ts).1 = x :: X → x = 33 ∨ x = 40 := by
  intro W
  induction W with
  | nil => intro ts x X _ h; cases h
  | cons y W ih =>
    intro ts x X hw h
    have h2 : wok W := fun z hz => hw z (List.mem_cons_of_mem _ hz)
    have h' : (if y = 38 then stl 124 W (ts ++ [5038]) else if y = 124 ∧ 124 ≠ 38 then stl 124 W (ts ++ [5124]) else (y :: W, ts)).1 = x :: X := h
    by_cases e : y = 38
    · rw [if_pos e] at h'; exact ih h2 h'
    · rw [if_neg e] at h'
      by_cases e2 : y = 124
      · rw [if_pos ⟨e2, by decide⟩] at h'; exact ih h2 h'
      · rw [if_neg (fun q => e2 q.1)] at h'
        cases h'
        rcases hw y (List.mem_cons_self) with q | q | q | q
        · exact Or.inl q
        · exact Or.inr q
        · exact absurd q e
        · exact absurd q e2
theorem c_X12_takesE {c o B : Nat} (T : MX len tx I) (hp : I 73 7 = nI p) (hpl : p ≤ len) (hs : I 73 18 = nI o) (hc72 : c < 72) (hB : o ≤ B + p) (hB5 : B ≤ 500) (hBo : B ≤ o) (hok : ∀ p' ts I', pEf (pS (pk len tx) 4) (pk len tx) p = (p', some ts) → p' ≤ len → I' 73 7 = nI p' → TS o ts I' → I' 81 c = nI o → I' 82 c = nI (o + ts.length) → o + ts.length ≤ B + p' → FB c o I I' → Q (some (.int 1)) I' L (RR u hr tl) (DD u)) (hno : ∀ p' I', pEf (pS (pk len tx) 4) (pk len tx) p = (p', none) → p' ≤ len → I' 73 7 = nI p' → FB c o I I' → Q (some (.int 0)) I' L (RR u hr tl) (DD u)) : cm_Ex l g 5 0 0 mX12_takesE 0 [.ref 73, .int (nI c), .float 0, .float 0] [] I L (RR u hr tl) (DD u) Q := by
  have hl := T.2.1
  have hcc := pkb (fun p h => (T.2.2 p h).2)
  have loop : ∀ f q wt W ts r (v3 : Value) I', mch (pk len tx) f q wt W ts = some r → r = pEf (pS (pk len tx) 4) (pk len tx) p → v3.category = 1 → q ≤ len → I' 73 7 = nI q → PS o W ts I' → I' 81 c = nI o → wok W → o + ts.length + W.length ≤ B + q → FB c o I I' → cm_Ex l g 5 0 0 mX12_takesE 22 [.ref 73, .int (nI c), .int (b2I wt), v3] [] I' L (RR u hr tl) (DD u) Q := by
    intro f
    induction f with
    | zero => intro q wt W ts r v3 I' hm; cases hm
    | succ f ih =>
      intro q wt W ts r v3 I' hm her hv hq h7 P h81 hw hlen F
      have T' := MX_FB T F
      have h19 := P.2.1
      have h20 := P.2.2.1
      have ol := @opW_le W
      refine x_aldn qX12_takesE_22 rfl trivial ?_
      refine x_cV0 (d' := 1) qX12_takesE_23 cX12_160 rfl ⟨_, rfl, rfl⟩ rfl rfl (Nat.le_of_ble_eq_true rfl) (Nat.le_of_ble_eq_true rfl) (by decide) ?_
      refine c_X12_next T' h7 (by omega) ?_
      refine x_ist3 qX12_takesE_26 (by decide) rfl ?_
      have pshW : ∀ y, (y = 33 ∨ y = 40 ∨ y = 38 ∨ y = 124) → ∀ V, wok V → wok (y :: V) := fun y hy V hV z hz => by
        rcases List.mem_cons.mp hz with e | e
        · rw [e]; exact hy
        · exact hV z e
      cases wt with
      | true =>
        refine x_ildn qX12_takesE_27 rfl ?_
        refine x_if_eq_f (tgt := 110) qX12_takesE_28 (by omega) (by decide) ?_
        have push : (pk len tx q = 33 ∨ pk len tx q = 40) → cm_Ex l g 5 0 0 mX12_takesE 43 [.ref 73, .int (nI c), .int (b2I true), .int (rvI (pk len tx q))] [] I' L (RR u hr tl) (DD u) Q := fun h => by
          have e := rv_nI (c := pk len tx q) (by omega)
          have hql := pkc_lt (len := len) (tx := tx) (p := q) rfl (by omega)
          rw [e]
          simp only [mch] at hm
          rw [if_pos h] at hm
          refine x_aldn qX12_takesE_43 rfl trivial ?_
          refine x_getIe qX12_takesE_44 fX12_71 rfl h20 ?_
          refine x_iconst (v := nI 4) qX12_takesE_47 rfl ?_
          by_cases h4 : opW W = 4
          · rw [if_pos h4] at hm
            refine x_icmp_ne_nf (tgt := 53) qX12_takesE_48 (by omega) (by omega) (by omega) h4 ?_
            refine x_iconst (v := nI 0) qX12_takesE_51 rfl ?_
            refine x_iret qX12_takesE_52 rfl rfl ?_
            refine hno q I' ?_ hq h7 F
            rw [← her]; cases hm; rfl
          · rw [if_neg h4] at hm
            refine x_icmp_ne_nt (tgt := 53) qX12_takesE_48 (by omega) (by omega) (by omega) h4 ?_
            refine x_aldn qX12_takesE_53 rfl trivial ?_
            refine x_dup qX12_takesE_54 rfl ?_
            refine x_getIe qX12_takesE_55 fX12_71 rfl h20 ?_
            refine x_iconst (v := nI 1) qX12_takesE_58 rfl ?_
            refine x_iadd_n qX12_takesE_59 ?_
            refine x_putI qX12_takesE_60 fX12_71 (Or.inl rfl) rfl ?_
            refine x_aldn qX12_takesE_63 rfl trivial ?_
            refine x_getR qX12_takesE_64 fX12_62 rfl rfl ?_
            refine x_aldn qX12_takesE_67 rfl trivial ?_
            refine x_getIe qX12_takesE_68 fX12_68 rfl (show _ = nI W.length from by rw [rdK (by decide)]; exact h19) ?_
            refine x_ildn qX12_takesE_71 rfl ?_
            refine x_iast qX12_takesE_72 dd_84 rfl (by omega) (by decide) ?_
            refine x_aldn qX12_takesE_73 rfl trivial ?_
            refine x_dup qX12_takesE_74 rfl ?_
            refine x_getIe qX12_takesE_75 fX12_68 rfl (show _ = nI W.length from by rw [rdB (by decide), rdK (by decide)]; exact h19) ?_
            refine x_iconst (v := nI 1) qX12_takesE_78 rfl ?_
            refine x_iadd_n qX12_takesE_79 ?_
            refine x_putI qX12_takesE_80 fX12_68 (Or.inl rfl) rfl ?_
            refine x_aldn qX12_takesE_83 rfl trivial ?_
            refine x_dup qX12_takesE_84 rfl ?_
            refine x_getIe qX12_takesE_85 fX12_32 rfl (show _ = nI q from by rw [rdK (by decide), rdB (by decide), rdK (by decide)]; exact h7) ?_
            refine x_iconst (v := nI 1) qX12_takesE_88 rfl ?_
            refine x_iadd_n qX12_takesE_89 ?_
            refine x_putI qX12_takesE_90 fX12_32 (Or.inl rfl) rfl ?_
            refine x_goto (tgt := 22) qX12_takesE_93 (by omega) ?_
            refine ih (q + 1) true (pk len tx q :: W) ts r _ _ hm her rfl (by omega) rdE ⟨TS_fr P.1 ?_ ?_, ?_, ?_, ⟨?_, by omega⟩, WS_fr (fun j hj => ?_) P.2.2.2⟩ ?_ (pshW _ (by omega) _ hw) (by simp; omega) (FB_tr F (FB_S (FS_tr (FS_73 (by omega)) (FS_tr FS_84 (FS_tr (FS_73 (by omega)) (FS_73 (by omega)))))))
            · rw [rdK (by decide), rdK (by decide), rdB (by decide), rdK (by decide)]
            · rw [cm_u_ne (by decide), cm_u_ne (by decide), cm_u_ne (by decide), cm_u_ne (by decide)]
            · rw [rdK (by decide), rdE]; rfl
            · rw [rdK (by decide), rdK (by decide), rdB (by decide), rdE, opW_br h]
            · rw [rdB (by decide), rdB (by decide), rdE]
            · rw [rdB (by decide), rdB (by decide), rdK (by omega), rdB (by decide)]
            · rw [rdB (by decide), rdB (by decide), rdB (by decide), rdB (by decide)]; exact h81
        refine x_ildn qX12_takesE_31 rfl ?_
        refine x_bipush (v := nI 33) qX12_takesE_32 rfl ?_
        refine x_icmp_eq (tgt := 43) qX12_takesE_34 (by omega) (fun h => ?_) (fun h => ?_)
        · rw [rv_eq _ (hcc q) 33 (by decide)] at h
          exact push (Or.inl h)
        · rw [rv_eq _ (hcc q) 33 (by decide)] at h
          refine x_ildn qX12_takesE_37 rfl ?_
          refine x_bipush (v := nI 40) qX12_takesE_38 rfl ?_
          refine x_icmp_ne (tgt := 96) qX12_takesE_40 (by omega) (fun h2 => ?_) (fun h2 => ?_)
          · rw [rv_eq _ (hcc q) 40 (by decide)] at h2
            simp only [mch] at hm
            rw [if_neg (by omega)] at hm
            refine x_aldn qX12_takesE_96 rfl trivial ?_
            refine x_cV0 (d' := 4) qX12_takesE_97 cX12_180 rfl ⟨_, rfl, rfl⟩ rfl rfl (Nat.le_of_ble_eq_true rfl) (Nat.le_of_ble_eq_true rfl) (by decide) ?_
            refine c_X12_takesTest (o := o) (B := B) (W := W) (ts := ts) T' h7 hq P hlen hB5 hBo (fun p' t I2 ht hp' hl2 h72 P2 F2 => ?_) (fun p' I2 ht hp' h72 F2 => ?_)
            · rw [ht] at hm
              refine x_if_eq_f (tgt := 108) qX12_takesE_100 (by omega) (by decide) ?_
              refine x_iconst (v := nI 0) qX12_takesE_103 rfl ?_
              refine x_ist2 qX12_takesE_104 (by decide) rfl ?_
              refine x_goto (tgt := 22) qX12_takesE_105 (by omega) ?_
              exact ih p' false _ _ r _ I2 hm her rfl hp' h72 P2 (by rw [F2.1 81 (by decide) (by decide) (by decide)]; exact h81) (wok_whl hw) hl2 (FB_tr F (FB_S F2))
            · rw [ht] at hm
              refine x_if_eq_t (tgt := 108) qX12_takesE_100 (by omega) (by decide) ?_
              refine x_iconst (v := nI 0) qX12_takesE_108 rfl ?_
              refine x_iret qX12_takesE_109 rfl rfl ?_
              refine hno p' I2 ?_ hp' h72 (FB_tr F (FB_S F2))
              rw [← her]; cases hm; rfl
          · rw [rv_eq _ (hcc q) 40 (by decide)] at h2
            exact push (Or.inr h2)
      | false =>
        refine x_ildn qX12_takesE_27 rfl ?_
        refine x_if_eq_t (tgt := 110) qX12_takesE_28 (by omega) (by decide) ?_
        have op : (pk len tx q = 38 ∨ pk len tx q = 124) → cm_Ex l g 5 0 0 mX12_takesE 122 [.ref 73, .int (nI c), .int (b2I false), .int (rvI (pk len tx q))] [] I' L (RR u hr tl) (DD u) Q := fun h => by
          have e := rv_nI (c := pk len tx q) (by omega)
          have hql := pkc_lt (len := len) (tx := tx) (p := q) rfl (by omega)
          have ss := @stl_sum (pk len tx q) W ts
          rw [e]
          simp only [mch] at hm
          rw [if_pos h] at hm
          refine x_aldn qX12_takesE_122 rfl trivial ?_
          refine x_ildn qX12_takesE_123 rfl ?_
          refine x_cV1 (d' := 2) qX12_takesE_124 cX12_183 rfl ⟨_, rfl, rfl⟩ rfl rfl (Nat.le_of_ble_eq_true rfl) (Nat.le_of_ble_eq_true rfl) (by decide) ?_
          refine c_X12_settle (o := o) (by omega) W ts I' P (by omega) (by omega) (fun I2 P2 h27 F2 => ?_)
          have k19 := P2.2.1
          have k20 := P2.2.2.1
          have k7 : I2 73 7 = nI q := h27.trans h7
          have k81 : I2 81 c = nI o := by rw [F2.1 81 (by decide) (by decide) (by decide)]; exact h81
          refine x_aldn qX12_takesE_127 rfl trivial ?_
          refine x_getR qX12_takesE_128 fX12_62 rfl rfl ?_
          refine x_aldn qX12_takesE_131 rfl trivial ?_
          refine x_getIe qX12_takesE_132 fX12_68 rfl k19 ?_
          refine x_ildn qX12_takesE_135 rfl ?_
          refine x_iast qX12_takesE_136 rfl rfl (by omega) (by decide) ?_
          refine x_aldn qX12_takesE_137 rfl trivial ?_
          refine x_dup qX12_takesE_138 rfl ?_
          refine x_getIe qX12_takesE_139 fX12_68 rfl (show _ = nI (stl (pk len tx q) W ts).1.length from by rw [rdB (by decide)]; exact k19) ?_
          refine x_iconst (v := nI 1) qX12_takesE_142 rfl ?_
          refine x_iadd_n qX12_takesE_143 ?_
          refine x_putI qX12_takesE_144 fX12_68 (Or.inl rfl) rfl ?_
          refine x_iconst (v := nI 1) qX12_takesE_147 rfl ?_
          refine x_ist2 qX12_takesE_148 (by decide) rfl ?_
          refine x_aldn qX12_takesE_149 rfl trivial ?_
          refine x_dup qX12_takesE_150 rfl ?_
          refine x_getIe qX12_takesE_151 fX12_32 rfl (show _ = nI q from by rw [rdK (by decide), rdB (by decide)]; exact k7) ?_
          refine x_iconst (v := nI 1) qX12_takesE_154 rfl ?_
          refine x_iadd_n qX12_takesE_155 ?_
          refine x_putI qX12_takesE_156 fX12_32 (Or.inl rfl) rfl ?_
          refine x_goto (tgt := 22) qX12_takesE_159 (by omega) ?_
          refine ih (q + 1) true (pk len tx q :: (stl (pk len tx q) W ts).1) (stl (pk len tx q) W ts).2 r _ _ hm her rfl (by omega) rdE ⟨TS_fr P2.1 ?_ ?_, ?_, ?_, ⟨?_, by omega⟩, WS_fr (fun j hj => ?_) P2.2.2.2⟩ ?_ (pshW _ (by omega) _ (wok_stl hw)) (by simp; omega) (FB_tr F (FB_S (FS_tr F2 (FS_tr FS_84 (FS_tr (FS_73 (by omega)) (FS_73 (by omega)))))))
          · rw [rdK (by decide), rdK (by decide), rdB (by decide)]
          · rw [cm_u_ne (by decide), cm_u_ne (by decide), cm_u_ne (by decide)]
          · rw [rdK (by decide), rdE]; rfl
          · rw [rdK (by decide), rdK (by decide), rdB (by decide), opW_op h]; exact k20
          · rw [rdB (by decide), rdB (by decide), rdE]
          · rw [rdB (by decide), rdB (by decide), rdK (by omega)]
          · rw [rdB (by decide), rdB (by decide), rdB (by decide)]; exact k81
        refine x_ildn qX12_takesE_110 rfl ?_
        refine x_bipush (v := nI 38) qX12_takesE_111 rfl ?_
        refine x_icmp_eq (tgt := 122) qX12_takesE_113 (by omega) (fun h => ?_) (fun h => ?_)
        · rw [rv_eq _ (hcc q) 38 (by decide)] at h
          exact op (Or.inl h)
        · rw [rv_eq _ (hcc q) 38 (by decide)] at h
          refine x_ildn qX12_takesE_116 rfl ?_
          refine x_bipush (v := nI 124) qX12_takesE_117 rfl ?_
          refine x_icmp_ne (tgt := 162) qX12_takesE_119 (by omega) (fun h2 => ?_) (fun h2 => ?_)
          · rw [rv_eq _ (hcc q) 124 (by decide)] at h2
            simp only [mch] at hm
            rw [if_neg (by omega)] at hm
            have ss := @stl_sum 124 W ts
            refine x_aldn qX12_takesE_162 rfl trivial ?_
            refine x_bipush (v := nI 124) qX12_takesE_163 rfl ?_
            refine x_cV1 (d' := 2) qX12_takesE_165 cX12_183 rfl ⟨_, rfl, rfl⟩ rfl rfl (Nat.le_of_ble_eq_true rfl) (Nat.le_of_ble_eq_true rfl) (by decide) ?_
            refine c_X12_settle (o := o) (by omega) W ts I' P (by omega) (by omega) (fun I2 P2 h27 F2 => ?_)
            have k19 := P2.2.1
            have k20 := P2.2.2.1
            have k7 : I2 73 7 = nI q := h27.trans h7
            have k81 : I2 81 c = nI o := by rw [F2.1 81 (by decide) (by decide) (by decide)]; exact h81
            have F3 : FB c o I (cm_u I2 82 c (nI (o + (stl 124 W ts).2.length))) := FB_tr F (FB_tr (FB_S F2) FB_82)
            have P3 : PS o (stl 124 W ts).1 (stl 124 W ts).2 (cm_u I2 82 c (nI (o + (stl 124 W ts).2.length))) := ⟨TS_fr P2.1 (rdB (by decide)) (cm_u_ne (by decide)), by rw [rdB (by decide)]; exact k19, by rw [rdB (by decide)]; exact k20, WS_fr (fun j _ => rdB (by decide)) P2.2.2.2⟩
            have m7 : cm_u I2 82 c (nI (o + (stl 124 W ts).2.length)) 73 7 = nI q := by rw [rdB (by decide)]; exact k7
            have m81 : cm_u I2 82 c (nI (o + (stl 124 W ts).2.length)) 81 c = nI o := by rw [rdB (by decide)]; exact k81
            have m82 : cm_u I2 82 c (nI (o + (stl 124 W ts).2.length)) 82 c = nI (o + (stl 124 W ts).2.length) := rdE
            have wS := wok_stl (b := 124) (ts := ts) hw
            have hS := fun x X => @stl_head W ts x X hw
            refine x_aldn qX12_takesE_168 rfl trivial ?_
            refine x_getR qX12_takesE_169 fX12_56 rfl rfl ?_
            refine x_ildn qX12_takesE_172 rfl ?_
            refine x_aldn qX12_takesE_173 rfl trivial ?_
            refine x_getIe qX12_takesE_174 fX12_65 rfl P2.1.1 ?_
            refine x_iast qX12_takesE_177 dd_82 rfl (by omega) (by decide) ?_
            refine x_aldn qX12_takesE_178 rfl trivial ?_
            refine x_getIe qX12_takesE_179 fX12_68 rfl P3.2.1 ?_
            generalize cm_u I2 82 c (nI (o + (stl 124 W ts).2.length)) = I3 at *
            generalize stl 124 W ts = S at *
            obtain ⟨V, ss'⟩ := S
            cases V with
            | nil =>
              rw [if_pos rfl] at hm
              refine x_if_ne_f (tgt := 187) qX12_takesE_182 (by omega) (show nI 0 = 0 from by decide) ?_
              refine x_iconst (v := nI 1) qX12_takesE_185 rfl ?_
              refine x_iret qX12_takesE_186 rfl rfl ?_
              refine hok q ss' I3 ?_ hq m7 P3.1 m81 m82 ?_ F3
              · rw [← her]; cases hm; rfl
              · have e0 : ss'.length + 0 = ts.length + W.length := ss
                omega
            | cons x X =>
              rw [if_neg (by simp)] at hm
              have hx := hS x X rfl
              have l2 : ss'.length + (X.length + 1) = ts.length + W.length := ss
              have n19 : I3 73 19 = nI (X.length + 1) := P3.2.1
              have n20 : I3 73 20 = nI (opW X + 1) := by have := P3.2.2.1; rw [opW_br hx] at this; exact this
              have ol2 := @opW_le X
              refine x_if_ne_n (tgt := 187) qX12_takesE_182 (by omega) (by show X.length + 1 < _; omega) (fun _ => ?_) (fun h => absurd h (by simp))
              refine x_ildn qX12_takesE_187 rfl ?_
              refine x_bipush (v := nI 41) qX12_takesE_188 rfl ?_
              refine x_icmp_eq (tgt := 195) qX12_takesE_190 (by omega) (fun h3 => ?_) (fun h3 => ?_)
              · rw [rv_eq _ (hcc q) 41 (by decide)] at h3
                rw [if_pos h3] at hm
                have hql := pkc_lt (len := len) (tx := tx) (p := q) rfl (by omega)
                have ws := whl_sum X ss'
                refine x_aldn qX12_takesE_195 rfl trivial ?_
                refine x_dup qX12_takesE_196 rfl ?_
                refine x_getIe qX12_takesE_197 fX12_68 rfl n19 ?_
                refine x_iconst (v := nI 1) qX12_takesE_200 rfl ?_
                refine x_isub_n qX12_takesE_201 (by omega) ?_
                refine x_putI qX12_takesE_202 fX12_68 (Or.inl rfl) rfl ?_
                refine x_aldn qX12_takesE_205 rfl trivial ?_
                refine x_dup qX12_takesE_206 rfl ?_
                refine x_getIe qX12_takesE_207 fX12_71 rfl (show _ = nI (opW X + 1) from by rw [rdK (by decide)]; exact n20) ?_
                refine x_iconst (v := nI 1) qX12_takesE_210 rfl ?_
                refine x_isub_n qX12_takesE_211 (by omega) ?_
                refine x_putI qX12_takesE_212 fX12_71 (Or.inl rfl) rfl ?_
                refine x_aldn qX12_takesE_215 rfl trivial ?_
                refine x_dup qX12_takesE_216 rfl ?_
                refine x_getIe qX12_takesE_217 fX12_32 rfl (show _ = nI q from by rw [rdK (by decide), rdK (by decide)]; exact m7) ?_
                refine x_iconst (v := nI 1) qX12_takesE_220 rfl ?_
                refine x_iadd_n qX12_takesE_221 ?_
                refine x_putI qX12_takesE_222 fX12_32 (Or.inl rfl) rfl ?_
                refine x_aldn qX12_takesE_225 rfl trivial ?_
                refine x_cV0 (d' := 2) qX12_takesE_226 cX12_177 rfl ⟨_, rfl, rfl⟩ rfl rfl (Nat.le_of_ble_eq_true rfl) (Nat.le_of_ble_eq_true rfl) (by decide) ?_
                refine c_X12_whole (o := o) X ss' _ ⟨TS_fr P3.1 ?_ ?_, ?_, ?_, WS_fr (fun j hj => ?_) P3.2.2.2.2⟩ (by omega) (by omega) (fun I4 P4 h47 F4 => ?_)
                · rw [rdK (by decide), rdK (by decide), rdK (by decide)]
                · rw [cm_u_ne (by decide), cm_u_ne (by decide), cm_u_ne (by decide)]
                · rw [rdK (by decide), rdK (by decide), rdE]; rfl
                · rw [rdK (by decide), rdE]; rfl
                · rw [rdB (by decide), rdB (by decide), rdB (by decide)]
                · refine x_goto (tgt := 22) qX12_takesE_229 (by omega) ?_
                  refine ih (q + 1) false _ _ r _ I4 hm her rfl (by omega) (by rw [h47, rdE]) P4 ?_ (wok_whl (fun y hy => wS y (List.mem_cons_of_mem _ hy))) ?_ (FB_tr F3 (FB_S (FS_tr (FS_tr (FS_73 (by omega)) (FS_tr (FS_73 (by omega)) (FS_73 (by omega)))) F4)))
                  · rw [F4.1 81 (by decide) (by decide) (by decide), rdB (by decide), rdB (by decide), rdB (by decide)]; exact m81
                  · show o + (whl X ss').2.length + (whl X ss').1.length ≤ B + (q + 1)
                    omega
              · rw [rv_eq _ (hcc q) 41 (by decide)] at h3
                rw [if_neg h3] at hm
                refine x_iconst (v := nI 0) qX12_takesE_193 rfl ?_
                refine x_iret qX12_takesE_194 rfl rfl ?_
                refine hno q I3 ?_ hq m7 F3
                rw [← her]; cases hm; rfl
          · rw [rv_eq _ (hcc q) 124 (by decide)] at h2
            exact op (Or.inr h2)
  refine x_aldn qX12_takesE_0 rfl trivial ?_
  refine x_iconst (v := nI 0) qX12_takesE_1 rfl ?_
  refine x_putI qX12_takesE_2 fX12_68 (Or.inl rfl) rfl ?_
  refine x_aldn qX12_takesE_5 rfl trivial ?_
  refine x_iconst (v := nI 0) qX12_takesE_6 rfl ?_
  refine x_putI qX12_takesE_7 fX12_71 (Or.inl rfl) rfl ?_
  refine x_aldn qX12_takesE_10 rfl trivial ?_
  refine x_getR qX12_takesE_11 fX12_53 rfl rfl ?_
  refine x_ildn qX12_takesE_14 rfl ?_
  refine x_aldn qX12_takesE_15 rfl trivial ?_
  refine x_getIe qX12_takesE_16 fX12_65 rfl (show _ = nI o from by rw [rdK (by decide), rdK (by decide)]; exact hs) ?_
  refine x_iast qX12_takesE_19 dd_81 rfl (by omega) (by decide) ?_
  refine x_iconst (v := nI 1) qX12_takesE_20 rfl ?_
  refine x_ist2 qX12_takesE_21 (by decide) rfl ?_
  obtain ⟨f, hf⟩ := Rn_E (len := len) (tx := tx) hl p
  refine loop f p true [] [] _ _ _ hf rfl rfl hpl ?_ ⟨⟨?_, fun j t h => by cases h⟩, ?_, ?_, trivial⟩ rdE (fun x hx => by cases hx) (by simpa using hB) (FB_tr (FB_S (FS_tr (FS_73 (by omega)) (FS_73 (by omega)))) FB_81)
  · rw [rdB (by decide), rdK (by decide), rdK (by decide)]; exact hp
  · rw [rdB (by decide), rdK (by decide), rdK (by decide)]; exact hs
  · rw [rdB (by decide), rdK (by decide), rdE]; rfl
  · rw [rdB (by decide), rdE]; rfl
end M5
