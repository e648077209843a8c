/-! Telling: costOf, bestNext -/
def optI : Option Nat → Int32
  | none => -1
  | some b => nI b
theorem cst_bd {lv nx : Nat → Nat → Bool} {c : Nat → Int} {ch : Nat → Nat → Int} {W len : Nat} {B : Int} (hB : 0 ≤ B) (hc : ∀ w, w < W → -B ≤ c w ∧ c w ≤ B) (hch : ∀ u v, u < W → v < W → 0 ≤ ch u v ∧ ch u v ≤ 4) : ∀ m w, w < W → -((m + 1 : Nat) * (B + 4)) ≤ cst lv nx c ch W len m w ∧ cst lv nx c ch W len m w ≤ (m + 1 : Nat) * (B + 4) := by
  intro m
  induction m with
  | zero =>
    intro w hw
    have := hc w hw
    have e : ((0 + 1 : Nat) : Int) * (B + 4) = B + 4 := by rw [Nat.zero_add, Int.natCast_one, Int.one_mul]
    rw [e]
    show -_ ≤ c w ∧ c w ≤ _
    omega
  | succ m ih =>
    intro w hw
    have h1 := hc w hw
    have e : ((m + 1 + 1 : Nat) : Int) * (B + 4) = (m + 1 : Nat) * (B + 4) + (B + 4) := by
      rw [Int.natCast_add (m + 1) 1, Int.add_mul, Int.natCast_one, Int.one_mul]
    rw [e]
    have hp : (0 : Int) ≤ (m + 1 : Nat) * (B + 4) := Int.mul_nonneg (by omega) (by omega)
    unfold cst
    cases ha : amin (fun v => lv (len - 1 - m) v && nx w v) (fun v => cst lv nx c ch W len m v + ch w v) W with
    | none => simp only []; omega
    | some v =>
      have hv := (amin_some ha).1
      have h2 := ih v hv
      have h3 := hch w v hw hv
      simp only []
      omega
theorem chg_le {mm : Nat → Nat} : ∀ {n : Nat} (u v : Nat), chg mm n u v ≤ n := by
  intro n
  induction n with
  | zero => intro u v; exact Nat.le_refl _
  | succ n ih => intro u v; have := ih u v; simp only [chg]; split <;> omega
section TB
variable {fit nx : Nat → Nat → Bool} {W len : Nat} {c : Nat → Int} {ch : Nat → Nat → Int}
theorem tlr_ok (ht : tal fit nx W len = true) : ∀ r, r < len → tlr (liv fit nx W len) nx c ch W len r < W ∧ liv fit nx W len r (tlr (liv fit nx W len) nx c ch W len r) = true := by
  intro r
  induction r with
  | zero =>
    intro h
    rw [tal_liv h] at ht
    show (amin _ _ W).getD 0 < W ∧ liv fit nx W len 0 ((amin _ _ W).getD 0) = true
    cases ha : amin (liv fit nx W len 0) (fun v => cst (liv fit nx W len) nx c ch W len (len - 1) v) W with
    | none => rw [amin_none.mp ha] at ht; cases ht
    | some b => have := amin_some ha; exact ⟨this.1, this.2.1⟩
  | succ r ih =>
    intro h
    obtain ⟨h1, h2⟩ := ih (by omega)
    have h3 := liv_next h h2
    show (amin _ _ W).getD 0 < W ∧ liv fit nx W len (r + 1) ((amin _ _ W).getD 0) = true
    cases ha : amin (fun v => liv fit nx W len (r + 1) v && nx (tlr (liv fit nx W len) nx c ch W len r) v) (fun v => cst (liv fit nx W len) nx c ch W len (len - 1 - (r + 1)) v + ch (tlr (liv fit nx W len) nx c ch W len r) v) W with
    | none => rw [amin_none.mp ha] at h3; cases h3
    | some b =>
      have := amin_some ha
      have h4 := this.2.1
      rw [Bool.and_eq_true] at h4
      exact ⟨this.1, h4.1⟩
theorem tlr_0 (h : 0 < len) (ht : tal fit nx W len = true) : amin (liv fit nx W len 0) (fun v => cst (liv fit nx W len) nx c ch W len (len - 1) v) W = some (tlr (liv fit nx W len) nx c ch W len 0) := by
  show _ = some ((amin _ _ W).getD 0)
  cases ha : amin (liv fit nx W len 0) (fun v => cst (liv fit nx W len) nx c ch W len (len - 1) v) W with
  | none => rw [tal_liv h, amin_none.mp ha] at ht; cases ht
  | some b => rfl
theorem tlr_s {r : Nat} (h : r + 1 < len) (ht : tal fit nx W len = true) : amin (fun v => liv fit nx W len (r + 1) v && nx (tlr (liv fit nx W len) nx c ch W len r) v) (fun v => cst (liv fit nx W len) nx c ch W len (len - 1 - (r + 1)) v + ch (tlr (liv fit nx W len) nx c ch W len r) v) W = some (tlr (liv fit nx W len) nx c ch W len (r + 1)) := by
  show _ = some ((amin _ _ W).getD 0)
  cases ha : amin (fun v => liv fit nx W len (r + 1) v && nx (tlr (liv fit nx W len) nx c ch W len r) v) (fun v => cst (liv fit nx W len) nx c ch W len (len - 1 - (r + 1)) v + ch (tlr (liv fit nx W len) nx c ch W len r) v) W with
  | none =>
    have h3 := liv_next h (tlr_ok (c := c) (ch := ch) ht r (by omega)).2
    rw [amin_none.mp ha] at h3; cases h3
  | some b => rfl
/-- what the cheapest tale costs -/
def tvl (lv nx : Nat → Nat → Bool) (c : Nat → Int) (ch : Nat → Nat → Int) (W len : Nat) : Int := if len = 0 then 0 else cst lv nx c ch W len (len - 1) (tlr lv nx c ch W len 0)
end TB
section K21
variable {l : Launch} {g : cm_G} {I : cm_I} {L : cm_L} {n len : Nat} {hr tl : Option Nat} {Q : cm_Post} {kd mm : Nat → Nat}
theorem c_X7_costOf {r v cc e : Nat} {fr : Int32} {c : Int} (H : HI n kd mm I L) (hr0 : r < 12) (hv : v < wys mm n) (hcc : cc = 0 ∧ e = 0 ∨ cc = 1 ∧ ∃ u, u < wys mm n ∧ fr = nI u ∧ e = chg mm n u v) (hc : I 32 (r * 64 + v) = zI c) (hQ : Q (some (.int (zI (c + e)))) I L (RR n hr tl) (DD n)) : cm_Ex l g 3 0 0 mX7_costOf 0 [.ref 23, .int (nI r), .int fr, .int (nI v), .int (nI cc), .float 0, .float 0] [] I L (RR n hr tl) (DD n) Q := by
  have hW : wys mm n ≤ 64 := H.2.2.2.1
  have e1 : nI e + zI c = zI (c + e) := by rw [← zI_nat, zI_add, Int.add_comm]
  rcases hcc with ⟨rfl, rfl⟩ | ⟨rfl, u, hu, rfl, rfl⟩
  · refine x_ildn qX7_costOf_0 rfl ?_
    refine x_bipush (v := nI 64) qX7_costOf_1 rfl ?_
    refine x_imul_n qX7_costOf_3 ?_
    refine x_ildn qX7_costOf_4 rfl ?_
    refine x_iadd_n qX7_costOf_5 ?_
    refine x_ist5 qX7_costOf_6 (by decide) rfl ?_
    refine x_ild qX7_costOf_8 rfl ?_
    refine x_if_ne_f (tgt := 17) qX7_costOf_10 (by omega) (by decide) ?_
    refine x_iconst (v := nI 0) qX7_costOf_13 rfl ?_
    refine x_goto (tgt := 29) qX7_costOf_14 (by omega) ?_
    refine x_ist6 qX7_costOf_29 (by decide) rfl ?_
    refine x_ild qX7_costOf_31 rfl ?_
    refine x_if_lt_nf (tgt := 59) qX7_costOf_33 (by omega) (by omega) ?_
    refine x_ild qX7_costOf_36 rfl ?_
    refine x_aldn qX7_costOf_38 rfl trivial ?_
    refine x_getR qX7_costOf_39 fX7_37 rfl rfl ?_
    refine x_alen qX7_costOf_42 dd_32 (by decide) rfl ?_
    refine x_icmp_ge_nf (tgt := 59) qX7_costOf_43 (by omega) (by omega) (by omega) (by omega) ?_
    refine x_ild qX7_costOf_46 rfl ?_
    refine x_aldn qX7_costOf_48 rfl trivial ?_
    refine x_getR qX7_costOf_49 fX7_37 rfl rfl ?_
    refine x_ild qX7_costOf_52 rfl ?_
    refine x_ialde qX7_costOf_54 dd_32 rfl (by omega) (by decide) hc ?_
    refine x_iadd qX7_costOf_55 ?_
    refine x_goto (tgt := 61) qX7_costOf_56 (by omega) ?_
    refine x_iret qX7_costOf_61 rfl rfl ?_
    rw [e1]; exact hQ
  · refine x_ildn qX7_costOf_0 rfl ?_
    refine x_bipush (v := nI 64) qX7_costOf_1 rfl ?_
    refine x_imul_n qX7_costOf_3 ?_
    refine x_ildn qX7_costOf_4 rfl ?_
    refine x_iadd_n qX7_costOf_5 ?_
    refine x_ist5 qX7_costOf_6 (by decide) rfl ?_
    refine x_ild qX7_costOf_8 rfl ?_
    refine x_if_ne_t (tgt := 17) qX7_costOf_10 (by omega) (by decide) ?_
    refine x_ild qX7_costOf_17 rfl ?_
    refine x_aldn qX7_costOf_19 rfl trivial ?_
    refine x_getR qX7_costOf_20 fX7_54 rfl rfl ?_
    refine x_ildn qX7_costOf_23 rfl ?_
    refine x_ildn qX7_costOf_24 rfl ?_
    refine x_cV2 (d' := 2) qX7_costOf_25 cX7_150 rfl ⟨_, rfl, rfl⟩ rfl rfl (Nat.le_of_ble_eq_true rfl) (Nat.le_of_ble_eq_true rfl) (by decide) ?_
    refine c_X3_changes rfl H hu hv ?_
    refine x_imul qX7_costOf_28 ?_
    refine x_ist6 qX7_costOf_29 (by decide) rfl ?_
    refine x_ild qX7_costOf_31 rfl ?_
    refine x_if_lt_nf (tgt := 59) qX7_costOf_33 (by omega) (by omega) ?_
    refine x_ild qX7_costOf_36 rfl ?_
    refine x_aldn qX7_costOf_38 rfl trivial ?_
    refine x_getR qX7_costOf_39 fX7_37 rfl rfl ?_
    refine x_alen qX7_costOf_42 dd_32 (by decide) rfl ?_
    refine x_icmp_ge_nf (tgt := 59) qX7_costOf_43 (by omega) (by omega) (by omega) (by omega) ?_
    refine x_ild qX7_costOf_46 rfl ?_
    refine x_aldn qX7_costOf_48 rfl trivial ?_
    refine x_getR qX7_costOf_49 fX7_37 rfl rfl ?_
    refine x_ild qX7_costOf_52 rfl ?_
    refine x_ialde qX7_costOf_54 dd_32 rfl (by omega) (by decide) hc ?_
    refine x_iadd qX7_costOf_55 ?_
    refine x_goto (tgt := 61) qX7_costOf_56 (by omega) ?_
    refine x_iret qX7_costOf_61 rfl rfl ?_
    rw [show nI 1 * nI (chg mm n u v) = nI (chg mm n u v) by rw [pk_mul, Nat.one_mul], e1]; exact hQ
theorem c_X7_bestNext {q cc : Nat} {rd wy : Int32} {lv sel : Nat → Bool} {c : Nat → Int} {ch : Nat → Nat} (hl : len ≤ 12) (h13 : I 23 13 = nI len) (h14 : I 23 14 = nI (wys mm n)) (H : HI n kd mm I L) (hrd : rd + nI 1 = nI q) (hq : q < 100) (hsel : rd < 0 ∧ (∀ v, v < wys mm n → sel v = true) ∨ ¬ rd < 0 ∧ ∃ w, w < wys mm n ∧ wy = nI w ∧ ∀ v, v < wys mm n → sel v = nxt kd mm n w v)
  (hcc : cc = 0 ∧ (∀ v, v < wys mm n → ch v = 0) ∨ cc = 1 ∧ ∃ u, u < wys mm n ∧ wy = nI u ∧ ∀ v, v < wys mm n → ch v = chg mm n u v)
  (F : q < len → SB (L 26 q) (wys mm n) lv) (hc : q < len → ∀ v, v < wys mm n → lv v = true → I 32 (q * 64 + v) = zI (c v) ∧ -1000000 ≤ c v ∧ c v ≤ 1000000) (hch : ∀ v, v < wys mm n → ch v ≤ 4)
  (h1 : len ≤ q → Q (some (.int (-1))) I L (RR n hr tl) (DD n))
  (h2 : q < len → Q (some (.int (optI (amin (fun v => lv v && sel v) (fun v => c v + ch v) (wys mm n))))) I L (RR n hr tl) (DD n)) : cm_Ex l g 4 0 0 mX7_bestNext 0 [.ref 23, .int rd, .int wy, .int (nI cc), .float 0, .float 0, .float 0, .float 0, .float 0, .float 0, .float 0] [] I L (RR n hr tl) (DD n) Q := by
  have hW : wys mm n ≤ 64 := H.2.2.2.1
  by_cases hql : len ≤ q
  · refine x_ildn qX7_bestNext_0 rfl ?_
    refine x_iconst (v := nI 1) qX7_bestNext_1 rfl ?_
    refine x_iadd qX7_bestNext_2 ?_
    rw [hrd]
    refine x_ist4 qX7_bestNext_3 (by decide) rfl ?_
    refine x_ild qX7_bestNext_5 rfl ?_
    refine x_if_lt_nf (tgt := 19) qX7_bestNext_7 (by omega) (by omega) ?_
    refine x_ild qX7_bestNext_10 rfl ?_
    refine x_aldn qX7_bestNext_12 rfl trivial ?_
    refine x_getIe qX7_bestNext_13 fX7_47 rfl h13 ?_
    refine x_icmp_lt_nf (tgt := 21) qX7_bestNext_16 (by omega) (by omega) (by omega) (by omega) ?_
    refine x_iconst (v := -1) qX7_bestNext_19 rfl ?_
    refine x_iret qX7_bestNext_20 rfl rfl ?_
    exact h1 hql
  have hq2 : q < len := by omega
  have F2 := F hq2
  have loop : ∀ (x : Int64), SB x (wys mm n) (fun v => lv v && sel v) → ∀ m v o ls a10, v + m = wys mm n → o = amin (fun v => lv v && sel v) (fun v => c v + ch v) v → (∀ b, o = some b → ls = zI (c b + ch b)) → cm_Ex l g 4 0 0 mX7_bestNext 58 [.ref 23, .int rd, .int wy, .int (nI cc), .int (nI q), .long x, .float 0, .int (optI o), .int ls, .int (nI v), a10] [] I L (RR n hr tl) (DD n) Q := by
    intro x hx m
    induction m with
    | zero =>
      intro v o ls a10 hv ho hls
      have e : v = wys mm n := by omega
      subst e
      subst ho
      refine x_ild qX7_bestNext_58 rfl ?_
      refine x_aldn qX7_bestNext_60 rfl trivial ?_
      refine x_getIe qX7_bestNext_61 fX7_51 rfl h14 ?_
      refine x_icmp_ge_nt (tgt := 115) qX7_bestNext_64 (by omega) (by omega) (by omega) (by omega) ?_
      refine x_ild qX7_bestNext_115 rfl ?_
      refine x_iret qX7_bestNext_117 rfl rfl ?_
      exact h2 hq2
    | succ m ih =>
      intro v o ls a10 hv ho hls
      have hxv : tb x v = (lv v && sel v) := SB_at hW hx (by omega)
      have stay : (lv v && sel v) = false → amin (fun v => lv v && sel v) (fun v => c v + ch v) (v + 1) = o := by
        intro e
        simp only [amin, ← ho, e]
        cases o <;> simp
      cases ho2 : o with
      | none =>
        rw [ho2] at ho stay hls
        have new : (lv v && sel v) = true → amin (fun v => lv v && sel v) (fun v => c v + ch v) (v + 1) = some v := by
          intro e
          simp only [amin, ← ho, e, if_true]
        refine x_ild qX7_bestNext_58 rfl ?_
        refine x_aldn qX7_bestNext_60 rfl trivial ?_
        refine x_getIe qX7_bestNext_61 fX7_51 rfl h14 ?_
        refine x_icmp_ge_nf (tgt := 115) qX7_bestNext_64 (by omega) (by omega) (by omega) (by omega) ?_
        refine x_lld qX7_bestNext_67 rfl ?_
        refine x_ild qX7_bestNext_69 rfl ?_
        refine x_cS2 (d' := 1) qX7_bestNext_71 cX7_106 rfl rfl (Nat.le_of_ble_eq_true rfl) (Nat.le_of_ble_eq_true rfl) (by decide) ?_
        refine c_X7_isIn (by omega) (fun h71 => ?_) (fun h71 => ?_)
        · refine x_if_eq_f (tgt := 109) qX7_bestNext_74 (by omega) (by decide) ?_
          refine x_aldn qX7_bestNext_77 rfl trivial ?_
          refine x_ild qX7_bestNext_78 rfl ?_
          refine x_ildn qX7_bestNext_80 rfl ?_
          refine x_ild qX7_bestNext_81 rfl ?_
          refine x_ildn qX7_bestNext_83 rfl ?_
          refine x_cV4 (d' := 3) qX7_bestNext_84 cX7_146 rfl ⟨_, rfl, rfl⟩ rfl rfl (Nat.le_of_ble_eq_true rfl) (Nat.le_of_ble_eq_true rfl) (by decide) ?_
          refine c_X7_costOf (c := c v) (e := ch v) H (by omega) (show v < wys mm n by omega) (by rcases hcc with ⟨a, b⟩ | ⟨a, u, b1, b2, b3⟩; exact Or.inl ⟨a, b v (by omega)⟩; exact Or.inr ⟨a, u, b1, b2, b3 v (by omega)⟩) (hc hq2 v (by omega) (by rw [hxv, Bool.and_eq_true] at h71; exact h71.1)).1 ?_
          refine x_ist10 qX7_bestNext_87 (by decide) rfl ?_
          refine x_ild qX7_bestNext_89 rfl ?_
          refine x_if_lt_t (tgt := 101) qX7_bestNext_91 (by omega) (by decide) ?_
          refine x_ild qX7_bestNext_101 rfl ?_
          refine x_ist7 qX7_bestNext_103 (by decide) rfl ?_
          refine x_ild qX7_bestNext_105 rfl ?_
          refine x_ist8 qX7_bestNext_107 (by decide) rfl ?_
          refine x_iinc9 qX7_bestNext_109 (by decide) (cm_inc _) rfl ?_
          refine x_goto (tgt := 58) qX7_bestNext_112 (by omega) ?_
          first | (rw [hxv] at h71; exact ih (v + 1) _ _ _ (by omega) (new h71).symm (fun b hb => by cases hb; rfl)) | (rw [hxv] at h71; exact ih (v + 1) none _ _ (by omega) (stay h71).symm hls)
        · refine x_if_eq_t (tgt := 109) qX7_bestNext_74 (by omega) (by decide) ?_
          refine x_iinc9 qX7_bestNext_109 (by decide) (cm_inc _) rfl ?_
          refine x_goto (tgt := 58) qX7_bestNext_112 (by omega) ?_
          first | (rw [hxv] at h71; exact ih (v + 1) _ _ _ (by omega) (new h71).symm (fun b hb => by cases hb; rfl)) | (rw [hxv] at h71; exact ih (v + 1) none _ _ (by omega) (stay h71).symm hls)
      | some b =>
        rw [ho2] at ho stay hls
        obtain ⟨hb, hfb, -⟩ := amin_some ho.symm
        have hlsb := hls b rfl
        subst hlsb
        have hbb : lv b = true := by rw [Bool.and_eq_true] at hfb; exact hfb.1
        have hcb := hc hq2 b (by omega) hbb
        have hchb := hch b (by omega)
        have hchv := hch v (by omega)
        have new : (lv v && sel v) = true → c v + ch v < c b + ch b → amin (fun v => lv v && sel v) (fun v => c v + ch v) (v + 1) = some v := by
          intro e e2
          simp only [amin, ← ho, e, decide_eq_true e2, Bool.true_and, if_true]
        have old : (lv v && sel v) = true → c b + ch b ≤ c v + ch v → amin (fun v => lv v && sel v) (fun v => c v + ch v) (v + 1) = some b := by
          intro e e2
          have e3 : ¬ (c v + ch v < c b + ch b) := by omega
          simp only [amin, ← ho, e, decide_eq_false e3, Bool.true_and]
          rfl
        refine x_ild qX7_bestNext_58 rfl ?_
        refine x_aldn qX7_bestNext_60 rfl trivial ?_
        refine x_getIe qX7_bestNext_61 fX7_51 rfl h14 ?_
        refine x_icmp_ge_nf (tgt := 115) qX7_bestNext_64 (by omega) (by omega) (by omega) (by omega) ?_
        refine x_lld qX7_bestNext_67 rfl ?_
        refine x_ild qX7_bestNext_69 rfl ?_
        refine x_cS2 (d' := 1) qX7_bestNext_71 cX7_106 rfl rfl (Nat.le_of_ble_eq_true rfl) (Nat.le_of_ble_eq_true rfl) (by decide) ?_
        refine c_X7_isIn (by omega) (fun h71 => ?_) (fun h71 => ?_)
        · refine x_if_eq_f (tgt := 109) qX7_bestNext_74 (by omega) (by decide) ?_
          refine x_aldn qX7_bestNext_77 rfl trivial ?_
          refine x_ild qX7_bestNext_78 rfl ?_
          refine x_ildn qX7_bestNext_80 rfl ?_
          refine x_ild qX7_bestNext_81 rfl ?_
          refine x_ildn qX7_bestNext_83 rfl ?_
          refine x_cV4 (d' := 3) qX7_bestNext_84 cX7_146 rfl ⟨_, rfl, rfl⟩ rfl rfl (Nat.le_of_ble_eq_true rfl) (Nat.le_of_ble_eq_true rfl) (by decide) ?_
          refine c_X7_costOf (c := c v) (e := ch v) H (by omega) (show v < wys mm n by omega) (by rcases hcc with ⟨a, b⟩ | ⟨a, u, b1, b2, b3⟩; exact Or.inl ⟨a, b v (by omega)⟩; exact Or.inr ⟨a, u, b1, b2, b3 v (by omega)⟩) (hc hq2 v (by omega) (by rw [hxv, Bool.and_eq_true] at h71; exact h71.1)).1 ?_
          refine x_ist10 qX7_bestNext_87 (by decide) rfl ?_
          refine x_ild qX7_bestNext_89 rfl ?_
          refine x_if_lt_f (tgt := 101) qX7_bestNext_91 (by omega) (nI_pos (by omega)) ?_
          refine x_ild qX7_bestNext_94 rfl ?_
          refine x_ild qX7_bestNext_96 rfl ?_
          refine x_icmp_ge (tgt := 109) qX7_bestNext_98 (by omega) (fun h98 => ?_) (fun h98 => ?_)
          · have hcv := hc hq2 v (by omega) (by rw [hxv, Bool.and_eq_true] at h71; exact h71.1)
            refine x_iinc9 qX7_bestNext_109 (by decide) (cm_inc _) rfl ?_
            refine x_goto (tgt := 58) qX7_bestNext_112 (by omega) ?_
            first | (rw [zI_le (by omega) (by omega) (by omega) (by omega)] at h98; rw [hxv] at h71; exact ih (v + 1) (some b) _ _ (by omega) (old h71 h98).symm hls) | (rw [zI_le (by omega) (by omega) (by omega) (by omega)] at h98; rw [hxv] at h71; exact ih (v + 1) (some v) _ _ (by omega) (new h71 (by omega)).symm (fun b' hb' => by cases hb'; rfl)) | (rw [hxv] at h71; exact ih (v + 1) (some b) _ _ (by omega) (stay h71).symm hls)
          · have hcv := hc hq2 v (by omega) (by rw [hxv, Bool.and_eq_true] at h71; exact h71.1)
            refine x_ild qX7_bestNext_101 rfl ?_
            refine x_ist7 qX7_bestNext_103 (by decide) rfl ?_
            refine x_ild qX7_bestNext_105 rfl ?_
            refine x_ist8 qX7_bestNext_107 (by decide) rfl ?_
            refine x_iinc9 qX7_bestNext_109 (by decide) (cm_inc _) rfl ?_
            refine x_goto (tgt := 58) qX7_bestNext_112 (by omega) ?_
            first | (rw [zI_le (by omega) (by omega) (by omega) (by omega)] at h98; rw [hxv] at h71; exact ih (v + 1) (some b) _ _ (by omega) (old h71 h98).symm hls) | (rw [zI_le (by omega) (by omega) (by omega) (by omega)] at h98; rw [hxv] at h71; exact ih (v + 1) (some v) _ _ (by omega) (new h71 (by omega)).symm (fun b' hb' => by cases hb'; rfl)) | (rw [hxv] at h71; exact ih (v + 1) (some b) _ _ (by omega) (stay h71).symm hls)
        · refine x_if_eq_t (tgt := 109) qX7_bestNext_74 (by omega) (by decide) ?_
          refine x_iinc9 qX7_bestNext_109 (by decide) (cm_inc _) rfl ?_
          refine x_goto (tgt := 58) qX7_bestNext_112 (by omega) ?_
          first | (rw [zI_le (by omega) (by omega) (by omega) (by omega)] at h98; rw [hxv] at h71; exact ih (v + 1) (some b) _ _ (by omega) (old h71 h98).symm hls) | (rw [zI_le (by omega) (by omega) (by omega) (by omega)] at h98; rw [hxv] at h71; exact ih (v + 1) (some v) _ _ (by omega) (new h71 (by omega)).symm (fun b' hb' => by cases hb'; rfl)) | (rw [hxv] at h71; exact ih (v + 1) (some b) _ _ (by omega) (stay h71).symm hls)
  refine x_ildn qX7_bestNext_0 rfl ?_
  refine x_iconst (v := nI 1) qX7_bestNext_1 rfl ?_
  refine x_iadd qX7_bestNext_2 ?_
  rw [hrd]
  rcases hsel with ⟨hneg, hs1⟩ | ⟨hneg, w, hw, rfl, hs1⟩
  · have hneg' := hneg
    refine x_ist4 qX7_bestNext_3 (by decide) rfl ?_
    refine x_ild qX7_bestNext_5 rfl ?_
    refine x_if_lt_nf (tgt := 19) qX7_bestNext_7 (by omega) (by omega) ?_
    refine x_ild qX7_bestNext_10 rfl ?_
    refine x_aldn qX7_bestNext_12 rfl trivial ?_
    refine x_getIe qX7_bestNext_13 fX7_47 rfl h13 ?_
    refine x_icmp_lt_nt (tgt := 21) qX7_bestNext_16 (by omega) (by omega) (by omega) (by omega) ?_
    refine x_aldn qX7_bestNext_21 rfl trivial ?_
    refine x_getR qX7_bestNext_22 fX7_18 rfl rfl ?_
    refine x_ild qX7_bestNext_25 rfl ?_
    refine x_lald qX7_bestNext_27 rfl rfl (by omega) (by decide) ?_
    refine x_ildn qX7_bestNext_28 rfl ?_
    refine x_if_ge_f (tgt := 38) qX7_bestNext_29 (by omega) (Int32.not_le.mpr hneg) ?_
    refine x_ldc2 qX7_bestNext_32 vX7_93 ?_
    refine x_goto (tgt := 46) qX7_bestNext_35 (by omega) ?_
    refine x_land qX7_bestNext_46 ?_
    refine x_lst5 qX7_bestNext_47 (by decide) rfl ?_
    refine x_iconst (v := -1) qX7_bestNext_49 rfl ?_
    refine x_ist7 qX7_bestNext_50 (by decide) rfl ?_
    refine x_iconst (v := nI 0) qX7_bestNext_52 rfl ?_
    refine x_ist8 qX7_bestNext_53 (by decide) rfl ?_
    refine x_iconst (v := nI 0) qX7_bestNext_55 rfl ?_
    refine x_ist9 qX7_bestNext_56 (by decide) rfl ?_
    refine loop _ (SB_and F2 (fun v hv => ?_)) (wys mm n) 0 none _ _ (by omega) rfl (fun b hb => by cases hb)
    rw [tb_m1 v (by omega), hs1 v hv]
  · have hneg' := hneg
    refine x_ist4 qX7_bestNext_3 (by decide) rfl ?_
    refine x_ild qX7_bestNext_5 rfl ?_
    refine x_if_lt_nf (tgt := 19) qX7_bestNext_7 (by omega) (by omega) ?_
    refine x_ild qX7_bestNext_10 rfl ?_
    refine x_aldn qX7_bestNext_12 rfl trivial ?_
    refine x_getIe qX7_bestNext_13 fX7_47 rfl h13 ?_
    refine x_icmp_lt_nt (tgt := 21) qX7_bestNext_16 (by omega) (by omega) (by omega) (by omega) ?_
    refine x_aldn qX7_bestNext_21 rfl trivial ?_
    refine x_getR qX7_bestNext_22 fX7_18 rfl rfl ?_
    refine x_ild qX7_bestNext_25 rfl ?_
    refine x_lald qX7_bestNext_27 rfl rfl (by omega) (by decide) ?_
    refine x_ildn qX7_bestNext_28 rfl ?_
    refine x_if_ge_t (tgt := 38) qX7_bestNext_29 (by omega) (Int32.not_lt.mp hneg) ?_
    refine x_aldn qX7_bestNext_38 rfl trivial ?_
    refine x_getR qX7_bestNext_39 fX7_54 rfl rfl ?_
    refine x_ildn qX7_bestNext_42 rfl ?_
    refine x_cV1 (d' := 2) qX7_bestNext_43 cX7_128 rfl ⟨_, rfl, rfl⟩ rfl rfl (Nat.le_of_ble_eq_true rfl) (Nat.le_of_ble_eq_true rfl) (by decide) ?_
    refine c_X3_afterWay rfl H hw ?_
    refine x_land qX7_bestNext_46 ?_
    refine x_lst5 qX7_bestNext_47 (by decide) rfl ?_
    refine x_iconst (v := -1) qX7_bestNext_49 rfl ?_
    refine x_ist7 qX7_bestNext_50 (by decide) rfl ?_
    refine x_iconst (v := nI 0) qX7_bestNext_52 rfl ?_
    refine x_ist8 qX7_bestNext_53 (by decide) rfl ?_
    refine x_iconst (v := nI 0) qX7_bestNext_55 rfl ?_
    refine x_ist9 qX7_bestNext_56 (by decide) rfl ?_
    refine loop _ (SB_and F2 (fun v hv => ?_)) (wys mm n) 0 none _ _ (by omega) rfl (fun b hb => by cases hb)
    rw [H.2.2.2.2.2.2.2.2.2.1 w hw v (by omega), decide_eq_true hv, Bool.true_and, hs1 v hv]
end K21
