/-! the reference: the cheapest tale -/
theorem neg_nI (k : Nat) : -nI k = zI (-(k : Int)) := by rw [← zI_nat, zI_neg]
theorem zI_nI (a : Int) (k : Nat) : zI a + nI k = zI (a + k) := by rw [← zI_nat, zI_add]
theorem sum_bit {f mm : Nat → Nat} {s w : Nat} (hs : s < 4) : ∀ {t : Nat}, t ≤ 4 → sumN f mm (2 ^ s) t w = if s < t then f (4 * s + dgt mm w s) else 0 := by
  have d : ∀ s, s < 4 → ∀ t, t < 4 → (2 ^ s / 2 ^ t % 2 = 1 ↔ s = t) := by decide
  intro t
  induction t with
  | zero => intro _; rfl
  | succ t ih =>
    intro ht
    have ih1 := ih (by omega)
    have dd := d s hs t (by omega)
    show (if 2 ^ s / 2 ^ t % 2 = 1 then sumN f mm (2 ^ s) t w + f (4 * t + dgt mm w t) else sumN f mm (2 ^ s) t w) = _
    rw [ih1]
    by_cases e : s = t
    · rw [if_pos (dd.mpr e), if_neg (by omega), if_pos (by omega), e, Nat.zero_add]
    · rw [if_neg (fun q => e (dd.mp q))]
      by_cases e2 : s < t
      · rw [if_pos e2, if_pos (by omega)]
      · rw [if_neg e2, if_neg (by omega)]
def cW (n : Nat) (mm : Nat → Nat) (cs : List Cls) (wh t w : Nat) : Int := if wh = 0 then 0 else if wh = 1 then -((sumN (fun i => lst 1 i cs) mm 15 n w : Nat) : Int) else if wh = 2 then ((lst 0 (4 * t + dgt mm w t) cs : Nat) : Int) else -((lst 0 (4 * t + dgt mm w t) cs : Nat) : Int)
def ccN (wh : Nat) : Nat := if wh = 0 then 1 else 0
def mnv (f : Nat → Bool) (g : Nat → Int) (d : Int) (v : Nat) : Int := match amin f g v with
  | none => d
  | some b => g b
theorem mnv_s {f : Nat → Bool} {g : Nat → Int} {d : Int} {v : Nat} (hd : f v = true → g v < d) : mnv f g d (v + 1) = if f v then (if g v < mnv f g d v then g v else mnv f g d v) else mnv f g d v := by
  have ea : amin f g (v + 1) = (match amin f g v with
    | none => if f v then some v else none
    | some b => if f v && decide (g v < g b) then some v else some b) := rfl
  unfold mnv
  rw [ea]
  cases amin f g v with
  | none =>
    cases hf : f v with
    | false => rfl
    | true =>
      have := hd hf
      show g v = if g v < d then g v else d
      rw [if_pos this]
  | some b =>
    cases hf : f v with
    | false => rfl
    | true =>
      show (match (if (true && decide (g v < g b)) = true then some v else some b) with | none => d | some b => g b) = if g v < g b then g v else g b
      by_cases e : g v < g b
      · rw [if_pos (by rw [decide_eq_true e]; rfl), if_pos e]
      · rw [if_neg (by rw [decide_eq_false e]; decide), if_neg e]
theorem mnv_bd {f : Nat → Bool} {g : Nat → Int} {d B : Int} {v : Nat} (hd : -B ≤ d ∧ d ≤ B) (hg : ∀ i, i < v → -B ≤ g i ∧ g i ≤ B) : -B ≤ mnv f g d v ∧ mnv f g d v ≤ B := by
  unfold mnv
  cases h : amin f g v with
  | none => exact hd
  | some b => exact hg b (amin_some h).1
section M20
variable {l : Launch} {g : cm_G} {I : cm_I} {L : cm_L} {hr tl : Option Nat} {Q : cm_Post} {u n c1 : Nat} {kd mm : Nat → Nat} {cs : List Cls} {fit : Nat → Nat → Bool}
theorem c_X12_costOf {wh t w : Nat} (hwh : wh < 4) (ht : wh < 2 ∨ t < n) (h4 : n ≤ 4) (ht4 : t < 4) (ho : okm mm n) (T : T91 cs I) (A : WA n mm cs (wys mm n) I) (hw : w < wys mm n) (h64 : wys mm n ≤ 64) (hQ : Q (some (.int (zI (cW n mm cs wh t w)))) I L (RR u hr tl) (DD u)) : cm_Ex l g 1 0 0 mX12_costOf 0 [.ref 73, .int (nI w), .int (nI wh), .int (nI t)] [] I L (RR u hr tl) (DD u) Q := by
  obtain ⟨A1, A2⟩ := A w hw
  have tk : t < n → I 87 (4 * w + t) = nI (dgt mm w t) ∧ dgt mm w t < 4 := fun h => by
    have := dgt_lt ho h w
    have := (ho t h).2
    exact ⟨by rw [A1 t ht4, if_pos h], by omega⟩
  rcases (by omega : wh = 0 ∨ wh = 1 ∨ wh = 2 ∨ wh = 3) with rfl | rfl | rfl | rfl
  · refine x_ildn qX12_costOf_0 rfl ?_
    refine x_if_ne_f (tgt := 8) qX12_costOf_1 (by omega) (by decide) ?_
    refine x_iconst (v := nI 0) qX12_costOf_4 rfl ?_
    refine x_goto (tgt := 70) qX12_costOf_5 (by omega) ?_
    refine x_iret qX12_costOf_70 rfl rfl ?_
    exact hQ
  · refine x_ildn qX12_costOf_0 rfl ?_
    refine x_if_ne_t (tgt := 8) qX12_costOf_1 (by omega) (by decide) ?_
    refine x_ildn qX12_costOf_8 rfl ?_
    refine x_iconst (v := nI 1) qX12_costOf_9 rfl ?_
    refine x_icmp_ne_f (tgt := 23) qX12_costOf_10 (by omega) (by decide) ?_
    refine x_aldn qX12_costOf_13 rfl trivial ?_
    refine x_getR qX12_costOf_14 fX12_86 rfl rfl ?_
    refine x_ildn qX12_costOf_17 rfl ?_
    refine x_ialde qX12_costOf_18 dd_89 rfl (by omega) (by decide) A2.2 ?_
    refine x_ineg qX12_costOf_19 ?_
    refine x_topI (neg_nI _) ?_
    refine x_goto (tgt := 70) qX12_costOf_20 (by omega) ?_
    refine x_iret qX12_costOf_70 rfl rfl ?_
    exact hQ
  · obtain ⟨k1, k2⟩ := tk (by omega)
    refine x_ildn qX12_costOf_0 rfl ?_
    refine x_if_ne_t (tgt := 8) qX12_costOf_1 (by omega) (by decide) ?_
    refine x_ildn qX12_costOf_8 rfl ?_
    refine x_iconst (v := nI 1) qX12_costOf_9 rfl ?_
    refine x_icmp_ne_t (tgt := 23) qX12_costOf_10 (by omega) (by decide) ?_
    refine x_ildn qX12_costOf_23 rfl ?_
    refine x_iconst (v := nI 2) qX12_costOf_24 rfl ?_
    refine x_icmp_ne_f (tgt := 50) qX12_costOf_25 (by omega) (by decide) ?_
    refine x_aldn qX12_costOf_28 rfl trivial ?_
    refine x_getR qX12_costOf_29 fX12_92 rfl rfl ?_
    refine x_iconst (v := nI 4) qX12_costOf_32 rfl ?_
    refine x_ildn qX12_costOf_33 rfl ?_
    refine x_imul_n qX12_costOf_34 ?_
    refine x_aldn qX12_costOf_35 rfl trivial ?_
    refine x_getR qX12_costOf_36 fX12_80 rfl rfl ?_
    refine x_iconst (v := nI 4) qX12_costOf_39 rfl ?_
    refine x_ildn qX12_costOf_40 rfl ?_
    refine x_imul_n qX12_costOf_41 ?_
    refine x_ildn qX12_costOf_42 rfl ?_
    refine x_iadd_n qX12_costOf_43 ?_
    refine x_ialde qX12_costOf_44 dd_87 rfl (by omega) (by decide) k1 ?_
    refine x_iadd_n qX12_costOf_45 ?_
    refine x_ialde qX12_costOf_46 dd_91 rfl (by omega) (by decide) (T _ (by omega)) ?_
    refine x_goto (tgt := 70) qX12_costOf_47 (by omega) ?_
    refine x_topI (zI_nat _).symm ?_
    refine x_iret qX12_costOf_70 rfl rfl ?_
    exact hQ
  · obtain ⟨k1, k2⟩ := tk (by omega)
    refine x_ildn qX12_costOf_0 rfl ?_
    refine x_if_ne_t (tgt := 8) qX12_costOf_1 (by omega) (by decide) ?_
    refine x_ildn qX12_costOf_8 rfl ?_
    refine x_iconst (v := nI 1) qX12_costOf_9 rfl ?_
    refine x_icmp_ne_t (tgt := 23) qX12_costOf_10 (by omega) (by decide) ?_
    refine x_ildn qX12_costOf_23 rfl ?_
    refine x_iconst (v := nI 2) qX12_costOf_24 rfl ?_
    refine x_icmp_ne_t (tgt := 50) qX12_costOf_25 (by omega) (by decide) ?_
    refine x_aldn qX12_costOf_50 rfl trivial ?_
    refine x_getR qX12_costOf_51 fX12_92 rfl rfl ?_
    refine x_iconst (v := nI 4) qX12_costOf_54 rfl ?_
    refine x_ildn qX12_costOf_55 rfl ?_
    refine x_imul_n qX12_costOf_56 ?_
    refine x_aldn qX12_costOf_57 rfl trivial ?_
    refine x_getR qX12_costOf_58 fX12_80 rfl rfl ?_
    refine x_iconst (v := nI 4) qX12_costOf_61 rfl ?_
    refine x_ildn qX12_costOf_62 rfl ?_
    refine x_imul_n qX12_costOf_63 ?_
    refine x_ildn qX12_costOf_64 rfl ?_
    refine x_iadd_n qX12_costOf_65 ?_
    refine x_ialde qX12_costOf_66 dd_87 rfl (by omega) (by decide) k1 ?_
    refine x_iadd_n qX12_costOf_67 ?_
    refine x_ialde qX12_costOf_68 dd_91 rfl (by omega) (by decide) (T _ (by omega)) ?_
    refine x_ineg qX12_costOf_69 ?_
    refine x_topI (neg_nI _) ?_
    refine x_iret qX12_costOf_70 rfl rfl ?_
    exact hQ
theorem cW_bd {wh t w : Nat} (h4 : n ≤ 4) (ho : okm mm n) (h9 : ∀ cl, cl ∈ cs → cl.2.2.1 ≤ 999) : -4000 ≤ cW n mm cs wh t w ∧ cW n mm cs wh t w ≤ 4000 := by
  have h1 : sumN (fun i => lst 1 i cs) mm 15 n w ≤ 999 * n := sumN_le ho h4 (fun i _ => lst_le h9) w (Nat.le_refl n)
  have h2 : lst 0 (4 * t + dgt mm w t) cs ≤ 999 := lst_le h9
  unfold cW
  repeat' split
  all_goals omega
theorem ch_bd {wh u v : Nat} (h4 : n ≤ 4) : 0 ≤ ((chI mm n (ccN wh) u v : Nat) : Int) ∧ ((chI mm n (ccN wh) u v : Nat) : Int) ≤ 4 := by
  have := @chg_le mm n u v
  unfold chI
  split <;> omega
theorem ft_in2 {W wh t r : Nat} {J : cm_I} {f : Nat → Bool} {gv : Nat → Int} (k1 : J 73 1 = nI W) (hW : W ≤ 64) (hg : ∀ w, w < W → -100000 ≤ gv w ∧ gv w ≤ 100000)
  (step : ∀ w (a5 a6 : Int32) (a8 : Value), w < W → (∀ a8 : Value, f w = false → cm_Ex l g 2 0 0 mX12_findTale 345 [.ref 73, .int (nI wh), .int (nI t), .int (nI c1), .int (nI r), .int a5, .int a6, .int (nI w), a8] [] J L (RR u hr tl) (DD u) Q) → (f w = true → cm_Ex l g 2 0 0 mX12_findTale 320 [.ref 73, .int (nI wh), .int (nI t), .int (nI c1), .int (nI r), .int a5, .int a6, .int (nI w), a8] [.int (zI (gv w))] J L (RR u hr tl) (DD u) Q) → cm_Ex l g 2 0 0 mX12_findTale 226 [.ref 73, .int (nI wh), .int (nI t), .int (nI c1), .int (nI r), .int a5, .int a6, .int (nI w), a8] [] J L (RR u hr tl) (DD u) Q)
  (fin : ∀ (a6 : Int32) (a7 a8 : Value), cm_Ex l g 2 0 0 mX12_findTale 351 [.ref 73, .int (nI wh), .int (nI t), .int (nI c1), .int (nI r), .int (optI (amin f gv W)), .int a6, a7, a8] [] J L (RR u hr tl) (DD u) Q) : ∀ m w (a8 : Value), w + m = W → cm_Ex l g 2 0 0 mX12_findTale 217 [.ref 73, .int (nI wh), .int (nI t), .int (nI c1), .int (nI r), .int (optI (amin f gv w)), .int (zI (mnv f gv 0 w)), .int (nI w), a8] [] J L (RR u hr tl) (DD u) Q := by
  intro m
  induction m with
  | zero =>
    intro w a8 hw
    have e : w = W := by omega
    rw [e]
    refine x_ild qX12_findTale_217 rfl ?_
    refine x_aldn qX12_findTale_219 rfl trivial ?_
    refine x_getIe qX12_findTale_220 fX12_13 rfl k1 ?_
    refine x_icmp_ge_nt (tgt := 351) qX12_findTale_223 (by omega) (by omega) (by omega) (by omega) ?_
    exact fin _ _ _
  | succ m ih =>
    intro w a8 hw
    have ea : amin f gv (w + 1) = (match amin f gv w with
      | none => if f w then some w else none
      | some b => if f w && decide (gv w < gv b) then some w else some b) := rfl
    have em : mnv f gv 0 (w + 1) = (match amin f gv (w + 1) with
      | none => 0
      | some b => gv b) := rfl
    have em0 : mnv f gv 0 w = (match amin f gv w with
      | none => 0
      | some b => gv b) := rfl
    have ih1 := fun a8 => ih (w + 1) a8 (by omega)
    refine x_ild qX12_findTale_217 rfl ?_
    refine x_aldn qX12_findTale_219 rfl trivial ?_
    refine x_getIe qX12_findTale_220 fX12_13 rfl k1 ?_
    refine x_icmp_ge_nf (tgt := 351) qX12_findTale_223 (by omega) (by omega) (by omega) (by omega) ?_
    refine step w _ _ a8 (by omega) (fun a8 hf => ?_) (fun hf => ?_)
    · have e1 : amin f gv (w + 1) = amin f gv w := by
        rw [ea, hf]
        cases amin f gv w <;> rfl
      rw [em, e1, ← em0] at ih1
      refine x_iinc7 qX12_findTale_345 (by decide) (cm_inc _) rfl ?_
      refine x_goto (tgt := 217) qX12_findTale_348 (by omega) ?_
      exact ih1 _
    · have hgw := hg w (by omega)
      have set : amin f gv (w + 1) = some w → ∀ (a5 a6 : Int32), cm_Ex l g 2 0 0 mX12_findTale 337 [.ref 73, .int (nI wh), .int (nI t), .int (nI c1), .int (nI r), .int a5, .int a6, .int (nI w), .int (zI (gv w))] [] J L (RR u hr tl) (DD u) Q := fun e1 a5 a6 => by
        rw [em, e1] at ih1
        refine x_ild qX12_findTale_337 rfl ?_
        refine x_ist5 qX12_findTale_339 (by decide) rfl ?_
        refine x_ild qX12_findTale_341 rfl ?_
        refine x_ist6 qX12_findTale_343 (by decide) rfl ?_
        refine x_iinc7 qX12_findTale_345 (by decide) (cm_inc _) rfl ?_
        refine x_goto (tgt := 217) qX12_findTale_348 (by omega) ?_
        exact ih1 _
      cases ha : amin f gv w with
      | none =>
        rw [ha, hf] at ea
        refine x_ist8 qX12_findTale_320 (by decide) rfl ?_
        refine x_ild qX12_findTale_322 rfl ?_
        refine x_if_lt_t (tgt := 337) qX12_findTale_324 (by omega) (show (-1 : Int32) < 0 by decide) ?_
        exact set ea _ _
      | some b =>
        rw [ha, hf] at ea
        have ea2 : amin f gv (w + 1) = if (true && decide (gv w < gv b)) = true then some w else some b := ea
        have em1 : mnv f gv 0 w = gv b := by unfold mnv; rw [ha]
        have hb := (amin_some ha).1
        have hgb := hg b (by omega)
        rw [em1]
        refine x_ist8 qX12_findTale_320 (by decide) rfl ?_
        refine x_ild qX12_findTale_322 rfl ?_
        refine x_if_lt_nf (tgt := 337) qX12_findTale_324 (by omega) (by omega) ?_
        refine x_ild qX12_findTale_327 rfl ?_
        refine x_ild qX12_findTale_329 rfl ?_
        refine x_icmp_lt (tgt := 337) qX12_findTale_331 (by omega) (fun h => ?_) (fun h => ?_)
        · rw [zI_lt (by omega) (by omega) (by omega) (by omega)] at h
          refine set ?_ _ _
          rw [ea2, decide_eq_true h]; rfl
        · rw [zI_lt (by omega) (by omega) (by omega) (by omega)] at h
          have e1 : amin f gv (w + 1) = some b := by rw [ea2, decide_eq_false h]; rfl
          rw [em, e1] at ih1
          refine x_goto (tgt := 345) qX12_findTale_334 (by omega) ?_
          refine x_iinc7 qX12_findTale_345 (by decide) (cm_inc _) rfl ?_
          refine x_goto (tgt := 217) qX12_findTale_348 (by omega) ?_
          exact ih1 _
theorem ft_two {W wh t : Nat} {J : cm_I} {lv nx : Nat → Nat → Bool} {T : Nat → Nat} {C : Nat → Nat → Int} {ch : Nat → Nat → Int} {cg : Nat → Nat → Nat} (hc12 : c1 ≤ 12) (k1 : J 73 1 = nI W) (h64 : W ≤ 64) (hwh : wh < 4)
  (hT0 : 0 < c1 → amin (lv 0) (fun v => C (c1 - 1) v) W = some (T 0)) (hTs : ∀ r, r + 1 < c1 → amin (fun v => lv (r + 1) v && nx (T r) v) (fun v => C (c1 - 1 - (r + 1)) v + ch (T r) v) W = some (T (r + 1))) (hTl : ∀ r, r < c1 → T r < W ∧ lv r (T r) = true)
  (h96 : ∀ r, r < c1 → A96 W lv r J) (h92 : ∀ w, w < W → ∀ v, v < W → J 92 (64 * w + v) = b2I (nx w v)) (h90 : ∀ w, w < W → ∀ v, v < W → J 90 (64 * w + v) = nI (cg w v)) (hch : ∀ w v, ch w v = if wh = 0 then (cg w v : Int) else 0) (hcg : ∀ w v, cg w v ≤ 4)
  (h97 : ∀ r, r < c1 → ∀ w, w < W → lv r w = true → J 97 (64 * r + w) = zI (C (c1 - 1 - r) w)) (hcb : ∀ m w, m < 12 → w < W → -50000 ≤ C m w ∧ C m w ≤ 50000)
  (hQ : ∀ I', (∀ r, r < c1 → I' 98 r = nI (T r)) → (∀ b, b ≠ 98 → I' b = J b) → Q (some (.int (zI (if c1 = 0 then 0 else C (c1 - 1) (T 0))))) I' L (RR u hr tl) (DD u)) : ∀ m r (a5 a6 a7 a8 : Value) I', r + m = c1 → (∀ r', r' < r → I' 98 r' = nI (T r')) → (∀ b, b ≠ 98 → I' b = J b) → cm_Ex l g 2 0 0 mX12_findTale 202 [.ref 73, .int (nI wh), .int (nI t), .int (nI c1), .int (nI r), a5, a6, a7, a8] [] I' L (RR u hr tl) (DD u) Q := by
  intro m
  induction m with
  | zero =>
    intro r a5 a6 a7 a8 I' hre hT hI
    have e : r = c1 := by omega
    rw [e] at hT ⊢
    have hq := hQ I' hT hI
    refine x_ild qX12_findTale_202 rfl ?_
    refine x_ildn qX12_findTale_204 rfl ?_
    refine x_icmp_ge_nt (tgt := 366) qX12_findTale_205 (by omega) (by omega) (by omega) (by omega) ?_
    by_cases h0c : c1 = 0
    · rw [if_pos h0c] at hq
      refine x_ildn qX12_findTale_366 rfl ?_
      refine x_if_ne_f (tgt := 374) qX12_findTale_367 (by omega) (by rw [h0c]; rfl) ?_
      refine x_iconst (v := nI 0) qX12_findTale_370 rfl ?_
      refine x_goto (tgt := 385) qX12_findTale_371 (by omega) ?_
      refine x_iret qX12_findTale_385 rfl rfl ?_
      exact hq
    · rw [if_neg h0c] at hq
      have h0 : 0 < c1 := by omega
      obtain ⟨t1, t2⟩ := hTl 0 h0
      have e97 := h97 0 h0 _ t1 t2
      rw [Nat.mul_zero, Nat.zero_add, Nat.sub_zero, ← hI 97 (by decide)] at e97
      have e98 := hT 0 h0
      refine x_ildn qX12_findTale_366 rfl ?_
      refine x_if_ne_t (tgt := 374) qX12_findTale_367 (by omega) (nI_ne0 h0 (by omega)) ?_
      refine x_aldn qX12_findTale_374 rfl trivial ?_
      refine x_getR qX12_findTale_375 fX12_111 rfl rfl ?_
      refine x_aldn qX12_findTale_378 rfl trivial ?_
      refine x_getR qX12_findTale_379 fX12_114 rfl rfl ?_
      refine x_iconst (v := nI 0) qX12_findTale_382 rfl ?_
      refine x_ialde qX12_findTale_383 dd_98 rfl (by omega) (by decide) e98 ?_
      refine x_ialde qX12_findTale_384 dd_97 rfl (by omega) (by decide) e97 ?_
      refine x_iret qX12_findTale_385 rfl rfl ?_
      exact hq
  | succ m ih =>
    intro r a5 a6 a7 a8 I' hre hT hI
    have kk1 : I' 73 1 = nI W := by rw [hI 73 (by decide)]; exact k1
    have done : ∀ (o : Option Nat) (a6 : Int32) (a7 a8 : Value), o = some (T r) → cm_Ex l g 2 0 0 mX12_findTale 351 [.ref 73, .int (nI wh), .int (nI t), .int (nI c1), .int (nI r), .int (optI o), .int a6, a7, a8] [] I' L (RR u hr tl) (DD u) Q := fun o a6 a7 a8 ho => by
      rw [ho]
      refine x_aldn qX12_findTale_351 rfl trivial ?_
      refine x_getR qX12_findTale_352 fX12_114 rfl rfl ?_
      refine x_ild qX12_findTale_355 rfl ?_
      refine x_ild qX12_findTale_357 rfl ?_
      refine x_iast qX12_findTale_359 dd_98 rfl (by omega) (by decide) ?_
      refine x_iinc4 qX12_findTale_360 (by decide) (cm_inc _) rfl ?_
      refine x_goto (tgt := 202) qX12_findTale_363 (by omega) ?_
      refine ih (r + 1) _ _ _ _ _ (by omega) (fun r' hr' => ?_) (fun b hb => by rw [cm_u_ne hb]; exact hI b hb)
      by_cases e : r' = r
      · subst e; exact rdE
      · rw [rdK e]; exact hT r' (by omega)
    have e96 : ∀ w, w < W → I' 96 (64 * r + w) = b2I (lv r w) := fun w hw => by rw [hI 96 (by decide)]; exact h96 r (by omega) w hw
    have e97 : ∀ w, w < W → lv r w = true → I' 97 (64 * r + w) = zI (C (c1 - 1 - r) w) := fun w hw hl => by rw [hI 97 (by decide)]; exact h97 r (by omega) w hw hl
    refine x_ild qX12_findTale_202 rfl ?_
    refine x_ildn qX12_findTale_204 rfl ?_
    refine x_icmp_ge_nf (tgt := 366) qX12_findTale_205 (by omega) (by omega) (by omega) (by omega) ?_
    refine x_iconst (v := -1) qX12_findTale_208 rfl ?_
    refine x_ist5 qX12_findTale_209 (by decide) rfl ?_
    refine x_iconst (v := nI 0) qX12_findTale_211 rfl ?_
    refine x_ist6 qX12_findTale_212 (by decide) rfl ?_
    refine x_iconst (v := nI 0) qX12_findTale_214 rfl ?_
    refine x_ist7 qX12_findTale_215 (by decide) rfl ?_
    by_cases hr0 : r = 0
    · subst hr0
      refine ft_in2 (f := lv 0) (gv := fun v => C (c1 - 1) v) kk1 h64 (fun w hw => by have := hcb (c1 - 1) w (by omega) hw; omega) (fun w a5 a6 a8 hw hno hyes => ?_) (fun a6 a7 a8 => done _ a6 a7 a8 (hT0 (by omega))) W 0 _ (by omega)
      have w96 := e96 w hw
      cases hl : lv 0 w with
      | false =>
        rw [hl] at w96
        refine x_aldn qX12_findTale_226 rfl trivial ?_
        refine x_getR qX12_findTale_227 fX12_108 rfl rfl ?_
        refine x_bipush (v := nI 64) qX12_findTale_230 rfl ?_
        refine x_ild qX12_findTale_232 rfl ?_
        refine x_imul_n qX12_findTale_234 ?_
        refine x_ild qX12_findTale_235 rfl ?_
        refine x_iadd_n qX12_findTale_237 ?_
        refine x_zalde qX12_findTale_238 dd_96 rfl (by omega) (by decide) w96 ?_
        refine x_if_eq_t (tgt := 345) qX12_findTale_239 (by omega) (by decide) ?_
        exact hno _ hl
      | true =>
        have w97 := e97 w hw hl
        rw [Nat.sub_zero] at w97
        rw [hl] at w96
        refine x_aldn qX12_findTale_226 rfl trivial ?_
        refine x_getR qX12_findTale_227 fX12_108 rfl rfl ?_
        refine x_bipush (v := nI 64) qX12_findTale_230 rfl ?_
        refine x_ild qX12_findTale_232 rfl ?_
        refine x_imul_n qX12_findTale_234 ?_
        refine x_ild qX12_findTale_235 rfl ?_
        refine x_iadd_n qX12_findTale_237 ?_
        refine x_zalde qX12_findTale_238 dd_96 rfl (by omega) (by decide) w96 ?_
        refine x_if_eq_f (tgt := 345) qX12_findTale_239 (by omega) (by decide) ?_
        refine x_ild qX12_findTale_242 rfl ?_
        refine x_if_le_t (tgt := 273) qX12_findTale_244 (by omega) (by decide) ?_
        refine x_aldn qX12_findTale_273 rfl trivial ?_
        refine x_getR qX12_findTale_274 fX12_111 rfl rfl ?_
        refine x_bipush (v := nI 64) qX12_findTale_277 rfl ?_
        refine x_ild qX12_findTale_279 rfl ?_
        refine x_imul_n qX12_findTale_281 ?_
        refine x_ild qX12_findTale_282 rfl ?_
        refine x_iadd_n qX12_findTale_284 ?_
        refine x_ialde qX12_findTale_285 dd_97 rfl (by omega) (by decide) w97 ?_
        refine x_ild qX12_findTale_286 rfl ?_
        refine x_if_le_t (tgt := 318) qX12_findTale_288 (by omega) (by decide) ?_
        refine x_iconst (v := nI 0) qX12_findTale_318 rfl ?_
        refine x_iadd qX12_findTale_319 ?_
        rw [zI_nI, show C (c1 - 1) w + ((0 : Nat) : Int) = C (c1 - 1) w from Int.add_zero _]
        exact hyes hl
    · obtain ⟨q, rfl⟩ : ∃ q, r = q + 1 := ⟨r - 1, by omega⟩
      obtain ⟨t1, t2⟩ := hTl q (by omega)
      have e98 : I' 98 (q + 1 - 1) = nI (T q) := hT q (by omega)
      refine ft_in2 (f := fun v => lv (q + 1) v && nx (T q) v) (gv := fun v => C (c1 - 1 - (q + 1)) v + ch (T q) v) kk1 h64 (fun w hw => ?_) (fun w a5 a6 a8 hw hno hyes => ?_) (fun a6 a7 a8 => done _ a6 a7 a8 (hTs q (by omega))) W 0 _ (by omega)
      · have h1 := hcb (c1 - 1 - (q + 1)) w (by omega) hw
        have h2 := hcg (T q) w
        have h3 := hch (T q) w
        show -100000 ≤ C _ w + ch (T q) w ∧ C _ w + ch (T q) w ≤ 100000
        rw [h3]
        split <;> omega
      · have w96 := e96 w hw
        have w92 : I' 92 (64 * T q + w) = b2I (nx (T q) w) := by rw [hI 92 (by decide)]; exact h92 (T q) t1 w hw
        have w90 : I' 90 (64 * T q + w) = nI (cg (T q) w) := by rw [hI 90 (by decide)]; exact h90 (T q) t1 w hw
        cases hl : lv (q + 1) w with
        | false =>
          rw [hl] at w96
          refine x_aldn qX12_findTale_226 rfl trivial ?_
          refine x_getR qX12_findTale_227 fX12_108 rfl rfl ?_
          refine x_bipush (v := nI 64) qX12_findTale_230 rfl ?_
          refine x_ild qX12_findTale_232 rfl ?_
          refine x_imul_n qX12_findTale_234 ?_
          refine x_ild qX12_findTale_235 rfl ?_
          refine x_iadd_n qX12_findTale_237 ?_
          refine x_zalde qX12_findTale_238 dd_96 rfl (by omega) (by decide) w96 ?_
          refine x_if_eq_t (tgt := 345) qX12_findTale_239 (by omega) (by decide) ?_
          exact hno _ (by show (lv (q + 1) w && _) = _; rw [hl]; rfl)
        | true =>
          have w97 := e97 w hw hl
          rw [hl] at w96
          refine x_aldn qX12_findTale_226 rfl trivial ?_
          refine x_getR qX12_findTale_227 fX12_108 rfl rfl ?_
          refine x_bipush (v := nI 64) qX12_findTale_230 rfl ?_
          refine x_ild qX12_findTale_232 rfl ?_
          refine x_imul_n qX12_findTale_234 ?_
          refine x_ild qX12_findTale_235 rfl ?_
          refine x_iadd_n qX12_findTale_237 ?_
          refine x_zalde qX12_findTale_238 dd_96 rfl (by omega) (by decide) w96 ?_
          refine x_if_eq_f (tgt := 345) qX12_findTale_239 (by omega) (by decide) ?_
          refine x_ild qX12_findTale_242 rfl ?_
          refine x_if_le_n (tgt := 273) qX12_findTale_244 (by omega) (by omega) (fun e => absurd e (by omega)) (fun _ => ?_)
          cases hn : nx (T q) w with
          | false =>
            rw [hn] at w92
            refine x_aldn qX12_findTale_247 rfl trivial ?_
            refine x_getR qX12_findTale_248 fX12_95 rfl rfl ?_
            refine x_bipush (v := nI 64) qX12_findTale_251 rfl ?_
            refine x_aldn qX12_findTale_253 rfl trivial ?_
            refine x_getR qX12_findTale_254 fX12_114 rfl rfl ?_
            refine x_ild qX12_findTale_257 rfl ?_
            refine x_iconst (v := nI 1) qX12_findTale_259 rfl ?_
            refine x_isub_n qX12_findTale_260 (by omega) ?_
            refine x_ialde qX12_findTale_261 dd_98 rfl (by omega) (by decide) e98 ?_
            refine x_imul_n qX12_findTale_262 ?_
            refine x_ild qX12_findTale_263 rfl ?_
            refine x_iadd_n qX12_findTale_265 ?_
            refine x_zalde qX12_findTale_266 dd_92 rfl (by omega) (by decide) w92 ?_
            refine x_if_ne_f (tgt := 273) qX12_findTale_267 (by omega) (by decide) ?_
            refine x_goto (tgt := 345) qX12_findTale_270 (by omega) ?_
            exact hno _ (by show (lv (q + 1) w && nx (T q) w) = _; rw [hl, hn]; rfl)
          | true =>
            have hy := hyes (by show (lv (q + 1) w && nx (T q) w) = _; rw [hl, hn]; rfl)
            have hcw := hch (T q) w
            rw [hn] at w92
            refine x_aldn qX12_findTale_247 rfl trivial ?_
            refine x_getR qX12_findTale_248 fX12_95 rfl rfl ?_
            refine x_bipush (v := nI 64) qX12_findTale_251 rfl ?_
            refine x_aldn qX12_findTale_253 rfl trivial ?_
            refine x_getR qX12_findTale_254 fX12_114 rfl rfl ?_
            refine x_ild qX12_findTale_257 rfl ?_
            refine x_iconst (v := nI 1) qX12_findTale_259 rfl ?_
            refine x_isub_n qX12_findTale_260 (by omega) ?_
            refine x_ialde qX12_findTale_261 dd_98 rfl (by omega) (by decide) e98 ?_
            refine x_imul_n qX12_findTale_262 ?_
            refine x_ild qX12_findTale_263 rfl ?_
            refine x_iadd_n qX12_findTale_265 ?_
            refine x_zalde qX12_findTale_266 dd_92 rfl (by omega) (by decide) w92 ?_
            refine x_if_ne_t (tgt := 273) qX12_findTale_267 (by omega) (by decide) ?_
            refine x_aldn qX12_findTale_273 rfl trivial ?_
            refine x_getR qX12_findTale_274 fX12_111 rfl rfl ?_
            refine x_bipush (v := nI 64) qX12_findTale_277 rfl ?_
            refine x_ild qX12_findTale_279 rfl ?_
            refine x_imul_n qX12_findTale_281 ?_
            refine x_ild qX12_findTale_282 rfl ?_
            refine x_iadd_n qX12_findTale_284 ?_
            refine x_ialde qX12_findTale_285 dd_97 rfl (by omega) (by decide) w97 ?_
            refine x_ild qX12_findTale_286 rfl ?_
            refine x_if_le_n (tgt := 318) qX12_findTale_288 (by omega) (by omega) (fun e => absurd e (by omega)) (fun _ => ?_)
            refine x_ildn qX12_findTale_291 rfl ?_
            refine x_if_ne_n (tgt := 318) qX12_findTale_292 (by omega) (by omega) (fun e => ?_) (fun e => ?_)
            · rw [if_neg (by omega)] at hcw
              rw [hcw] at hy
              refine x_iconst (v := nI 0) qX12_findTale_318 rfl ?_
              refine x_iadd qX12_findTale_319 ?_
              rw [zI_nI]
              exact hy
            · rw [if_pos e] at hcw
              rw [hcw] at hy
              refine x_aldn qX12_findTale_295 rfl trivial ?_
              refine x_getR qX12_findTale_296 fX12_89 rfl rfl ?_
              refine x_bipush (v := nI 64) qX12_findTale_299 rfl ?_
              refine x_aldn qX12_findTale_301 rfl trivial ?_
              refine x_getR qX12_findTale_302 fX12_114 rfl rfl ?_
              refine x_ild qX12_findTale_305 rfl ?_
              refine x_iconst (v := nI 1) qX12_findTale_307 rfl ?_
              refine x_isub_n qX12_findTale_308 (by omega) ?_
              refine x_ialde qX12_findTale_309 dd_98 rfl (by omega) (by decide) e98 ?_
              refine x_imul_n qX12_findTale_310 ?_
              refine x_ild qX12_findTale_311 rfl ?_
              refine x_iadd_n qX12_findTale_313 ?_
              refine x_ialde qX12_findTale_314 dd_90 rfl (by omega) (by decide) w90 ?_
              refine x_goto (tgt := 319) qX12_findTale_315 (by omega) ?_
              refine x_iadd qX12_findTale_319 ?_
              rw [zI_nI]
              exact hy
theorem ft_one {W wh t : Nat} {lv nx : Nat → Nat → Bool} {C : Nat → Nat → Int} {c : Nat → Int} {ch : Nat → Nat → Int} {cg : Nat → Nat → Nat} (hc12 : c1 ≤ 12) (k1 : I 73 1 = nI W) (h64 : W ≤ 64) (hwh : wh < 4)
  (hC0 : ∀ w, C 0 w = c w) (hCs : ∀ r w, r + 1 < c1 → w < W → lv r w = true → c w + mnv (fun v => lv (r + 1) v && nx w v) (fun v => C (c1 - 1 - (r + 1)) v + ch w v) 1000000 W = C (c1 - 1 - r) w)
  (h96 : ∀ r, r < c1 → A96 W lv r I) (h92 : ∀ w, w < W → ∀ v, v < W → I 92 (64 * w + v) = b2I (nx w v)) (h90 : ∀ w, w < W → ∀ v, v < W → I 90 (64 * w + v) = nI (cg w v)) (hch : ∀ w v, ch w v = if wh = 0 then (cg w v : Int) else 0) (hcg : ∀ w v, cg w v ≤ 4)
  (hcb : ∀ m w, m < 12 → w < W → -50000 ≤ C m w ∧ C m w ≤ 50000)
  (hcost : ∀ w I' (Q' : cm_Post), w < W → (∀ b, b ≠ 97 → I' b = I b) → Q' (some (.int (zI (c w)))) I' L (RR u hr tl) (DD u) → cm_Ex l g 1 0 0 mX12_costOf 0 [.ref 73, .int (nI w), .int (nI wh), .int (nI t)] [] I' L (RR u hr tl) (DD u) Q')
  (hk : ∀ I' (a5 a6 a7 a8 : Value), (∀ r, r < c1 → ∀ w, w < W → lv r w = true → I' 97 (64 * r + w) = zI (C (c1 - 1 - r) w)) → (∀ b, b ≠ 97 → I' b = I b) → cm_Ex l g 2 0 0 mX12_findTale 202 [.ref 73, .int (nI wh), .int (nI t), .int (nI c1), .int (nI 0), a5, a6, a7, a8] [] I' L (RR u hr tl) (DD u) Q) : ∀ j (a5 a6 a7 a8 : Value) I', j ≤ c1 → (∀ r, j ≤ r → r < c1 → ∀ w, w < W → lv r w = true → I' 97 (64 * r + w) = zI (C (c1 - 1 - r) w)) → (∀ b, b ≠ 97 → I' b = I b) → cm_Ex l g 2 0 0 mX12_findTale 12 [.ref 73, .int (nI wh), .int (nI t), .int (nI c1), .int (nI j + Int32.ofInt (-1)), a5, a6, a7, a8] [] I' L (RR u hr tl) (DD u) Q := by
  intro j
  induction j with
  | zero =>
    intro a5 a6 a7 a8 I' hj hB hI
    refine x_ild qX12_findTale_12 rfl ?_
    refine x_if_lt_t (tgt := 199) qX12_findTale_14 (by omega) (by decide) ?_
    refine x_iconst (v := nI 0) qX12_findTale_199 rfl ?_
    refine x_ist4 qX12_findTale_200 (by decide) rfl ?_
    exact hk I' _ _ _ _ (fun r h1 w h2 h3 => hB r (by omega) h1 w h2 h3) hI
  | succ j ih =>
    intro a5 a6 a7 a8 I' hj hB hI
    rw [cm_dec]
    have mid : ∀ m w (a6 a7 a8 : Value) I', w + m = W → (∀ r, j + 1 ≤ r → r < c1 → ∀ w, w < W → lv r w = true → I' 97 (64 * r + w) = zI (C (c1 - 1 - r) w)) → (∀ w', w' < w → lv j w' = true → I' 97 (64 * j + w') = zI (C (c1 - 1 - j) w')) → (∀ b, b ≠ 97 → I' b = I b) → cm_Ex l g 2 0 0 mX12_findTale 20 [.ref 73, .int (nI wh), .int (nI t), .int (nI c1), .int (nI j), .int (nI w), a6, a7, a8] [] I' L (RR u hr tl) (DD u) Q := by
      intro m
      induction m with
      | zero =>
        intro w a6 a7 a8 I' hw hB hP hI
        have kk1 : I' 73 1 = nI W := by rw [hI 73 (by decide)]; exact k1
        refine x_ild qX12_findTale_20 rfl ?_
        refine x_aldn qX12_findTale_22 rfl trivial ?_
        refine x_getIe qX12_findTale_23 fX12_13 rfl kk1 ?_
        refine x_icmp_ge_nt (tgt := 193) qX12_findTale_26 (by omega) (by omega) (by omega) (by omega) ?_
        refine x_iinc4 qX12_findTale_193 (by decide) rfl rfl ?_
        refine x_goto (tgt := 12) qX12_findTale_196 (by omega) ?_
        refine ih _ _ _ _ I' (by omega) (fun r h1 h2 => ?_) hI
        by_cases e : r = j
        · subst e; exact fun w' hw' => hP w' (by omega)
        · exact hB r (by omega) h2
      | succ m ih2 =>
        intro w a6 a7 a8 I' hw hB hP hI
        have kk1 : I' 73 1 = nI W := by rw [hI 73 (by decide)]; exact k1
        have fin : ∀ z (a7 a8 : Value), (lv j w = true → c w + z = C (c1 - 1 - j) w) → cm_Ex l g 2 0 0 mX12_findTale 163 [.ref 73, .int (nI wh), .int (nI t), .int (nI c1), .int (nI j), .int (nI w), .int (zI z), a7, a8] [] I' L (RR u hr tl) (DD u) Q := fun z a7 a8 hz => by
          refine x_aldn qX12_findTale_163 rfl trivial ?_
          refine x_getR qX12_findTale_164 fX12_111 rfl rfl ?_
          refine x_bipush (v := nI 64) qX12_findTale_167 rfl ?_
          refine x_ild qX12_findTale_169 rfl ?_
          refine x_imul_n qX12_findTale_171 ?_
          refine x_ild qX12_findTale_172 rfl ?_
          refine x_iadd_n qX12_findTale_174 ?_
          refine x_ild qX12_findTale_175 rfl ?_
          refine x_aldn qX12_findTale_177 rfl trivial ?_
          refine x_ild qX12_findTale_178 rfl ?_
          refine x_ildn qX12_findTale_180 rfl ?_
          refine x_ildn qX12_findTale_181 rfl ?_
          refine x_cV3 (d' := 1) qX12_findTale_182 cX12_255 rfl ⟨_, rfl, rfl⟩ rfl rfl (Nat.le_of_ble_eq_true rfl) (Nat.le_of_ble_eq_true rfl) (by decide) ?_
          refine hcost w I' _ (by omega) hI ?_
          refine x_iadd qX12_findTale_185 ?_
          rw [zI_add, Int.add_comm]
          refine x_iast qX12_findTale_186 dd_97 rfl (by omega) (by decide) ?_
          refine x_iinc5 qX12_findTale_187 (by decide) (cm_inc _) rfl ?_
          refine x_goto (tgt := 20) qX12_findTale_190 (by omega) ?_
          refine ih2 (w + 1) _ _ _ _ (by omega) (fun r h1 h2 w' hw' hl => by rw [rdK (by omega)]; exact hB r h1 h2 w' hw' hl) (fun w' hw' hl => ?_) (fun b g1 => by rw [cm_u_ne g1]; exact hI b g1)
          by_cases e : w' = w
          · subst e; rw [rdE, hz hl]
          · rw [rdK (by omega)]; exact hP w' (by omega) hl
        refine x_ild qX12_findTale_20 rfl ?_
        refine x_aldn qX12_findTale_22 rfl trivial ?_
        refine x_getIe qX12_findTale_23 fX12_13 rfl kk1 ?_
        refine x_icmp_ge_nf (tgt := 193) qX12_findTale_26 (by omega) (by omega) (by omega) (by omega) ?_
        refine x_ild qX12_findTale_29 rfl ?_
        refine x_ildn qX12_findTale_31 rfl ?_
        refine x_iconst (v := nI 1) qX12_findTale_32 rfl ?_
        refine x_isub_n qX12_findTale_33 (by omega) ?_
        refine x_icmp_ne_n (tgt := 41) qX12_findTale_34 (by omega) (by omega) (by omega) (fun e => ?_) (fun e => ?_)
        · have hgb : ∀ v, v < W → -100000 ≤ C (c1 - 1 - (j + 1)) v + ch w v ∧ C (c1 - 1 - (j + 1)) v + ch w v ≤ 100000 := fun v hv => by
            have h1 := hcb (c1 - 1 - (j + 1)) v (by omega) hv
            have h2 := hcg w v
            rw [hch w v]
            split <;> omega
          have inn : ∀ k v (a8 : Value), v + k = W → cm_Ex l g 2 0 0 mX12_findTale 48 [.ref 73, .int (nI wh), .int (nI t), .int (nI c1), .int (nI j), .int (nI w), .int (zI (mnv (fun v => lv (j + 1) v && nx w v) (fun v => C (c1 - 1 - (j + 1)) v + ch w v) 1000000 v)), .int (nI v), a8] [] I' L (RR u hr tl) (DD u) Q := by
            intro k
            induction k with
            | zero =>
              intro v a8 hv
              have e2 : v = W := by omega
              rw [e2]
              refine x_ild qX12_findTale_48 rfl ?_
              refine x_aldn qX12_findTale_50 rfl trivial ?_
              refine x_getIe qX12_findTale_51 fX12_13 rfl kk1 ?_
              refine x_icmp_ge_nt (tgt := 163) qX12_findTale_54 (by omega) (by omega) (by omega) (by omega) ?_
              exact fin _ _ _ (fun hl => hCs j w (by omega) (by omega) hl)
            | succ k ih3 =>
              intro v a8 hv
              have e1 : I' 96 (64 * (j + 1) + v) = b2I (lv (j + 1) v) := by rw [hI 96 (by decide)]; exact h96 (j + 1) (by omega) v (by omega)
              have e2 : I' 92 (64 * w + v) = b2I (nx w v) := by rw [hI 92 (by decide)]; exact h92 w (by omega) v (by omega)
              have e3 : I' 90 (64 * w + v) = nI (cg w v) := by rw [hI 90 (by decide)]; exact h90 w (by omega) v (by omega)
              have hgv := hgb v (by omega)
              have es := mnv_s (f := fun v => lv (j + 1) v && nx w v) (g := fun v => C (c1 - 1 - (j + 1)) v + ch w v) (d := 1000000) (v := v) (fun _ => show C (c1 - 1 - (j + 1)) v + ch w v < 1000000 by omega)
              have hm := mnv_bd (f := fun v => lv (j + 1) v && nx w v) (g := fun v => C (c1 - 1 - (j + 1)) v + ch w v) (d := 1000000) (B := 1000000) (v := v) (by omega) (fun i hi => by have := hgb i (by omega); show -1000000 ≤ C (c1 - 1 - (j + 1)) i + ch w i ∧ C (c1 - 1 - (j + 1)) i + ch w i ≤ 1000000; omega)
              have i1 := fun a8 => ih3 (v + 1) a8 (by omega)
              rw [es] at i1
              generalize mnv (fun v => lv (j + 1) v && nx w v) (fun v => C (c1 - 1 - (j + 1)) v + ch w v) 1000000 v = z at *
              refine x_ild qX12_findTale_48 rfl ?_
              refine x_aldn qX12_findTale_50 rfl trivial ?_
              refine x_getIe qX12_findTale_51 fX12_13 rfl kk1 ?_
              refine x_icmp_ge_nf (tgt := 163) qX12_findTale_54 (by omega) (by omega) (by omega) (by omega) ?_
              refine x_ild qX12_findTale_57 rfl ?_
              refine x_ildn qX12_findTale_59 rfl ?_
              refine x_iconst (v := nI 1) qX12_findTale_60 rfl ?_
              refine x_isub_n qX12_findTale_61 (by omega) ?_
              refine x_icmp_ge_nf (tgt := 163) qX12_findTale_62 (by omega) (by omega) (by omega) (by omega) ?_
              cases hl : lv (j + 1) v with
              | false =>
                rw [hl] at e1
                rw [if_neg (by show ¬ (lv (j + 1) v && nx w v) = true; rw [hl]; simp)] at i1
                refine x_aldn qX12_findTale_65 rfl trivial ?_
                refine x_getR qX12_findTale_66 fX12_108 rfl rfl ?_
                refine x_bipush (v := nI 64) qX12_findTale_69 rfl ?_
                refine x_ild qX12_findTale_71 rfl ?_
                refine x_iconst (v := nI 1) qX12_findTale_73 rfl ?_
                refine x_iadd_n qX12_findTale_74 ?_
                refine x_imul_n qX12_findTale_75 ?_
                refine x_ild qX12_findTale_76 rfl ?_
                refine x_iadd_n qX12_findTale_78 ?_
                refine x_zalde qX12_findTale_79 dd_96 rfl (by omega) (by decide) e1 ?_
                refine x_if_eq_t (tgt := 157) qX12_findTale_80 (by omega) (by decide) ?_
                refine x_iinc7 qX12_findTale_157 (by decide) (cm_inc _) rfl ?_
                refine x_goto (tgt := 48) qX12_findTale_160 (by omega) ?_
                exact i1 _
              | true =>
                rw [hl] at e1
                cases hn : nx w v with
                | false =>
                  rw [hn] at e2
                  rw [if_neg (by show ¬ (lv (j + 1) v && nx w v) = true; rw [hl, hn]; decide)] at i1
                  refine x_aldn qX12_findTale_65 rfl trivial ?_
                  refine x_getR qX12_findTale_66 fX12_108 rfl rfl ?_
                  refine x_bipush (v := nI 64) qX12_findTale_69 rfl ?_
                  refine x_ild qX12_findTale_71 rfl ?_
                  refine x_iconst (v := nI 1) qX12_findTale_73 rfl ?_
                  refine x_iadd_n qX12_findTale_74 ?_
                  refine x_imul_n qX12_findTale_75 ?_
                  refine x_ild qX12_findTale_76 rfl ?_
                  refine x_iadd_n qX12_findTale_78 ?_
                  refine x_zalde qX12_findTale_79 dd_96 rfl (by omega) (by decide) e1 ?_
                  refine x_if_eq_f (tgt := 157) qX12_findTale_80 (by omega) (by decide) ?_
                  refine x_aldn qX12_findTale_83 rfl trivial ?_
                  refine x_getR qX12_findTale_84 fX12_95 rfl rfl ?_
                  refine x_bipush (v := nI 64) qX12_findTale_87 rfl ?_
                  refine x_ild qX12_findTale_89 rfl ?_
                  refine x_imul_n qX12_findTale_91 ?_
                  refine x_ild qX12_findTale_92 rfl ?_
                  refine x_iadd_n qX12_findTale_94 ?_
                  refine x_zalde qX12_findTale_95 dd_92 rfl (by omega) (by decide) e2 ?_
                  refine x_if_ne_f (tgt := 102) qX12_findTale_96 (by omega) (by decide) ?_
                  refine x_goto (tgt := 157) qX12_findTale_99 (by omega) ?_
                  refine x_iinc7 qX12_findTale_157 (by decide) (cm_inc _) rfl ?_
                  refine x_goto (tgt := 48) qX12_findTale_160 (by omega) ?_
                  exact i1 _
                | true =>
                  rw [hn] at e2
                  have e4 : I' 97 (64 * (j + 1) + v) = zI (C (c1 - 1 - (j + 1)) v) := hB (j + 1) (Nat.le_refl _) (by omega) v (by omega) hl
                  rw [if_pos (by show (lv (j + 1) v && nx w v) = true; rw [hl, hn]; rfl)] at i1
                  have hcw := hch w v
                  have st : cm_Ex l g 2 0 0 mX12_findTale 139 [.ref 73, .int (nI wh), .int (nI t), .int (nI c1), .int (nI j), .int (nI w), .int (zI z), .int (nI v), a8] [.int (zI (C (c1 - 1 - (j + 1)) v + ch w v))] I' L (RR u hr tl) (DD u) Q := by
                    refine x_ist8 qX12_findTale_139 (by decide) rfl ?_
                    refine x_ild qX12_findTale_141 rfl ?_
                    refine x_ild qX12_findTale_143 rfl ?_
                    refine x_icmp_ge (tgt := 153) qX12_findTale_145 (by omega) (fun h => ?_) (fun h => ?_)
                    · rw [zI_le (by omega) (by omega) (by omega) (by omega)] at h
                      rw [if_neg (show ¬ C (c1 - 1 - (j + 1)) v + ch w v < z by omega)] at i1
                      refine x_ild qX12_findTale_153 rfl ?_
                      refine x_ist6 qX12_findTale_155 (by decide) rfl ?_
                      refine x_iinc7 qX12_findTale_157 (by decide) (cm_inc _) rfl ?_
                      refine x_goto (tgt := 48) qX12_findTale_160 (by omega) ?_
                      exact i1 _
                    · rw [zI_le (by omega) (by omega) (by omega) (by omega)] at h
                      rw [if_pos (show C (c1 - 1 - (j + 1)) v + ch w v < z by omega)] at i1
                      refine x_ild qX12_findTale_148 rfl ?_
                      refine x_goto (tgt := 155) qX12_findTale_150 (by omega) ?_
                      refine x_ist6 qX12_findTale_155 (by decide) rfl ?_
                      refine x_iinc7 qX12_findTale_157 (by decide) (cm_inc _) rfl ?_
                      refine x_goto (tgt := 48) qX12_findTale_160 (by omega) ?_
                      exact i1 _
                  refine x_aldn qX12_findTale_65 rfl trivial ?_
                  refine x_getR qX12_findTale_66 fX12_108 rfl rfl ?_
                  refine x_bipush (v := nI 64) qX12_findTale_69 rfl ?_
                  refine x_ild qX12_findTale_71 rfl ?_
                  refine x_iconst (v := nI 1) qX12_findTale_73 rfl ?_
                  refine x_iadd_n qX12_findTale_74 ?_
                  refine x_imul_n qX12_findTale_75 ?_
                  refine x_ild qX12_findTale_76 rfl ?_
                  refine x_iadd_n qX12_findTale_78 ?_
                  refine x_zalde qX12_findTale_79 dd_96 rfl (by omega) (by decide) e1 ?_
                  refine x_if_eq_f (tgt := 157) qX12_findTale_80 (by omega) (by decide) ?_
                  refine x_aldn qX12_findTale_83 rfl trivial ?_
                  refine x_getR qX12_findTale_84 fX12_95 rfl rfl ?_
                  refine x_bipush (v := nI 64) qX12_findTale_87 rfl ?_
                  refine x_ild qX12_findTale_89 rfl ?_
                  refine x_imul_n qX12_findTale_91 ?_
                  refine x_ild qX12_findTale_92 rfl ?_
                  refine x_iadd_n qX12_findTale_94 ?_
                  refine x_zalde qX12_findTale_95 dd_92 rfl (by omega) (by decide) e2 ?_
                  refine x_if_ne_t (tgt := 102) qX12_findTale_96 (by omega) (by decide) ?_
                  refine x_aldn qX12_findTale_102 rfl trivial ?_
                  refine x_getR qX12_findTale_103 fX12_111 rfl rfl ?_
                  refine x_bipush (v := nI 64) qX12_findTale_106 rfl ?_
                  refine x_ild qX12_findTale_108 rfl ?_
                  refine x_iconst (v := nI 1) qX12_findTale_110 rfl ?_
                  refine x_iadd_n qX12_findTale_111 ?_
                  refine x_imul_n qX12_findTale_112 ?_
                  refine x_ild qX12_findTale_113 rfl ?_
                  refine x_iadd_n qX12_findTale_115 ?_
                  refine x_ialde qX12_findTale_116 dd_97 rfl (by omega) (by decide) e4 ?_
                  refine x_ildn qX12_findTale_117 rfl ?_
                  refine x_if_ne_n (tgt := 137) qX12_findTale_118 (by omega) (by omega) (fun e => ?_) (fun e => ?_)
                  · rw [if_neg (by omega)] at hcw
                    rw [hcw] at st
                    refine x_iconst (v := nI 0) qX12_findTale_137 rfl ?_
                    refine x_iadd qX12_findTale_138 ?_
                    rw [zI_nI]
                    exact st
                  · rw [if_pos e] at hcw
                    rw [hcw] at st
                    refine x_aldn qX12_findTale_121 rfl trivial ?_
                    refine x_getR qX12_findTale_122 fX12_89 rfl rfl ?_
                    refine x_bipush (v := nI 64) qX12_findTale_125 rfl ?_
                    refine x_ild qX12_findTale_127 rfl ?_
                    refine x_imul_n qX12_findTale_129 ?_
                    refine x_ild qX12_findTale_130 rfl ?_
                    refine x_iadd_n qX12_findTale_132 ?_
                    refine x_ialde qX12_findTale_133 dd_90 rfl (by omega) (by decide) e3 ?_
                    refine x_goto (tgt := 138) qX12_findTale_134 (by omega) ?_
                    refine x_iadd qX12_findTale_138 ?_
                    rw [zI_nI]
                    exact st
          have m0 : mnv (fun v => lv (j + 1) v && nx w v) (fun v => C (c1 - 1 - (j + 1)) v + ch w v) 1000000 0 = 1000000 := rfl
          have i0 := fun a8 => inn W 0 a8 (by omega)
          rw [m0] at i0
          refine x_ldc (v := zI 1000000) qX12_findTale_41 vX12_254 ?_
          refine x_ist6 qX12_findTale_43 (by decide) rfl ?_
          refine x_iconst (v := nI 0) qX12_findTale_45 rfl ?_
          refine x_ist7 qX12_findTale_46 (by decide) rfl ?_
          exact i0 _
        · have ej : j = c1 - 1 := e
          refine x_iconst (v := nI 0) qX12_findTale_37 rfl ?_
          refine x_goto (tgt := 43) qX12_findTale_38 (by omega) ?_
          refine x_ist6 qX12_findTale_43 (by decide) rfl ?_
          refine x_iconst (v := nI 0) qX12_findTale_45 rfl ?_
          refine x_ist7 qX12_findTale_46 (by decide) rfl ?_
          refine x_ild qX12_findTale_48 rfl ?_
          refine x_aldn qX12_findTale_50 rfl trivial ?_
          refine x_getIe qX12_findTale_51 fX12_13 rfl kk1 ?_
          refine x_icmp_ge_nf (tgt := 163) qX12_findTale_54 (by omega) (by omega) (by omega) (by omega) ?_
          refine x_ild qX12_findTale_57 rfl ?_
          refine x_ildn qX12_findTale_59 rfl ?_
          refine x_iconst (v := nI 1) qX12_findTale_60 rfl ?_
          refine x_isub_n qX12_findTale_61 (by omega) ?_
          refine x_icmp_ge_nt (tgt := 163) qX12_findTale_62 (by omega) (by omega) (by omega) (by omega) ?_
          refine fin 0 _ _ (fun hl => ?_)
          rw [ej, Nat.sub_self, hC0, Int.add_zero]
    refine x_ild qX12_findTale_12 rfl ?_
    refine x_if_lt_nf (tgt := 199) qX12_findTale_14 (by omega) (by omega) ?_
    refine x_iconst (v := nI 0) qX12_findTale_17 rfl ?_
    refine x_ist5 qX12_findTale_18 (by decide) rfl ?_
    exact mid W 0 _ _ _ I' (by omega) hB (fun w' hw' => absurd hw' (by omega)) hI
theorem c_X12_findTale {wh t : Nat} (H : MH n kd mm I) (h86 : I 86 0 = nI c1) (hc12 : c1 ≤ 12) (A : LL n kd mm cs c1 I) (h999 : ∀ cl, cl ∈ cs → cl.2.2.1 ≤ 999) (hwh : wh < 4) (ht : wh < 2 ∨ t < n) (ht4 : t < 4) (h96 : ∀ r, r < c1 → A96 (wys mm n) (liv fit (nxt kd mm n) (wys mm n) c1) r I) (htal : tal fit (nxt kd mm n) (wys mm n) c1 = true)
  (hQ : ∀ I', (∀ r, r < c1 → I' 98 r = nI (tlr (liv fit (nxt kd mm n) (wys mm n) c1) (nxt kd mm n) (cW n mm cs wh t) (fun u v => (chI mm n (ccN wh) u v : Int)) (wys mm n) c1 r)) → (∀ b, b ≠ 97 → b ≠ 98 → I' b = I b) → Q (some (.int (zI (tvl (liv fit (nxt kd mm n) (wys mm n) c1) (nxt kd mm n) (cW n mm cs wh t) (fun u v => (chI mm n (ccN wh) u v : Int)) (wys mm n) c1)))) I' L (RR u hr tl) (DD u)) : cm_Ex l g 2 0 0 mX12_findTale 0 [.ref 73, .int (nI wh), .int (nI t), .float 0, .float 0, .float 0, .float 0, .float 0, .float 0] [] I L (RR u hr tl) (DD u) Q := by
  obtain ⟨h4, ho, hk, h64, h0, h1, hi⟩ := id H
  have hcb : ∀ m w, m < 12 → w < wys mm n → -50000 ≤ cst (liv fit (nxt kd mm n) (wys mm n) c1) (nxt kd mm n) (cW n mm cs wh t) (fun u v => (chI mm n (ccN wh) u v : Int)) (wys mm n) c1 m w ∧ cst (liv fit (nxt kd mm n) (wys mm n) c1) (nxt kd mm n) (cW n mm cs wh t) (fun u v => (chI mm n (ccN wh) u v : Int)) (wys mm n) c1 m w ≤ 50000 := fun m w hm hw => by
    have q := cst_bd (lv := liv fit (nxt kd mm n) (wys mm n) c1) (nx := nxt kd mm n) (c := cW n mm cs wh t) (ch := fun u v => (chI mm n (ccN wh) u v : Int)) (W := wys mm n) (len := c1) (B := 4000) (by decide) (fun w _ => cW_bd h4 ho h999) (fun u v _ _ => ch_bd h4) m w hw
    have e : ((m + 1 : Nat) : Int) * (4000 + 4) ≤ 12 * 4004 := by omega
    omega
  have hch : ∀ w v, ((chI mm n (ccN wh) w v : Nat) : Int) = if wh = 0 then (chg mm n w v : Int) else 0 := fun w v => by
    unfold chI ccN
    by_cases e : wh = 0
    · rw [if_pos e, if_pos e, if_neg (by decide)]
    · rw [if_neg e, if_neg e, if_pos rfl]; rfl
  have hcg : ∀ w v, chg mm n w v ≤ 4 := fun w v => Nat.le_trans (chg_le w v) h4
  have h92 : ∀ w, w < wys mm n → ∀ v, v < wys mm n → I 92 (64 * w + v) = b2I (nxt kd mm n w v) := fun w hw v hv => (A.2.2.1 w hw v hv).1
  have h90 : ∀ w, w < wys mm n → ∀ v, v < wys mm n → I 90 (64 * w + v) = nI (chg mm n w v) := fun w hw v hv => (A.2.2.1 w hw v hv).2
  refine x_aldn qX12_findTale_0 rfl trivial ?_
  refine x_getR qX12_findTale_1 fX12_77 rfl rfl ?_
  refine x_iconst (v := nI 0) qX12_findTale_4 rfl ?_
  refine x_ialde qX12_findTale_5 dd_86 rfl (by omega) (by decide) h86 ?_
  refine x_ist3 qX12_findTale_6 (by decide) rfl ?_
  refine x_ildn qX12_findTale_7 rfl ?_
  refine x_iconst (v := nI 1) qX12_findTale_8 rfl ?_
  refine x_isub qX12_findTale_9 ?_
  rw [sub1_dec]
  refine x_ist4 qX12_findTale_10 (by decide) rfl ?_
  refine ft_one (lv := liv fit (nxt kd mm n) (wys mm n) c1) (nx := nxt kd mm n) (C := cst (liv fit (nxt kd mm n) (wys mm n) c1) (nxt kd mm n) (cW n mm cs wh t) (fun u v => (chI mm n (ccN wh) u v : Int)) (wys mm n) c1) (c := cW n mm cs wh t) (ch := fun u v => (chI mm n (ccN wh) u v : Int)) (cg := chg mm n) hc12 h1 h64 hwh (fun w => rfl) (fun r w hr2 hw hl => ?_) h96 h92 h90 hch hcg hcb (fun w I' Q' hw hI hq => ?_) (fun I' a5 a6 a7 a8 h97 hI => ?_) c1 _ _ _ _ I (Nat.le_refl _) (fun r h1 h2 => absurd h1 (by omega)) (fun _ _ => rfl)
  · have e1 : c1 - 1 - r = c1 - 1 - (r + 1) + 1 := by omega
    have e3 : c1 - 1 - (c1 - 1 - (r + 1)) = r + 1 := by omega
    rw [e1]
    have hn := liv_next (by omega) hl
    show _ = cW n mm cs wh t w + match amin (fun v => liv fit (nxt kd mm n) (wys mm n) c1 (c1 - 1 - (c1 - 1 - (r + 1))) v && nxt kd mm n w v) _ _ with
      | none => 0
      | some v => _
    rw [e3]
    unfold mnv
    cases ha : amin (fun v => liv fit (nxt kd mm n) (wys mm n) c1 (r + 1) v && nxt kd mm n w v) (fun v => cst (liv fit (nxt kd mm n) (wys mm n) c1) (nxt kd mm n) (cW n mm cs wh t) (fun u v => (chI mm n (ccN wh) u v : Int)) (wys mm n) c1 (c1 - 1 - (r + 1)) v + (chI mm n (ccN wh) w v : Int)) (wys mm n) with
    | none => rw [amin_none.mp ha] at hn; cases hn
    | some b => rfl
  · exact c_X12_costOf hwh ht h4 ht4 ho (T91_fr A.1 (hI 91 (by decide))) (WA_fr A.2.1 (fun b g1 g2 => hI b (by omega))) hw h64 hq
  · refine ft_two (W := wys mm n) (lv := liv fit (nxt kd mm n) (wys mm n) c1) (nx := nxt kd mm n) (T := tlr (liv fit (nxt kd mm n) (wys mm n) c1) (nxt kd mm n) (cW n mm cs wh t) (fun u v => (chI mm n (ccN wh) u v : Int)) (wys mm n) c1) (C := cst (liv fit (nxt kd mm n) (wys mm n) c1) (nxt kd mm n) (cW n mm cs wh t) (fun u v => (chI mm n (ccN wh) u v : Int)) (wys mm n) c1) (ch := fun u v => (chI mm n (ccN wh) u v : Int)) (cg := chg mm n) hc12 (by rw [hI 73 (by decide)]; exact h1) h64 hwh (fun hp => tlr_0 hp htal) (fun r hr2 => tlr_s hr2 htal) (fun r hr2 => tlr_ok htal r hr2) (fun r hr2 w hw => by rw [hI 96 (by decide)]; exact h96 r hr2 w hw) (fun w hw v hv => by rw [hI 92 (by decide)]; exact h92 w hw v hv) (fun w hw v hv => by rw [hI 90 (by decide)]; exact h90 w hw v hv) hch hcg h97 hcb (fun I2 hT hI2 => ?_) c1 0 _ _ _ _ I' (by omega) (fun r' hr' => absurd hr' (by omega)) (fun _ _ => rfl)
    exact hQ I2 hT (fun b g1 g2 => (hI2 b g2).trans (hI b g1))
end M20
