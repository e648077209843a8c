/-! Telling: isIn, near -/
def zI (x : Int) : Int32 := Int32.ofInt x
theorem zI_toInt {x : Int} (h : -1000000000 ≤ x) (h2 : x ≤ 1000000000) : (zI x).toInt = x := Int32.toInt_ofInt_of_le (by omega) (by omega)
theorem zI_nat (n : Nat) : zI (n : Int) = nI n := Int32.ofInt_eq_ofNat
theorem zI_add (a b : Int) : zI a + zI b = zI (a + b) := (Int32.ofInt_add a b).symm
theorem zI_sub (a b : Int) : zI a - zI b = zI (a - b) := (Int32.ofInt_sub a b).symm
theorem zI_mul (a b : Int) : zI a * zI b = zI (a * b) := (Int32.ofInt_mul a b).symm
theorem zI_neg (a : Int) : -zI a = zI (-a) := (Int32.ofInt_neg a).symm
theorem zI_lt {a b : Int} (h : -1000000000 ≤ a) (h2 : a ≤ 1000000000) (h3 : -1000000000 ≤ b) (h4 : b ≤ 1000000000) : zI a < zI b ↔ a < b := by
  rw [Int32.lt_iff_toInt_lt, zI_toInt h h2, zI_toInt h3 h4]
theorem zI_le {a b : Int} (h : -1000000000 ≤ a) (h2 : a ≤ 1000000000) (h3 : -1000000000 ≤ b) (h4 : b ≤ 1000000000) : zI a ≤ zI b ↔ a ≤ b := by
  rw [Int32.le_iff_toInt_le, zI_toInt h h2, zI_toInt h3 h4]
theorem zI_eq {a b : Int} (h : -1000000000 ≤ a) (h2 : a ≤ 1000000000) (h3 : -1000000000 ≤ b) (h4 : b ≤ 1000000000) : zI a = zI b ↔ a = b := by
  constructor
  · intro e
    have := congrArg Int32.toInt e
    rwa [zI_toInt h h2, zI_toInt h3 h4] at this
  · intro e; rw [e]
/-- no farther apart than g -/
def nearZ (a b g : Int) : Bool := decide (a ≤ b + g) && decide (b ≤ a + g)
theorem abs_near {s a gv : Int} (h : -100000 ≤ s) (h2 : s ≤ 100000) (h3 : -100000 ≤ a) (h4 : a ≤ 100000) (h5 : 0 ≤ gv) (h6 : gv ≤ 100000) : zI gv < (if 0 ≤ zI s - zI a then zI s - zI a else 0 - (zI s - zI a)) ↔ nearZ s a gv = false := by
  have e0 : (0 : Int32) = zI 0 := rfl
  rw [zI_sub, e0]
  by_cases hp : (0 : Int) ≤ s - a
  · rw [if_pos ((zI_le (by omega) (by omega) (by omega) (by omega)).mpr hp), zI_lt (by omega) (by omega) (by omega) (by omega)]
    simp [nearZ]; omega
  · rw [if_neg (fun e => hp ((zI_le (by omega) (by omega) (by omega) (by omega)).mp e)), zI_sub, zI_lt (by omega) (by omega) (by omega) (by omega)]
    simp [nearZ]; omega
section K18
variable {l : Launch} {g : cm_G} {I : cm_I} {L : cm_L} {n : Nat} {hr tl : Option Nat} {Q : cm_Post}
theorem c_X7_isIn {R : cm_R} {ds : cm_Ds} {x : Int64} {w : Nat} (hw : w < 64) (ht : tb x w = true → Q (some (.int 1)) I L R ds) (hf : tb x w = false → Q (some (.int 0)) I L R ds) : cm_Ex l g 1 0 0 mX7_isIn 0 [.long x, .float 0, .int (nI w)] [] I L R ds Q := by
  refine x_lldn qX7_isIn_0 rfl ?_
  refine x_ildn qX7_isIn_1 rfl ?_
  refine x_lushr qX7_isIn_2 ?_
  refine x_lconst (v := 1) qX7_isIn_3 rfl ?_
  refine x_land qX7_isIn_4 ?_
  refine x_lconst (v := 0) qX7_isIn_5 rfl ?_
  refine x_lcmp qX7_isIn_6 ?_
  refine x_if_eq (tgt := 14) qX7_isIn_7 (by omega) (fun h7 => ?_) (fun h7 => ?_)
  · refine x_iconst (v := nI 0) qX7_isIn_14 rfl ?_
    refine x_iret qX7_isIn_15 rfl rfl ?_
    first | exact hf ((tb_in0 hw).mp h7) | exact ht (by have := (not_congr (tb_in0 hw)).mp h7; simpa using this)
  · refine x_iconst (v := nI 1) qX7_isIn_10 rfl ?_
    refine x_goto (tgt := 15) qX7_isIn_11 (by omega) ?_
    refine x_iret qX7_isIn_15 rfl rfl ?_
    first | exact hf ((tb_in0 hw).mp h7) | exact ht (by have := (not_congr (tb_in0 hw)).mp h7; simpa using this)
theorem c_X7_near {sa r W : Nat} {aim gv : Int} {f : Nat → Int} (hsa : sa = 28 ∨ sa = 29) (hr0 : r < 12) (hW : W ≤ 64) (h14 : I 23 14 = nI W) (hs : ∀ w, w < W → I sa w = zI (f w) ∧ -100000 ≤ f w ∧ f w ≤ 100000) (ha : -100000 ≤ aim) (ha2 : aim ≤ 100000) (hg : 0 ≤ gv) (hg2 : gv ≤ 100000) (hQ : ∀ v, SB v W (fun w => tb (L 24 r) w && nearZ (f w) aim gv) → Q (some (.long v)) I L (RR n hr tl) (DD n)) : cm_Ex l g 2 0 0 mX7_near 0 [.ref 23, .ref sa, .int (nI r), .int (zI aim), .int (zI gv), .float 0, .float 0, .float 0] [] I L (RR n hr tl) (DD n) Q := by
  have hd : (DD n)[sa]? = some (.inl (0, 64)) := by rcases hsa with rfl | rfl <;> rfl
  have loop : ∀ m w (v : Int64), w + m = W → SB v w (fun w => tb (L 24 r) w && nearZ (f w) aim gv) → cm_Ex l g 2 0 0 mX7_near 21 [.ref 23, .ref sa, .int (nI r), .int (zI aim), .int (zI gv), .long v, .float 0, .int (nI w)] [] I L (RR n hr tl) (DD n) Q := by
    intro m
    induction m with
    | zero =>
      intro w v hw hv
      have e : w = W := by omega
      subst e
      refine x_ild qX7_near_21 rfl ?_
      refine x_aldn qX7_near_23 rfl trivial ?_
      refine x_getIe qX7_near_24 fX7_51 rfl h14 ?_
      refine x_icmp_ge_nt (tgt := 80) qX7_near_27 (by omega) (by omega) (by omega) (by omega) ?_
      refine x_lld qX7_near_80 rfl ?_
      refine x_lret qX7_near_82 rfl ?_
      exact hQ v hv
    | succ m ih =>
      intro w v hw hv
      have hsw := hs w (by omega)
      have stay : (tb (L 24 r) w && nearZ (f w) aim gv) = false → SB v (w + 1) (fun w => tb (L 24 r) w && nearZ (f w) aim gv) := by
        intro e x hx
        rw [hv x hx]
        by_cases hxw : x = w
        · subst hxw
          simp [e]
        · have : (x < w + 1) ↔ x < w := by omega
          simp [this]
      refine x_ild qX7_near_21 rfl ?_
      refine x_aldn qX7_near_23 rfl trivial ?_
      refine x_getIe qX7_near_24 fX7_51 rfl h14 ?_
      refine x_icmp_ge_nf (tgt := 80) qX7_near_27 (by omega) (by omega) (by omega) (by omega) ?_
      refine x_ild qX7_near_30 rfl ?_
      refine x_aldn qX7_near_32 rfl trivial ?_
      refine x_alen qX7_near_33 hd (by decide) rfl ?_
      refine x_icmp_ge_nf (tgt := 80) qX7_near_34 (by omega) (by omega) (by omega) (by omega) ?_
      refine x_aldn qX7_near_37 rfl trivial ?_
      refine x_getR qX7_near_38 fX7_9 rfl rfl ?_
      refine x_ildn qX7_near_41 rfl ?_
      refine x_lald qX7_near_42 rfl rfl (by omega) (by decide) ?_
      refine x_ild qX7_near_43 rfl ?_
      refine x_cS2 (d' := 1) qX7_near_45 cX7_106 rfl rfl (Nat.le_of_ble_eq_true rfl) (Nat.le_of_ble_eq_true rfl) (by decide) ?_
      refine c_X7_isIn (by omega) (fun h45 => ?_) (fun h45 => ?_)
      · refine x_if_eq_f (tgt := 74) qX7_near_48 (by omega) (by decide) ?_
        refine x_aldn qX7_near_51 rfl trivial ?_
        refine x_ild qX7_near_52 rfl ?_
        refine x_ialde qX7_near_54 hd rfl (by omega) (by decide) hsw.1 ?_
        refine x_ildn qX7_near_55 rfl ?_
        refine x_isub qX7_near_56 ?_
        refine x_mabs qX7_near_57 cX7_110 smJ9_abs mi_1 kmJ9_abs (Nat.le_of_ble_eq_true rfl) (by decide) ?_
        refine x_ild qX7_near_60 rfl ?_
        refine x_icmp_gt (tgt := 74) qX7_near_62 (by omega) (fun h62 => ?_) (fun h62 => ?_)
        · refine x_iinc7 qX7_near_74 (by decide) (cm_inc _) rfl ?_
          refine x_goto (tgt := 21) qX7_near_77 (by omega) ?_
          first | (refine ih (w + 1) _ (by omega) ?_; have e62 : nearZ (f w) aim gv = true := (by have := (not_congr (abs_near hsw.2.1 hsw.2.2 ha ha2 hg hg2)).mp h62; simpa using this); intro x hx; rw [tb_or, tb_1shl (by omega), hv x hx]; (by_cases hxw : x = w); (subst hxw; simp [h45, e62]); (have e1 : (x < w + 1) ↔ x < w := by omega); simp [e1, hxw]) | (refine ih (w + 1) _ (by omega) (stay ?_); rw [(abs_near hsw.2.1 hsw.2.2 ha ha2 hg hg2).mp h62, Bool.and_false]) | (refine ih (w + 1) _ (by omega) (stay ?_); rw [h45, Bool.false_and])
        · refine x_lld qX7_near_65 rfl ?_
          refine x_lconst (v := 1) qX7_near_67 rfl ?_
          refine x_ild qX7_near_68 rfl ?_
          refine x_lshl qX7_near_70 ?_
          refine x_lor qX7_near_71 ?_
          refine x_lst5 qX7_near_72 (by decide) rfl ?_
          refine x_iinc7 qX7_near_74 (by decide) (cm_inc _) rfl ?_
          refine x_goto (tgt := 21) qX7_near_77 (by omega) ?_
          first | (refine ih (w + 1) _ (by omega) ?_; have e62 : nearZ (f w) aim gv = true := (by have := (not_congr (abs_near hsw.2.1 hsw.2.2 ha ha2 hg hg2)).mp h62; simpa using this); intro x hx; rw [tb_or, tb_1shl (by omega), hv x hx]; (by_cases hxw : x = w); (subst hxw; simp [h45, e62]); (have e1 : (x < w + 1) ↔ x < w := by omega); simp [e1, hxw]) | (refine ih (w + 1) _ (by omega) (stay ?_); rw [(abs_near hsw.2.1 hsw.2.2 ha ha2 hg hg2).mp h62, Bool.and_false]) | (refine ih (w + 1) _ (by omega) (stay ?_); rw [h45, Bool.false_and])
      · refine x_if_eq_t (tgt := 74) qX7_near_48 (by omega) (by decide) ?_
        refine x_iinc7 qX7_near_74 (by decide) (cm_inc _) rfl ?_
        refine x_goto (tgt := 21) qX7_near_77 (by omega) ?_
        first | (refine ih (w + 1) _ (by omega) ?_; have e62 : nearZ (f w) aim gv = true := (by have := (not_congr (abs_near hsw.2.1 hsw.2.2 ha ha2 hg hg2)).mp h62; simpa using this); intro x hx; rw [tb_or, tb_1shl (by omega), hv x hx]; (by_cases hxw : x = w); (subst hxw; simp [h45, e62]); (have e1 : (x < w + 1) ↔ x < w := by omega); simp [e1, hxw]) | (refine ih (w + 1) _ (by omega) (stay ?_); rw [(abs_near hsw.2.1 hsw.2.2 ha ha2 hg hg2).mp h62, Bool.and_false]) | (refine ih (w + 1) _ (by omega) (stay ?_); rw [h45, Bool.false_and])
  refine x_ildn qX7_near_0 rfl ?_
  refine x_if_lt_nf (tgt := 13) qX7_near_1 (by omega) (by omega) ?_
  refine x_ildn qX7_near_4 rfl ?_
  refine x_aldn qX7_near_5 rfl trivial ?_
  refine x_getR qX7_near_6 fX7_9 rfl rfl ?_
  refine x_alen qX7_near_9 dd_24 (by decide) rfl ?_
  refine x_icmp_lt_nt (tgt := 15) qX7_near_10 (by omega) (by omega) (by omega) (by omega) ?_
  refine x_lconst (v := 0) qX7_near_15 rfl ?_
  refine x_lst5 qX7_near_16 (by decide) rfl ?_
  refine x_iconst (v := nI 0) qX7_near_18 rfl ?_
  refine x_ist7 qX7_near_19 (by decide) rfl ?_
  exact loop W 0 0 (by omega) (fun x _ => by rw [tb_0]; simp)
end K18
