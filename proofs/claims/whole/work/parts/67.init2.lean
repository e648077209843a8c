/-! CellarMeter's constructor -/
/-- a memory told by a list -/
def As {α : Type} (d : α) (T : List (Nat × Nat × α)) : Nat → Nat → α := fun k j => match T.find? (fun e => e.1 == k && e.2.1 == j) with
  | some e => e.2.2
  | none => d
theorem as_u {α : Type} {d : α} {T : List (Nat × Nat × α)} {a k : Nat} {v : α} : cm_u (As d T) a k v = As d ((a, k, v) :: T) := by
  funext b j
  unfold cm_u As
  rw [List.find?_cons]
  by_cases e : b = a
  · subst e
    by_cases e2 : j = k
    · subst e2; simp
    · have e3 : (k == j) = false := by rw [beq_eq_false_iff_ne]; exact fun h => e2 h.symm
      simp [e2, e3]
  · have e3 : (a == b) = false := by rw [beq_eq_false_iff_ne]; exact fun h => e h.symm
    simp [e, e3]
theorem as_ge {α : Type} {d : α} {T : List (Nat × Nat × α)} {n b : Nat} (h : T.all (fun e => decide (e.1 < n)) = true) (hb : n ≤ b) (j : Nat) : As d T b j = d := by
  unfold As
  rw [List.find?_eq_none.mpr]
  intro e he
  have := List.all_eq_true.mp h e he
  rw [decide_eq_true_eq] at this
  have e3 : (e.1 == b) = false := by rw [beq_eq_false_iff_ne]; omega
  simp [e3]
theorem Zr_as {n : Nat} {TI : List (Nat × Nat × Int32)} {TL : List (Nat × Nat × Int64)} {TR : List (Nat × Nat × Option Nat)} (h1 : TI.all (fun e => decide (e.1 < n)) = true) (h2 : TL.all (fun e => decide (e.1 < n)) = true) (h3 : TR.all (fun e => decide (e.1 < n)) = true) : Zr n (As 0 TI) (As 0 TL) (As none TR) := fun b hb => ⟨as_ge h1 hb, as_ge h2 hb, as_ge h3 hb⟩

def tcI : List (Nat × Nat × Int32) := [(71, 1, -1), (69, 1, -1), (67, 1, -1), (65, 1, -1), (63, 1, -1), (61, 1, -1), (0, 15, nI 0), (0, 14, -1), (0, 13, -1), (0, 12, nI 0), (23, 14, nI 1), (9, 3, nI 1), (1, 7, nI 1)]
def tcL : List (Nat × Nat × Int64) := [(5, 0, 1), (4, 0, 1), (1, 5, 1)]
def tcR : List (Nat × Nat × Option Nat) := [(36, 5, some 71), (71, 0, some 72), (36, 4, some 69), (69, 0, some 70), (36, 3, some 67), (67, 0, some 68), (36, 2, some 65), (65, 0, some 66), (36, 1, some 63), (63, 0, some 64), (36, 0, some 61), (61, 0, some 62), (10, 5, some 57), (57, 2, some 60), (57, 1, some 59), (57, 0, some 58), (10, 4, some 53), (53, 2, some 56), (53, 1, some 55), (53, 0, some 54), (10, 3, some 49), (49, 2, some 52), (49, 1, some 51), (49, 0, some 50), (10, 2, some 45), (45, 2, some 48), (45, 1, some 47), (45, 0, some 46), (10, 1, some 41), (41, 2, some 44), (41, 1, some 43), (41, 0, some 42), (10, 0, some 37), (37, 2, some 40), (37, 1, some 39), (37, 0, some 38), (0, 11, some 36), (0, 10, some 34), (34, 0, some 35), (0, 9, some 23), (23, 1, some 15), (23, 0, some 1), (23, 11, some 33), (23, 10, some 32), (23, 9, some 31), (23, 8, some 30), (23, 7, some 29), (23, 6, some 28), (23, 5, some 27), (23, 4, some 26), (23, 3, some 25), (23, 2, some 24), (0, 8, some 21), (21, 0, some 22), (0, 7, some 19), (19, 0, some 20), (0, 6, some 17), (17, 0, some 18), (0, 5, some 15), (15, 0, some 16), (0, 4, some 11), (11, 2, some 14), (11, 1, some 13), (11, 0, some 12), (0, 3, some 10), (0, 2, some 9), (9, 0, some 7), (0, 1, some 7), (7, 0, some 8), (0, 0, some 1), (1, 4, some 6), (1, 3, some 5), (1, 2, some 4), (1, 1, some 3), (1, 0, some 2)]
def tcD : cm_Ds := [.inr 9, .inr 2, .inl (3, 4), .inl (1, 16), .inl (1, 64), .inl (1, 64), .inl (0, 64), .inr 6, .inl (0, 100), .inr 1, .inl (4, 6), .inr 0, .inl (0, 16), .inl (0, 16), .inl (0, 100), .inr 3, .inl (0, 12), .inr 3, .inl (0, 12), .inr 3, .inl (0, 12), .inr 3, .inl (0, 12), .inr 5, .inl (1, 12), .inl (1, 12), .inl (1, 12), .inl (1, 24), .inl (0, 64), .inl (0, 64), .inl (0, 64), .inl (0, 64), .inl (0, 768), .inl (0, 12), .inr 8, .inl (0, 20), .inl (5, 6), .inr 0, .inl (0, 16), .inl (0, 16), .inl (0, 100), .inr 0, .inl (0, 16), .inl (0, 16), .inl (0, 100), .inr 0, .inl (0, 16), .inl (0, 16), .inl (0, 100), .inr 0, .inl (0, 16), .inl (0, 16), .inl (0, 100), .inr 0, .inl (0, 16), .inl (0, 16), .inl (0, 100), .inr 0, .inl (0, 16), .inl (0, 16), .inl (0, 100), .inr 4, .inl (1, 60), .inr 4, .inl (1, 60), .inr 4, .inl (1, 60), .inr 4, .inl (1, 60), .inr 4, .inl (1, 60), .inr 4, .inl (1, 60)]
section K41
variable {l : Launch} {g : cm_G} {Q : cm_Post}
theorem c_X11_init (hQ : Q none (As 0 tcI) (As 0 tcL) (As none tcR) tcD) : cm_Ex l g 2 72 2871 mX11_init 0 [.ref 0, .float 0] [] (As 0 []) (As 0 []) (As none []) [.inr 9] Q := by
  refine x_aldn qX11_init_0 rfl trivial ?_
  refine x_objInit qX11_init_1 oX11_3 oi_1 oi_2 (by decide) (by decide) ?_
  refine x_aldn qX11_init_4 rfl trivial ?_
  refine x_new (n := 1) qX11_init_5 nX11_9 rfl ?_
  refine x_zz (Zr_as (by decide) (by decide) (by decide)) ?_
  refine x_dup qX11_init_8 rfl ?_
  refine x_cI0 (d' := 1) (mc' := 5) (ms' := 212) (mc2 := 66) (ms2 := 2651) qX11_init_9 cX11_11 rfl rfl (Nat.le_of_ble_eq_true rfl) (Nat.le_of_ble_eq_true rfl) (by decide) rfl rfl ?_
  refine c_X3_init (n := 2) rfl rfl (Zr_as (by decide) (by decide) (by decide)) (fun _ => rfl) ?_
  simp only [as_u]
  refine x_putR qX11_init_12 fX11_12 (Or.inr ⟨rfl, wfX11_12⟩) rfl (cm_rvs _) ?_
  refine x_memR as_u ?_
  refine x_aldn qX11_init_15 rfl trivial ?_
  refine x_new (n := 7) qX11_init_16 nX11_18 rfl ?_
  refine x_zz (Zr_as (by decide) (by decide) (by decide)) ?_
  refine x_dup qX11_init_19 rfl ?_
  refine x_cI0 (d' := 1) (mc' := 1) (ms' := 100) (mc2 := 64) (ms2 := 2549) qX11_init_20 cX11_20 rfl rfl (Nat.le_of_ble_eq_true rfl) (Nat.le_of_ble_eq_true rfl) (by decide) rfl rfl ?_
  refine c_X8_init (n := 8) rfl rfl (Zr_as (by decide) (by decide) (by decide)) (fun _ => rfl) ?_
  simp only [as_u]
  refine x_putR qX11_init_23 fX11_21 (Or.inr ⟨rfl, wfX11_21⟩) rfl (cm_rvs _) ?_
  refine x_memR as_u ?_
  refine x_aldn qX11_init_26 rfl trivial ?_
  refine x_new (n := 9) qX11_init_27 nX11_25 rfl ?_
  refine x_zz (Zr_as (by decide) (by decide) (by decide)) ?_
  refine x_dup qX11_init_30 rfl ?_
  refine x_aldn qX11_init_31 rfl trivial ?_
  refine x_getR qX11_init_32 fX11_21 rfl rfl ?_
  refine x_cI1 (d' := 1) (mc' := 0) (ms' := 0) (mc2 := 63) (ms2 := 2545) qX11_init_35 cX11_27 rfl rfl (Nat.le_of_ble_eq_true rfl) (Nat.le_of_ble_eq_true rfl) (by decide) rfl rfl ?_
  refine c_X2_init rfl (fun _ => rfl) (fun _ => rfl) ?_
  simp only [as_u]
  refine x_putR qX11_init_38 fX11_30 (Or.inr ⟨rfl, wfX11_30⟩) rfl (cm_rvs _) ?_
  refine x_memR as_u ?_
  refine x_aldn qX11_init_41 rfl trivial ?_
  refine x_bipush (v := nI 6) qX11_init_42 rfl ?_
  refine x_anew (t := 4) (N := 6) (n := 10) qX11_init_44 rfl (by decide) lX11_34 rfl (by decide) rfl ?_
  refine x_zz (Zr_as (by decide) (by decide) (by decide)) ?_
  refine x_putR qX11_init_47 fX11_36 (Or.inr ⟨rfl, wfX11_36⟩) rfl (cm_rvs _) ?_
  refine x_memR as_u ?_
  refine x_aldn qX11_init_50 rfl trivial ?_
  refine x_new (n := 11) qX11_init_51 nX11_34 rfl ?_
  refine x_zz (Zr_as (by decide) (by decide) (by decide)) ?_
  refine x_dup qX11_init_54 rfl ?_
  refine x_cI0 (d' := 1) (mc' := 3) (ms' := 132) (mc2 := 58) (ms2 := 2401) qX11_init_55 cX11_40 rfl rfl (Nat.le_of_ble_eq_true rfl) (Nat.le_of_ble_eq_true rfl) (by decide) rfl rfl ?_
  refine c_X1_init (n := 12) rfl rfl (Zr_as (by decide) (by decide) (by decide)) (fun _ => rfl) ?_
  simp only [as_u]
  refine x_putR qX11_init_58 fX11_41 (Or.inr ⟨rfl, wfX11_41⟩) rfl (cm_rvs _) ?_
  refine x_memR as_u ?_
  refine x_aldn qX11_init_61 rfl trivial ?_
  refine x_new (n := 15) qX11_init_62 nX11_45 rfl ?_
  refine x_zz (Zr_as (by decide) (by decide) (by decide)) ?_
  refine x_dup qX11_init_65 rfl ?_
  refine x_cI0 (d' := 1) (mc' := 1) (ms' := 12) (mc2 := 56) (ms2 := 2387) qX11_init_66 cX11_47 rfl rfl (Nat.le_of_ble_eq_true rfl) (Nat.le_of_ble_eq_true rfl) (by decide) rfl rfl ?_
  refine c_X5_init (n := 16) rfl rfl (Zr_as (by decide) (by decide) (by decide)) (fun _ => rfl) ?_
  simp only [as_u]
  refine x_putR qX11_init_69 fX11_48 (Or.inr ⟨rfl, wfX11_48⟩) rfl (cm_rvs _) ?_
  refine x_memR as_u ?_
  refine x_aldn qX11_init_72 rfl trivial ?_
  refine x_new (n := 17) qX11_init_73 nX11_45 rfl ?_
  refine x_zz (Zr_as (by decide) (by decide) (by decide)) ?_
  refine x_dup qX11_init_76 rfl ?_
  refine x_cI0 (d' := 1) (mc' := 1) (ms' := 12) (mc2 := 54) (ms2 := 2373) qX11_init_77 cX11_47 rfl rfl (Nat.le_of_ble_eq_true rfl) (Nat.le_of_ble_eq_true rfl) (by decide) rfl rfl ?_
  refine c_X5_init (n := 18) rfl rfl (Zr_as (by decide) (by decide) (by decide)) (fun _ => rfl) ?_
  simp only [as_u]
  refine x_putR qX11_init_80 fX11_52 (Or.inr ⟨rfl, wfX11_52⟩) rfl (cm_rvs _) ?_
  refine x_memR as_u ?_
  refine x_aldn qX11_init_83 rfl trivial ?_
  refine x_new (n := 19) qX11_init_84 nX11_45 rfl ?_
  refine x_zz (Zr_as (by decide) (by decide) (by decide)) ?_
  refine x_dup qX11_init_87 rfl ?_
  refine x_cI0 (d' := 1) (mc' := 1) (ms' := 12) (mc2 := 52) (ms2 := 2359) qX11_init_88 cX11_47 rfl rfl (Nat.le_of_ble_eq_true rfl) (Nat.le_of_ble_eq_true rfl) (by decide) rfl rfl ?_
  refine c_X5_init (n := 20) rfl rfl (Zr_as (by decide) (by decide) (by decide)) (fun _ => rfl) ?_
  simp only [as_u]
  refine x_putR qX11_init_91 fX11_55 (Or.inr ⟨rfl, wfX11_55⟩) rfl (cm_rvs _) ?_
  refine x_memR as_u ?_
  refine x_aldn qX11_init_94 rfl trivial ?_
  refine x_new (n := 21) qX11_init_95 nX11_45 rfl ?_
  refine x_zz (Zr_as (by decide) (by decide) (by decide)) ?_
  refine x_dup qX11_init_98 rfl ?_
  refine x_cI0 (d' := 1) (mc' := 1) (ms' := 12) (mc2 := 50) (ms2 := 2345) qX11_init_99 cX11_47 rfl rfl (Nat.le_of_ble_eq_true rfl) (Nat.le_of_ble_eq_true rfl) (by decide) rfl rfl ?_
  refine c_X5_init (n := 22) rfl rfl (Zr_as (by decide) (by decide) (by decide)) (fun _ => rfl) ?_
  simp only [as_u]
  refine x_putR qX11_init_102 fX11_58 (Or.inr ⟨rfl, wfX11_58⟩) rfl (cm_rvs _) ?_
  refine x_memR as_u ?_
  refine x_aldn qX11_init_105 rfl trivial ?_
  refine x_new (n := 23) qX11_init_106 nX11_61 rfl ?_
  refine x_zz (Zr_as (by decide) (by decide) (by decide)) ?_
  refine x_dup qX11_init_109 rfl ?_
  refine x_aldn qX11_init_110 rfl trivial ?_
  refine x_getR qX11_init_111 fX11_12 rfl rfl ?_
  refine x_aldn qX11_init_114 rfl trivial ?_
  refine x_getR qX11_init_115 fX11_48 rfl rfl ?_
  refine x_cI2 (d' := 1) (mc' := 10) (ms' := 1096) (mc2 := 39) (ms2 := 1234) qX11_init_118 cX11_63 rfl rfl (Nat.le_of_ble_eq_true rfl) (Nat.le_of_ble_eq_true rfl) (by decide) rfl rfl ?_
  refine c_X7_init (n := 24) rfl rfl (Zr_as (by decide) (by decide) (by decide)) (fun _ => rfl) (fun _ => rfl) ?_
  simp only [as_u]
  refine x_putR qX11_init_121 fX11_66 (Or.inr ⟨rfl, wfX11_66⟩) rfl (cm_rvs _) ?_
  refine x_memR as_u ?_
  refine x_aldn qX11_init_124 rfl trivial ?_
  refine x_new (n := 34) qX11_init_125 nX11_70 rfl ?_
  refine x_zz (Zr_as (by decide) (by decide) (by decide)) ?_
  refine x_dup qX11_init_128 rfl ?_
  refine x_cI0 (d' := 1) (mc' := 1) (ms' := 20) (mc2 := 37) (ms2 := 1212) qX11_init_129 cX11_72 rfl rfl (Nat.le_of_ble_eq_true rfl) (Nat.le_of_ble_eq_true rfl) (by decide) rfl rfl ?_
  refine c_X10_init (n := 35) rfl rfl (Zr_as (by decide) (by decide) (by decide)) (fun _ => rfl) ?_
  simp only [as_u]
  refine x_putR qX11_init_132 fX11_73 (Or.inr ⟨rfl, wfX11_73⟩) rfl (cm_rvs _) ?_
  refine x_memR as_u ?_
  refine x_aldn qX11_init_135 rfl trivial ?_
  refine x_bipush (v := nI 6) qX11_init_136 rfl ?_
  refine x_anew (t := 5) (N := 6) (n := 36) qX11_init_138 rfl (by decide) lX11_77 rfl (by decide) rfl ?_
  refine x_zz (Zr_as (by decide) (by decide) (by decide)) ?_
  refine x_putR qX11_init_141 fX11_79 (Or.inr ⟨rfl, wfX11_79⟩) rfl (cm_rvs _) ?_
  refine x_memR as_u ?_
  refine x_aldn qX11_init_144 rfl trivial ?_
  refine x_iconst (v := nI 0) qX11_init_145 rfl ?_
  refine x_putI qX11_init_146 fX11_83 (Or.inl rfl) rfl ?_
  refine x_memI as_u ?_
  refine x_aldn qX11_init_149 rfl trivial ?_
  refine x_iconst (v := -1) qX11_init_150 rfl ?_
  refine x_putI qX11_init_151 fX11_87 (Or.inl rfl) rfl ?_
  refine x_memI as_u ?_
  refine x_aldn qX11_init_154 rfl trivial ?_
  refine x_iconst (v := -1) qX11_init_155 rfl ?_
  refine x_putI qX11_init_156 fX11_90 (Or.inl rfl) rfl ?_
  refine x_memI as_u ?_
  refine x_aldn qX11_init_159 rfl trivial ?_
  refine x_iconst (v := nI 0) qX11_init_160 rfl ?_
  refine x_putZ qX11_init_161 fX11_93 (Or.inl rfl) rfl (by decide) ?_
  refine x_memI as_u ?_
  refine x_iconst (v := nI 0) qX11_init_164 rfl ?_
  refine x_ist1 qX11_init_165 (by decide) rfl ?_
  refine x_ildn qX11_init_166 rfl ?_
  refine x_aldn qX11_init_167 rfl trivial ?_
  refine x_getR qX11_init_168 fX11_36 rfl rfl ?_
  refine x_alen qX11_init_171 rfl (by decide) rfl ?_
  refine x_icmp_ge_nf (tgt := 194) qX11_init_172 (by omega) (by omega) (by omega) (by omega) ?_
  refine x_aldn qX11_init_175 rfl trivial ?_
  refine x_getR qX11_init_176 fX11_36 rfl rfl ?_
  refine x_ildn qX11_init_179 rfl ?_
  refine x_new (n := 37) qX11_init_180 nX11_34 rfl ?_
  refine x_zz (Zr_as (by decide) (by decide) (by decide)) ?_
  refine x_dup qX11_init_183 rfl ?_
  refine x_cI0 (d' := 1) (mc' := 3) (ms' := 132) (mc2 := 32) (ms2 := 1068) qX11_init_184 cX11_40 rfl rfl (Nat.le_of_ble_eq_true rfl) (Nat.le_of_ble_eq_true rfl) (by decide) rfl rfl ?_
  refine c_X1_init (n := 38) rfl rfl (Zr_as (by decide) (by decide) (by decide)) (fun _ => rfl) ?_
  simp only [as_u]
  refine x_aast qX11_init_187 rfl rfl (by decide) ⟨_, rfl, rfl⟩ (by decide) rfl (by omega) (by decide) ?_
  refine x_iinc1 (v := nI 1) qX11_init_188 (by decide) (by decide) rfl ?_
  refine x_goto (tgt := 166) qX11_init_191 (by omega) ?_
  refine x_memR as_u ?_
  refine x_ildn qX11_init_166 rfl ?_
  refine x_aldn qX11_init_167 rfl trivial ?_
  refine x_getR qX11_init_168 fX11_36 rfl rfl ?_
  refine x_alen qX11_init_171 rfl (by decide) rfl ?_
  refine x_icmp_ge_nf (tgt := 194) qX11_init_172 (by omega) (by omega) (by omega) (by omega) ?_
  refine x_aldn qX11_init_175 rfl trivial ?_
  refine x_getR qX11_init_176 fX11_36 rfl rfl ?_
  refine x_ildn qX11_init_179 rfl ?_
  refine x_new (n := 41) qX11_init_180 nX11_34 rfl ?_
  refine x_zz (Zr_as (by decide) (by decide) (by decide)) ?_
  refine x_dup qX11_init_183 rfl ?_
  refine x_cI0 (d' := 1) (mc' := 3) (ms' := 132) (mc2 := 28) (ms2 := 930) qX11_init_184 cX11_40 rfl rfl (Nat.le_of_ble_eq_true rfl) (Nat.le_of_ble_eq_true rfl) (by decide) rfl rfl ?_
  refine c_X1_init (n := 42) rfl rfl (Zr_as (by decide) (by decide) (by decide)) (fun _ => rfl) ?_
  simp only [as_u]
  refine x_aast qX11_init_187 rfl rfl (by decide) ⟨_, rfl, rfl⟩ (by decide) rfl (by omega) (by decide) ?_
  refine x_iinc1 (v := nI 2) qX11_init_188 (by decide) (by decide) rfl ?_
  refine x_goto (tgt := 166) qX11_init_191 (by omega) ?_
  refine x_memR as_u ?_
  refine x_ildn qX11_init_166 rfl ?_
  refine x_aldn qX11_init_167 rfl trivial ?_
  refine x_getR qX11_init_168 fX11_36 rfl rfl ?_
  refine x_alen qX11_init_171 rfl (by decide) rfl ?_
  refine x_icmp_ge_nf (tgt := 194) qX11_init_172 (by omega) (by omega) (by omega) (by omega) ?_
  refine x_aldn qX11_init_175 rfl trivial ?_
  refine x_getR qX11_init_176 fX11_36 rfl rfl ?_
  refine x_ildn qX11_init_179 rfl ?_
  refine x_new (n := 45) qX11_init_180 nX11_34 rfl ?_
  refine x_zz (Zr_as (by decide) (by decide) (by decide)) ?_
  refine x_dup qX11_init_183 rfl ?_
  refine x_cI0 (d' := 1) (mc' := 3) (ms' := 132) (mc2 := 24) (ms2 := 792) qX11_init_184 cX11_40 rfl rfl (Nat.le_of_ble_eq_true rfl) (Nat.le_of_ble_eq_true rfl) (by decide) rfl rfl ?_
  refine c_X1_init (n := 46) rfl rfl (Zr_as (by decide) (by decide) (by decide)) (fun _ => rfl) ?_
  simp only [as_u]
  refine x_aast qX11_init_187 rfl rfl (by decide) ⟨_, rfl, rfl⟩ (by decide) rfl (by omega) (by decide) ?_
  refine x_iinc1 (v := nI 3) qX11_init_188 (by decide) (by decide) rfl ?_
  refine x_goto (tgt := 166) qX11_init_191 (by omega) ?_
  refine x_memR as_u ?_
  refine x_ildn qX11_init_166 rfl ?_
  refine x_aldn qX11_init_167 rfl trivial ?_
  refine x_getR qX11_init_168 fX11_36 rfl rfl ?_
  refine x_alen qX11_init_171 rfl (by decide) rfl ?_
  refine x_icmp_ge_nf (tgt := 194) qX11_init_172 (by omega) (by omega) (by omega) (by omega) ?_
  refine x_aldn qX11_init_175 rfl trivial ?_
  refine x_getR qX11_init_176 fX11_36 rfl rfl ?_
  refine x_ildn qX11_init_179 rfl ?_
  refine x_new (n := 49) qX11_init_180 nX11_34 rfl ?_
  refine x_zz (Zr_as (by decide) (by decide) (by decide)) ?_
  refine x_dup qX11_init_183 rfl ?_
  refine x_cI0 (d' := 1) (mc' := 3) (ms' := 132) (mc2 := 20) (ms2 := 654) qX11_init_184 cX11_40 rfl rfl (Nat.le_of_ble_eq_true rfl) (Nat.le_of_ble_eq_true rfl) (by decide) rfl rfl ?_
  refine c_X1_init (n := 50) rfl rfl (Zr_as (by decide) (by decide) (by decide)) (fun _ => rfl) ?_
  simp only [as_u]
  refine x_aast qX11_init_187 rfl rfl (by decide) ⟨_, rfl, rfl⟩ (by decide) rfl (by omega) (by decide) ?_
  refine x_iinc1 (v := nI 4) qX11_init_188 (by decide) (by decide) rfl ?_
  refine x_goto (tgt := 166) qX11_init_191 (by omega) ?_
  refine x_memR as_u ?_
  refine x_ildn qX11_init_166 rfl ?_
  refine x_aldn qX11_init_167 rfl trivial ?_
  refine x_getR qX11_init_168 fX11_36 rfl rfl ?_
  refine x_alen qX11_init_171 rfl (by decide) rfl ?_
  refine x_icmp_ge_nf (tgt := 194) qX11_init_172 (by omega) (by omega) (by omega) (by omega) ?_
  refine x_aldn qX11_init_175 rfl trivial ?_
  refine x_getR qX11_init_176 fX11_36 rfl rfl ?_
  refine x_ildn qX11_init_179 rfl ?_
  refine x_new (n := 53) qX11_init_180 nX11_34 rfl ?_
  refine x_zz (Zr_as (by decide) (by decide) (by decide)) ?_
  refine x_dup qX11_init_183 rfl ?_
  refine x_cI0 (d' := 1) (mc' := 3) (ms' := 132) (mc2 := 16) (ms2 := 516) qX11_init_184 cX11_40 rfl rfl (Nat.le_of_ble_eq_true rfl) (Nat.le_of_ble_eq_true rfl) (by decide) rfl rfl ?_
  refine c_X1_init (n := 54) rfl rfl (Zr_as (by decide) (by decide) (by decide)) (fun _ => rfl) ?_
  simp only [as_u]
  refine x_aast qX11_init_187 rfl rfl (by decide) ⟨_, rfl, rfl⟩ (by decide) rfl (by omega) (by decide) ?_
  refine x_iinc1 (v := nI 5) qX11_init_188 (by decide) (by decide) rfl ?_
  refine x_goto (tgt := 166) qX11_init_191 (by omega) ?_
  refine x_memR as_u ?_
  refine x_ildn qX11_init_166 rfl ?_
  refine x_aldn qX11_init_167 rfl trivial ?_
  refine x_getR qX11_init_168 fX11_36 rfl rfl ?_
  refine x_alen qX11_init_171 rfl (by decide) rfl ?_
  refine x_icmp_ge_nf (tgt := 194) qX11_init_172 (by omega) (by omega) (by omega) (by omega) ?_
  refine x_aldn qX11_init_175 rfl trivial ?_
  refine x_getR qX11_init_176 fX11_36 rfl rfl ?_
  refine x_ildn qX11_init_179 rfl ?_
  refine x_new (n := 57) qX11_init_180 nX11_34 rfl ?_
  refine x_zz (Zr_as (by decide) (by decide) (by decide)) ?_
  refine x_dup qX11_init_183 rfl ?_
  refine x_cI0 (d' := 1) (mc' := 3) (ms' := 132) (mc2 := 12) (ms2 := 378) qX11_init_184 cX11_40 rfl rfl (Nat.le_of_ble_eq_true rfl) (Nat.le_of_ble_eq_true rfl) (by decide) rfl rfl ?_
  refine c_X1_init (n := 58) rfl rfl (Zr_as (by decide) (by decide) (by decide)) (fun _ => rfl) ?_
  simp only [as_u]
  refine x_aast qX11_init_187 rfl rfl (by decide) ⟨_, rfl, rfl⟩ (by decide) rfl (by omega) (by decide) ?_
  refine x_iinc1 (v := nI 6) qX11_init_188 (by decide) (by decide) rfl ?_
  refine x_goto (tgt := 166) qX11_init_191 (by omega) ?_
  refine x_memR as_u ?_
  refine x_ildn qX11_init_166 rfl ?_
  refine x_aldn qX11_init_167 rfl trivial ?_
  refine x_getR qX11_init_168 fX11_36 rfl rfl ?_
  refine x_alen qX11_init_171 rfl (by decide) rfl ?_
  refine x_icmp_ge_nt (tgt := 194) qX11_init_172 (by omega) (by omega) (by omega) (by omega) ?_
  refine x_iconst (v := nI 0) qX11_init_194 rfl ?_
  refine x_ist1 qX11_init_195 (by decide) rfl ?_
  refine x_ildn qX11_init_196 rfl ?_
  refine x_aldn qX11_init_197 rfl trivial ?_
  refine x_getR qX11_init_198 fX11_79 rfl rfl ?_
  refine x_alen qX11_init_201 rfl (by decide) rfl ?_
  refine x_icmp_ge_nf (tgt := 224) qX11_init_202 (by omega) (by omega) (by omega) (by omega) ?_
  refine x_aldn qX11_init_205 rfl trivial ?_
  refine x_getR qX11_init_206 fX11_79 rfl rfl ?_
  refine x_ildn qX11_init_209 rfl ?_
  refine x_new (n := 61) qX11_init_210 nX11_77 rfl ?_
  refine x_zz (Zr_as (by decide) (by decide) (by decide)) ?_
  refine x_dup qX11_init_213 rfl ?_
  refine x_cI0 (d' := 1) (mc' := 1) (ms' := 60) (mc2 := 10) (ms2 := 315) qX11_init_214 cX11_97 rfl rfl (Nat.le_of_ble_eq_true rfl) (Nat.le_of_ble_eq_true rfl) (by decide) rfl rfl ?_
  refine c_X6_init (n := 62) rfl rfl (Zr_as (by decide) (by decide) (by decide)) (fun _ => rfl) ?_
  simp only [as_u]
  refine x_aast qX11_init_217 rfl rfl (by decide) ⟨_, rfl, rfl⟩ (by decide) rfl (by omega) (by decide) ?_
  refine x_iinc1 (v := nI 1) qX11_init_218 (by decide) (by decide) rfl ?_
  refine x_goto (tgt := 196) qX11_init_221 (by omega) ?_
  refine x_memR as_u ?_
  refine x_ildn qX11_init_196 rfl ?_
  refine x_aldn qX11_init_197 rfl trivial ?_
  refine x_getR qX11_init_198 fX11_79 rfl rfl ?_
  refine x_alen qX11_init_201 rfl (by decide) rfl ?_
  refine x_icmp_ge_nf (tgt := 224) qX11_init_202 (by omega) (by omega) (by omega) (by omega) ?_
  refine x_aldn qX11_init_205 rfl trivial ?_
  refine x_getR qX11_init_206 fX11_79 rfl rfl ?_
  refine x_ildn qX11_init_209 rfl ?_
  refine x_new (n := 63) qX11_init_210 nX11_77 rfl ?_
  refine x_zz (Zr_as (by decide) (by decide) (by decide)) ?_
  refine x_dup qX11_init_213 rfl ?_
  refine x_cI0 (d' := 1) (mc' := 1) (ms' := 60) (mc2 := 8) (ms2 := 252) qX11_init_214 cX11_97 rfl rfl (Nat.le_of_ble_eq_true rfl) (Nat.le_of_ble_eq_true rfl) (by decide) rfl rfl ?_
  refine c_X6_init (n := 64) rfl rfl (Zr_as (by decide) (by decide) (by decide)) (fun _ => rfl) ?_
  simp only [as_u]
  refine x_aast qX11_init_217 rfl rfl (by decide) ⟨_, rfl, rfl⟩ (by decide) rfl (by omega) (by decide) ?_
  refine x_iinc1 (v := nI 2) qX11_init_218 (by decide) (by decide) rfl ?_
  refine x_goto (tgt := 196) qX11_init_221 (by omega) ?_
  refine x_memR as_u ?_
  refine x_ildn qX11_init_196 rfl ?_
  refine x_aldn qX11_init_197 rfl trivial ?_
  refine x_getR qX11_init_198 fX11_79 rfl rfl ?_
  refine x_alen qX11_init_201 rfl (by decide) rfl ?_
  refine x_icmp_ge_nf (tgt := 224) qX11_init_202 (by omega) (by omega) (by omega) (by omega) ?_
  refine x_aldn qX11_init_205 rfl trivial ?_
  refine x_getR qX11_init_206 fX11_79 rfl rfl ?_
  refine x_ildn qX11_init_209 rfl ?_
  refine x_new (n := 65) qX11_init_210 nX11_77 rfl ?_
  refine x_zz (Zr_as (by decide) (by decide) (by decide)) ?_
  refine x_dup qX11_init_213 rfl ?_
  refine x_cI0 (d' := 1) (mc' := 1) (ms' := 60) (mc2 := 6) (ms2 := 189) qX11_init_214 cX11_97 rfl rfl (Nat.le_of_ble_eq_true rfl) (Nat.le_of_ble_eq_true rfl) (by decide) rfl rfl ?_
  refine c_X6_init (n := 66) rfl rfl (Zr_as (by decide) (by decide) (by decide)) (fun _ => rfl) ?_
  simp only [as_u]
  refine x_aast qX11_init_217 rfl rfl (by decide) ⟨_, rfl, rfl⟩ (by decide) rfl (by omega) (by decide) ?_
  refine x_iinc1 (v := nI 3) qX11_init_218 (by decide) (by decide) rfl ?_
  refine x_goto (tgt := 196) qX11_init_221 (by omega) ?_
  refine x_memR as_u ?_
  refine x_ildn qX11_init_196 rfl ?_
  refine x_aldn qX11_init_197 rfl trivial ?_
  refine x_getR qX11_init_198 fX11_79 rfl rfl ?_
  refine x_alen qX11_init_201 rfl (by decide) rfl ?_
  refine x_icmp_ge_nf (tgt := 224) qX11_init_202 (by omega) (by omega) (by omega) (by omega) ?_
  refine x_aldn qX11_init_205 rfl trivial ?_
  refine x_getR qX11_init_206 fX11_79 rfl rfl ?_
  refine x_ildn qX11_init_209 rfl ?_
  refine x_new (n := 67) qX11_init_210 nX11_77 rfl ?_
  refine x_zz (Zr_as (by decide) (by decide) (by decide)) ?_
  refine x_dup qX11_init_213 rfl ?_
  refine x_cI0 (d' := 1) (mc' := 1) (ms' := 60) (mc2 := 4) (ms2 := 126) qX11_init_214 cX11_97 rfl rfl (Nat.le_of_ble_eq_true rfl) (Nat.le_of_ble_eq_true rfl) (by decide) rfl rfl ?_
  refine c_X6_init (n := 68) rfl rfl (Zr_as (by decide) (by decide) (by decide)) (fun _ => rfl) ?_
  simp only [as_u]
  refine x_aast qX11_init_217 rfl rfl (by decide) ⟨_, rfl, rfl⟩ (by decide) rfl (by omega) (by decide) ?_
  refine x_iinc1 (v := nI 4) qX11_init_218 (by decide) (by decide) rfl ?_
  refine x_goto (tgt := 196) qX11_init_221 (by omega) ?_
  refine x_memR as_u ?_
  refine x_ildn qX11_init_196 rfl ?_
  refine x_aldn qX11_init_197 rfl trivial ?_
  refine x_getR qX11_init_198 fX11_79 rfl rfl ?_
  refine x_alen qX11_init_201 rfl (by decide) rfl ?_
  refine x_icmp_ge_nf (tgt := 224) qX11_init_202 (by omega) (by omega) (by omega) (by omega) ?_
  refine x_aldn qX11_init_205 rfl trivial ?_
  refine x_getR qX11_init_206 fX11_79 rfl rfl ?_
  refine x_ildn qX11_init_209 rfl ?_
  refine x_new (n := 69) qX11_init_210 nX11_77 rfl ?_
  refine x_zz (Zr_as (by decide) (by decide) (by decide)) ?_
  refine x_dup qX11_init_213 rfl ?_
  refine x_cI0 (d' := 1) (mc' := 1) (ms' := 60) (mc2 := 2) (ms2 := 63) qX11_init_214 cX11_97 rfl rfl (Nat.le_of_ble_eq_true rfl) (Nat.le_of_ble_eq_true rfl) (by decide) rfl rfl ?_
  refine c_X6_init (n := 70) rfl rfl (Zr_as (by decide) (by decide) (by decide)) (fun _ => rfl) ?_
  simp only [as_u]
  refine x_aast qX11_init_217 rfl rfl (by decide) ⟨_, rfl, rfl⟩ (by decide) rfl (by omega) (by decide) ?_
  refine x_iinc1 (v := nI 5) qX11_init_218 (by decide) (by decide) rfl ?_
  refine x_goto (tgt := 196) qX11_init_221 (by omega) ?_
  refine x_memR as_u ?_
  refine x_ildn qX11_init_196 rfl ?_
  refine x_aldn qX11_init_197 rfl trivial ?_
  refine x_getR qX11_init_198 fX11_79 rfl rfl ?_
  refine x_alen qX11_init_201 rfl (by decide) rfl ?_
  refine x_icmp_ge_nf (tgt := 224) qX11_init_202 (by omega) (by omega) (by omega) (by omega) ?_
  refine x_aldn qX11_init_205 rfl trivial ?_
  refine x_getR qX11_init_206 fX11_79 rfl rfl ?_
  refine x_ildn qX11_init_209 rfl ?_
  refine x_new (n := 71) qX11_init_210 nX11_77 rfl ?_
  refine x_zz (Zr_as (by decide) (by decide) (by decide)) ?_
  refine x_dup qX11_init_213 rfl ?_
  refine x_cI0 (d' := 1) (mc' := 1) (ms' := 60) (mc2 := 0) (ms2 := 0) qX11_init_214 cX11_97 rfl rfl (Nat.le_of_ble_eq_true rfl) (Nat.le_of_ble_eq_true rfl) (by decide) rfl rfl ?_
  refine c_X6_init (n := 72) rfl rfl (Zr_as (by decide) (by decide) (by decide)) (fun _ => rfl) ?_
  simp only [as_u]
  refine x_aast qX11_init_217 rfl rfl (by decide) ⟨_, rfl, rfl⟩ (by decide) rfl (by omega) (by decide) ?_
  refine x_iinc1 (v := nI 6) qX11_init_218 (by decide) (by decide) rfl ?_
  refine x_goto (tgt := 196) qX11_init_221 (by omega) ?_
  refine x_memR as_u ?_
  refine x_ildn qX11_init_196 rfl ?_
  refine x_aldn qX11_init_197 rfl trivial ?_
  refine x_getR qX11_init_198 fX11_79 rfl rfl ?_
  refine x_alen qX11_init_201 rfl (by decide) rfl ?_
  refine x_icmp_ge_nt (tgt := 224) qX11_init_202 (by omega) (by omega) (by omega) (by omega) ?_
  refine x_vret qX11_init_224 rfl ?_
  exact hQ
end K41
