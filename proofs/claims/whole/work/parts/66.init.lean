/-! constructors of the class's parts -/
def Zr (n : Nat) (I : cm_I) (L : cm_L) (R : cm_R) : Prop := ∀ b, n ≤ b → (∀ j, I b j = 0) ∧ (∀ j, L b j = 0) ∧ (∀ j, R b j = none)
theorem z_id {α : Type} {f : Nat → Nat → α} {n : Nat} {v : α} (h : ∀ j, f n j = v) : cm_z f n v = f := by
  funext b j
  unfold cm_z
  by_cases e : b = n
  · subst e; rw [if_pos rfl, h]
  · rw [if_neg e]
theorem u_id {α : Type} {f : Nat → Nat → α} {a k : Nat} {v : α} (h : f a k = v) : cm_u f a k v = f := by
  funext b j
  unfold cm_u
  by_cases e : b = a
  · subst e
    rw [if_pos rfl]
    by_cases e2 : j = k
    · subst e2; rw [if_pos rfl, h]
    · rw [if_neg e2]
  · rw [if_neg e]
theorem Zr_up {n m : Nat} {I : cm_I} {L : cm_L} {R : cm_R} (Z : Zr n I L R) (h : n ≤ m) : Zr m I L R := fun b hb => Z b (by omega)
theorem Zr_uR {n a k : Nat} {v : Option Nat} {I : cm_I} {L : cm_L} {R : cm_R} (Z : Zr n I L R) (h : a < n) : Zr n I L (cm_u R a k v) := fun b hb => by
  rw [cm_u_ne (by omega)]; exact Z b hb
theorem Zr_uI {n a k : Nat} {v : Int32} {I : cm_I} {L : cm_L} {R : cm_R} (Z : Zr n I L R) (h : a < n) : Zr n (cm_u I a k v) L R := fun b hb => by
  rw [cm_u_ne (by omega)]; exact Z b hb
theorem Zr_uL {n a k : Nat} {v : Int64} {I : cm_I} {L : cm_L} {R : cm_R} (Z : Zr n I L R) (h : a < n) : Zr n I (cm_u L a k v) R := fun b hb => by
  rw [cm_u_ne (by omega)]; exact Z b hb
theorem dap {ds : cm_Ds} {a : Nat} {e x : cm_E} (h : ds[a]? = some e) : (ds ++ [x])[a]? = some e := by
  have hl := (List.getElem?_eq_some_iff.mp h).1
  rw [List.getElem?_append_left hl]; exact h
theorem dlast {ds : cm_Ds} {n : Nat} {x : cm_E} (h : ds.length = n) : (ds ++ [x])[n]? = some x := by
  subst h
  rw [List.getElem?_append_right (Nat.le_refl _), Nat.sub_self]; rfl
theorem dln {ds : cm_Ds} {n : Nat} {x : cm_E} (h : ds.length = n) : (ds ++ [x]).length = n + 1 := by rw [List.length_append, h]; rfl
theorem dlt {ds : cm_Ds} {a n : Nat} {e : cm_E} (h : ds[a]? = some e) (hn : ds.length = n) : a < n := by
  have hl := (List.getElem?_eq_some_iff.mp h).1
  omega
section K40
variable {l : Launch} {g : cm_G} {I : cm_I} {L : cm_L} {R : cm_R} {ds : cm_Ds} {Q : cm_Post} {a n : Nat}
/-- a new cell's memory is empty already -/
theorem x_zz {d mc ms : Nat} {y : cm_M} {pc : Nat} {ls st : List Value} (Z : Zr n I L R) (k : cm_Ex l g d mc ms y pc ls st I L R ds Q) : cm_Ex l g d mc ms y pc ls st (cm_z I n 0) (cm_z L n 0) (cm_z R n none) ds Q := by
  have z := Z n (Nat.le_refl _)
  rw [z_id z.1, z_id z.2.1, z_id z.2.2]; exact k
theorem c_X5_init (hd : ds[a]? = some (.inr 3)) (hn : ds.length = n) (Z : Zr n I L R) (h0 : ∀ j, I a j = 0) (hQ : Q none I L (cm_u R a 0 (some n)) (ds ++ [.inl (0, 12)])) : cm_Ex l g 1 1 12 mX5_init 0 [.ref a] [] I L R ds Q := by
  refine x_aldn qX5_init_0 rfl trivial ?_
  refine x_objInit qX5_init_1 oX5_3 oi_1 oi_2 (by decide) (by decide) ?_
  refine x_aldn qX5_init_4 rfl trivial ?_
  refine x_bipush (v := nI 12) qX5_init_5 rfl ?_
  refine x_newa (t := 0) (N := 12) qX5_init_7 rfl (by decide) ay_0 rfl (by decide) hn ?_
  refine x_zz Z ?_
  refine x_putR qX5_init_9 fX5_9 (Or.inr ⟨rfl, wfX5_9⟩) (dap hd) (cm_rvs _) ?_
  refine x_aldn qX5_init_12 rfl trivial ?_
  refine x_iconst (v := nI 0) qX5_init_13 rfl ?_
  refine x_putI qX5_init_14 fX5_15 (Or.inl rfl) (dap hd) ?_
  rw [u_id (v := nI 0) (h0 1)]
  refine x_vret qX5_init_17 rfl ?_
  exact hQ
theorem c_X8_init (hd : ds[a]? = some (.inr 6)) (hn : ds.length = n) (Z : Zr n I L R) (h0 : ∀ j, I a j = 0) (hQ : Q none I L (cm_u R a 0 (some n)) (ds ++ [.inl (0, 100)])) : cm_Ex l g 1 1 100 mX8_init 0 [.ref a] [] I L R ds Q := by
  refine x_aldn qX8_init_0 rfl trivial ?_
  refine x_objInit qX8_init_1 oX8_3 oi_1 oi_2 (by decide) (by decide) ?_
  refine x_aldn qX8_init_4 rfl trivial ?_
  refine x_bipush (v := nI 100) qX8_init_5 rfl ?_
  refine x_newa (t := 0) (N := 100) qX8_init_7 rfl (by decide) ay_0 rfl (by decide) hn ?_
  refine x_zz Z ?_
  refine x_putR qX8_init_9 fX8_9 (Or.inr ⟨rfl, wfX8_9⟩) (dap hd) (cm_rvs _) ?_
  refine x_aldn qX8_init_12 rfl trivial ?_
  refine x_iconst (v := nI 0) qX8_init_13 rfl ?_
  refine x_putI qX8_init_14 fX8_15 (Or.inl rfl) (dap hd) ?_
  rw [u_id (v := nI 0) (h0 1)]
  refine x_vret qX8_init_17 rfl ?_
  exact hQ
theorem c_X10_init (hd : ds[a]? = some (.inr 8)) (hn : ds.length = n) (Z : Zr n I L R) (h0 : ∀ j, I a j = 0) (hQ : Q none I L (cm_u R a 0 (some n)) (ds ++ [.inl (0, 20)])) : cm_Ex l g 1 1 20 mX10_init 0 [.ref a] [] I L R ds Q := by
  refine x_aldn qX10_init_0 rfl trivial ?_
  refine x_objInit qX10_init_1 oX10_3 oi_1 oi_2 (by decide) (by decide) ?_
  refine x_aldn qX10_init_4 rfl trivial ?_
  refine x_bipush (v := nI 20) qX10_init_5 rfl ?_
  refine x_newa (t := 0) (N := 20) qX10_init_7 rfl (by decide) ay_0 rfl (by decide) hn ?_
  refine x_zz Z ?_
  refine x_putR qX10_init_9 fX10_9 (Or.inr ⟨rfl, wfX10_9⟩) (dap hd) (cm_rvs _) ?_
  refine x_aldn qX10_init_12 rfl trivial ?_
  refine x_iconst (v := nI 0) qX10_init_13 rfl ?_
  refine x_putI qX10_init_14 fX10_15 (Or.inl rfl) (dap hd) ?_
  rw [u_id (v := nI 0) (h0 1)]
  refine x_vret qX10_init_17 rfl ?_
  exact hQ
theorem c_X6_init (hd : ds[a]? = some (.inr 4)) (hn : ds.length = n) (Z : Zr n I L R) (h0 : ∀ j, I a j = 0) (hQ : Q none (cm_u I a 1 (-1)) L (cm_u R a 0 (some n)) (ds ++ [.inl (1, 60)])) : cm_Ex l g 1 1 60 mX6_init 0 [.ref a] [] I L R ds Q := by
  refine x_aldn qX6_init_0 rfl trivial ?_
  refine x_objInit qX6_init_1 oX6_3 oi_1 oi_2 (by decide) (by decide) ?_
  refine x_aldn qX6_init_4 rfl trivial ?_
  refine x_bipush (v := nI 60) qX6_init_5 rfl ?_
  refine x_newa (t := 1) (N := 60) qX6_init_7 rfl (by decide) ay_1 rfl (by decide) hn ?_
  refine x_zz Z ?_
  refine x_putR qX6_init_9 fX6_9 (Or.inr ⟨rfl, wfX6_9⟩) (dap hd) (cm_rvs _) ?_
  refine x_aldn qX6_init_12 rfl trivial ?_
  refine x_iconst (v := -1) qX6_init_13 rfl ?_
  refine x_putI qX6_init_14 fX6_15 (Or.inl rfl) (dap hd) ?_
  refine x_aldn qX6_init_17 rfl trivial ?_
  refine x_iconst (v := nI 0) qX6_init_18 rfl ?_
  refine x_putI qX6_init_19 fX6_19 (Or.inl rfl) (dap hd) ?_
  rw [u_id (f := cm_u I a 1 (-1)) (k := 2) (v := nI 0) (by rw [cm_uu]; exact h0 2)]
  refine x_vret qX6_init_22 rfl ?_
  exact hQ
theorem c_X2_init {t : Nat} (hd : ds[a]? = some (.inr 1)) (h0 : ∀ j, I a j = 0) (hr : ∀ j, R a j = none) (hQ : Q none (cm_u I a 3 (nI 1)) L (cm_u R a 0 (some t)) ds) : cm_Ex l g 1 0 0 mX2_init 0 [.ref a, .ref t] [] I L R ds Q := by
  refine x_aldn qX2_init_0 rfl trivial ?_
  refine x_objInit qX2_init_1 oX2_3 oi_1 oi_2 (by decide) (by decide) ?_
  refine x_aldn qX2_init_4 rfl trivial ?_
  refine x_null qX2_init_5 ?_
  refine x_putR qX2_init_6 fX2_9 (Or.inl rfl) hd (show Value.null = cm_rv none from rfl) ?_
  rw [u_id (hr 1)]
  refine x_aldn qX2_init_9 rfl trivial ?_
  refine x_iconst (v := nI 0) qX2_init_10 rfl ?_
  refine x_putI qX2_init_11 fX2_15 (Or.inl rfl) hd ?_
  rw [u_id (v := nI 0) (h0 2)]
  refine x_aldn qX2_init_14 rfl trivial ?_
  refine x_iconst (v := nI 1) qX2_init_15 rfl ?_
  refine x_putZ qX2_init_16 fX2_19 (Or.inl rfl) hd (by decide) ?_
  refine x_aldn qX2_init_19 rfl trivial ?_
  refine x_aldn qX2_init_20 rfl trivial ?_
  refine x_putR qX2_init_21 fX2_23 (Or.inr ⟨rfl, wfX2_23⟩) hd (cm_rvs _) ?_
  refine x_vret qX2_init_24 rfl ?_
  exact hQ
theorem c_X1_init (hd : ds[a]? = some (.inr 0)) (hn : ds.length = n) (Z : Zr n I L R) (h0 : ∀ j, I a j = 0) (hQ : Q none I L (cm_u (cm_u (cm_u R a 0 (some n)) a 1 (some (n + 1))) a 2 (some (n + 2))) (ds ++ [.inl (0, 16)] ++ [.inl (0, 16)] ++ [.inl (0, 100)])) : cm_Ex l g 1 3 132 mX1_init 0 [.ref a] [] I L R ds Q := by
  have ha := dlt hd hn
  have Z1 : Zr (n + 1) I L (cm_u R a 0 (some n)) := Zr_uR (Zr_up Z (by omega)) (by omega)
  have Z2 : Zr (n + 2) I L (cm_u (cm_u R a 0 (some n)) a 1 (some (n + 1))) := Zr_uR (Zr_up Z1 (by omega)) (by omega)
  refine x_aldn qX1_init_0 rfl trivial ?_
  refine x_objInit qX1_init_1 oX1_3 oi_1 oi_2 (by decide) (by decide) ?_
  refine x_aldn qX1_init_4 rfl trivial ?_
  refine x_bipush (v := nI 16) qX1_init_5 rfl ?_
  refine x_newa (t := 0) (N := 16) qX1_init_7 rfl (by decide) ay_0 rfl (by decide) hn ?_
  refine x_zz Z ?_
  refine x_putR qX1_init_9 fX1_9 (Or.inr ⟨rfl, wfX1_9⟩) (dap hd) (cm_rvs _) ?_
  refine x_aldn qX1_init_12 rfl trivial ?_
  refine x_bipush (v := nI 16) qX1_init_13 rfl ?_
  refine x_newa (t := 0) (N := 16) qX1_init_15 rfl (by decide) ay_0 rfl (by decide) (dln hn) ?_
  refine x_zz Z1 ?_
  refine x_putR qX1_init_17 fX1_15 (Or.inr ⟨rfl, wfX1_15⟩) (dap (dap hd)) (cm_rvs _) ?_
  refine x_aldn qX1_init_20 rfl trivial ?_
  refine x_bipush (v := nI 100) qX1_init_21 rfl ?_
  refine x_newa (t := 0) (N := 100) qX1_init_23 rfl (by decide) ay_0 rfl (by decide) (dln (dln hn)) ?_
  refine x_zz Z2 ?_
  refine x_putR qX1_init_25 fX1_18 (Or.inr ⟨rfl, wfX1_18⟩) (dap (dap (dap hd))) (cm_rvs _) ?_
  refine x_aldn qX1_init_28 rfl trivial ?_
  refine x_iconst (v := nI 0) qX1_init_29 rfl ?_
  refine x_putI qX1_init_30 fX1_21 (Or.inl rfl) (dap (dap (dap hd))) ?_
  rw [u_id (v := nI 0) (h0 3)]
  refine x_aldn qX1_init_33 rfl trivial ?_
  refine x_iconst (v := nI 0) qX1_init_34 rfl ?_
  refine x_putI qX1_init_35 fX1_25 (Or.inl rfl) (dap (dap (dap hd))) ?_
  rw [u_id (v := nI 0) (h0 4)]
  refine x_aldn qX1_init_38 rfl trivial ?_
  refine x_iconst (v := nI 0) qX1_init_39 rfl ?_
  refine x_putI qX1_init_40 fX1_28 (Or.inl rfl) (dap (dap (dap hd))) ?_
  rw [u_id (v := nI 0) (h0 5)]
  refine x_vret qX1_init_43 rfl ?_
  exact hQ
theorem c_X3_init (hd : ds[a]? = some (.inr 2)) (hn : ds.length = n) (Z : Zr n I L R) (h0 : ∀ j, I a j = 0) (hQ : Q none (cm_u I a 7 (nI 1)) (cm_u (cm_u (cm_u L a 5 1) (n + 2) 0 1) (n + 3) 0 1) (cm_u (cm_u (cm_u (cm_u (cm_u R a 0 (some n)) a 1 (some (n + 1))) a 2 (some (n + 2))) a 3 (some (n + 3))) a 4 (some (n + 4))) (ds ++ [.inl (3, 4)] ++ [.inl (1, 16)] ++ [.inl (1, 64)] ++ [.inl (1, 64)] ++ [.inl (0, 64)])) : cm_Ex l g 1 5 212 mX3_init 0 [.ref a] [] I L R ds Q := by
  have ha := dlt hd hn
  have Z1 : Zr (n + 1) I L (cm_u R a 0 (some n)) := Zr_uR (Zr_up Z (by omega)) (by omega)
  have Z2 : Zr (n + 2) I L (cm_u (cm_u R a 0 (some n)) a 1 (some (n + 1))) := Zr_uR (Zr_up Z1 (by omega)) (by omega)
  have Z3 : Zr (n + 3) I L (cm_u (cm_u (cm_u R a 0 (some n)) a 1 (some (n + 1))) a 2 (some (n + 2))) := Zr_uR (Zr_up Z2 (by omega)) (by omega)
  have Z4 : Zr (n + 4) I L (cm_u (cm_u (cm_u (cm_u R a 0 (some n)) a 1 (some (n + 1))) a 2 (some (n + 2))) a 3 (some (n + 3))) := Zr_uR (Zr_up Z3 (by omega)) (by omega)
  have d5 : ∀ x1 x2 x3 x4 x5 : cm_E, (ds ++ [x1] ++ [x2] ++ [x3] ++ [x4] ++ [x5])[a]? = some (.inr 2) := fun _ _ _ _ _ => dap (dap (dap (dap (dap hd))))
  refine x_aldn qX3_init_0 rfl trivial ?_
  refine x_objInit qX3_init_1 oX3_3 oi_1 oi_2 (by decide) (by decide) ?_
  refine x_aldn qX3_init_4 rfl trivial ?_
  refine x_iconst (v := nI 4) qX3_init_5 rfl ?_
  refine x_anew (t := 3) (N := 4) qX3_init_6 rfl (by decide) lX3_9 rfl (by decide) hn ?_
  refine x_zz Z ?_
  refine x_putR qX3_init_9 fX3_11 (Or.inr ⟨rfl, wfX3_11⟩) (dap hd) (cm_rvs _) ?_
  refine x_aldn qX3_init_12 rfl trivial ?_
  refine x_bipush (v := nI 16) qX3_init_13 rfl ?_
  refine x_newa (t := 1) (N := 16) qX3_init_15 rfl (by decide) ay_1 rfl (by decide) (dln hn) ?_
  refine x_zz Z1 ?_
  refine x_putR qX3_init_17 fX3_17 (Or.inr ⟨rfl, wfX3_17⟩) (dap (dap hd)) (cm_rvs _) ?_
  refine x_aldn qX3_init_20 rfl trivial ?_
  refine x_bipush (v := nI 64) qX3_init_21 rfl ?_
  refine x_newa (t := 1) (N := 64) qX3_init_23 rfl (by decide) ay_1 rfl (by decide) (dln (dln hn)) ?_
  refine x_zz Z2 ?_
  refine x_putR qX3_init_25 fX3_21 (Or.inr ⟨rfl, wfX3_21⟩) (dap (dap (dap hd))) (cm_rvs _) ?_
  refine x_aldn qX3_init_28 rfl trivial ?_
  refine x_bipush (v := nI 64) qX3_init_29 rfl ?_
  refine x_newa (t := 1) (N := 64) qX3_init_31 rfl (by decide) ay_1 rfl (by decide) (dln (dln (dln hn))) ?_
  refine x_zz Z3 ?_
  refine x_putR qX3_init_33 fX3_24 (Or.inr ⟨rfl, wfX3_24⟩) (dap (dap (dap (dap hd)))) (cm_rvs _) ?_
  refine x_aldn qX3_init_36 rfl trivial ?_
  refine x_bipush (v := nI 64) qX3_init_37 rfl ?_
  refine x_newa (t := 0) (N := 64) qX3_init_39 rfl (by decide) ay_0 rfl (by decide) (dln (dln (dln (dln hn)))) ?_
  refine x_zz Z4 ?_
  refine x_putR qX3_init_41 fX3_27 (Or.inr ⟨rfl, wfX3_27⟩) (d5 _ _ _ _ _) (cm_rvs _) ?_
  refine x_aldn qX3_init_44 rfl trivial ?_
  refine x_lconst (v := 1) qX3_init_45 rfl ?_
  refine x_putL qX3_init_46 fX3_31 (Or.inl rfl) (d5 _ _ _ _ _) ?_
  refine x_aldn qX3_init_49 rfl trivial ?_
  refine x_iconst (v := nI 0) qX3_init_50 rfl ?_
  refine x_putI qX3_init_51 fX3_35 (Or.inl rfl) (d5 _ _ _ _ _) ?_
  rw [u_id (v := nI 0) (h0 6)]
  have r2 : cm_u (cm_u (cm_u (cm_u (cm_u R a 0 (some n)) a 1 (some (n + 1))) a 2 (some (n + 2))) a 3 (some (n + 3))) a 4 (some (n + 4)) a 2 = some (n + 2) := by simp [cm_u]
  have r3 : cm_u (cm_u (cm_u (cm_u (cm_u R a 0 (some n)) a 1 (some (n + 1))) a 2 (some (n + 2))) a 3 (some (n + 3))) a 4 (some (n + 4)) a 3 = some (n + 3) := by simp [cm_u]
  refine x_aldn qX3_init_54 rfl trivial ?_
  refine x_iconst (v := nI 1) qX3_init_55 rfl ?_
  refine x_putI qX3_init_56 fX3_39 (Or.inl rfl) (d5 _ _ _ _ _) ?_
  refine x_aldn qX3_init_59 rfl trivial ?_
  refine x_getR qX3_init_60 fX3_21 (d5 _ _ _ _ _) r2 ?_
  refine x_iconst (v := nI 0) qX3_init_63 rfl ?_
  refine x_lconst (v := 1) qX3_init_64 rfl ?_
  refine x_last qX3_init_65 (dap (dap (dlast (dln (dln hn))))) rfl (by decide) (by decide) ?_
  refine x_aldn qX3_init_66 rfl trivial ?_
  refine x_getR qX3_init_67 fX3_24 (d5 _ _ _ _ _) r3 ?_
  refine x_iconst (v := nI 0) qX3_init_70 rfl ?_
  refine x_lconst (v := 1) qX3_init_71 rfl ?_
  refine x_last qX3_init_72 (dap (dlast (dln (dln (dln hn))))) rfl (by decide) (by decide) ?_
  refine x_vret qX3_init_73 rfl ?_
  exact hQ
theorem c_X7_init {t u : Nat} (hd : ds[a]? = some (.inr 5)) (hn : ds.length = n) (Z : Zr n I L R) (h0 : ∀ j, I a j = 0) (hr : ∀ j, R a j = none) (hQ : Q none (cm_u I a 14 (nI 1)) L (cm_u (cm_u (cm_u (cm_u (cm_u (cm_u (cm_u (cm_u (cm_u (cm_u (cm_u (cm_u R a 2 (some n)) a 3 (some (n + 1))) a 4 (some (n + 2))) a 5 (some (n + 3))) a 6 (some (n + 4))) a 7 (some (n + 5))) a 8 (some (n + 6))) a 9 (some (n + 7))) a 10 (some (n + 8))) a 11 (some (n + 9))) a 0 (some t)) a 1 (some u)) (ds ++ [.inl (1, 12)] ++ [.inl (1, 12)] ++ [.inl (1, 12)] ++ [.inl (1, 24)] ++ [.inl (0, 64)] ++ [.inl (0, 64)] ++ [.inl (0, 64)] ++ [.inl (0, 64)] ++ [.inl (0, 768)] ++ [.inl (0, 12)])) : cm_Ex l g 1 10 1096 mX7_init 0 [.ref a, .ref t, .ref u] [] I L R ds Q := by
  have ha := dlt hd hn
  have Z1 := Zr_uR (k := 2) (v := some n) (Zr_up Z (show n ≤ n + 1 by omega)) (show a < n + 1 by omega)
  have Z2 := Zr_uR (k := 3) (v := some (n + 1)) (Zr_up Z1 (show n + 1 ≤ n + 2 by omega)) (show a < n + 2 by omega)
  have Z3 := Zr_uR (k := 4) (v := some (n + 2)) (Zr_up Z2 (show n + 2 ≤ n + 3 by omega)) (show a < n + 3 by omega)
  have Z4 := Zr_uR (k := 5) (v := some (n + 3)) (Zr_up Z3 (show n + 3 ≤ n + 4 by omega)) (show a < n + 4 by omega)
  have Z5 := Zr_uR (k := 6) (v := some (n + 4)) (Zr_up Z4 (show n + 4 ≤ n + 5 by omega)) (show a < n + 5 by omega)
  have Z6 := Zr_uR (k := 7) (v := some (n + 5)) (Zr_up Z5 (show n + 5 ≤ n + 6 by omega)) (show a < n + 6 by omega)
  have Z7 := Zr_uR (k := 8) (v := some (n + 6)) (Zr_up Z6 (show n + 6 ≤ n + 7 by omega)) (show a < n + 7 by omega)
  have Z8 := Zr_uR (k := 9) (v := some (n + 7)) (Zr_up Z7 (show n + 7 ≤ n + 8 by omega)) (show a < n + 8 by omega)
  have Z9 := Zr_uR (k := 10) (v := some (n + 8)) (Zr_up Z8 (show n + 8 ≤ n + 9 by omega)) (show a < n + 9 by omega)
  have n1 := dln (x := .inl (1, 12)) hn
  have n2 := dln (x := .inl (1, 12)) n1
  have n3 := dln (x := .inl (1, 12)) n2
  have n4 := dln (x := .inl (1, 24)) n3
  have n5 := dln (x := .inl (0, 64)) n4
  have n6 := dln (x := .inl (0, 64)) n5
  have n7 := dln (x := .inl (0, 64)) n6
  have n8 := dln (x := .inl (0, 64)) n7
  have n9 := dln (x := .inl (0, 768)) n8
  have d1 := dap (x := .inl (1, 12)) hd
  have d2 := dap (x := .inl (1, 12)) d1
  have d3 := dap (x := .inl (1, 12)) d2
  have d4 := dap (x := .inl (1, 24)) d3
  have d5 := dap (x := .inl (0, 64)) d4
  have d6 := dap (x := .inl (0, 64)) d5
  have d7 := dap (x := .inl (0, 64)) d6
  have d8 := dap (x := .inl (0, 64)) d7
  have d9 := dap (x := .inl (0, 768)) d8
  have d10 := dap (x := .inl (0, 12)) d9
  refine x_aldn qX7_init_0 rfl trivial ?_
  refine x_objInit qX7_init_1 oX7_3 oi_1 oi_2 (by decide) (by decide) ?_
  refine x_aldn qX7_init_4 rfl trivial ?_
  refine x_bipush (v := nI 12) qX7_init_5 rfl ?_
  refine x_newa (t := 1) (N := 12) qX7_init_7 rfl (by decide) ay_1 rfl (by decide) hn ?_
  refine x_zz Z ?_
  refine x_putR qX7_init_9 fX7_9 (Or.inr ⟨rfl, wfX7_9⟩) d1 (cm_rvs _) ?_
  refine x_aldn qX7_init_12 rfl trivial ?_
  refine x_bipush (v := nI 12) qX7_init_13 rfl ?_
  refine x_newa (t := 1) (N := 12) qX7_init_15 rfl (by decide) ay_1 rfl (by decide) n1 ?_
  refine x_zz Z1 ?_
  refine x_putR qX7_init_17 fX7_15 (Or.inr ⟨rfl, wfX7_15⟩) d2 (cm_rvs _) ?_
  refine x_aldn qX7_init_20 rfl trivial ?_
  refine x_bipush (v := nI 12) qX7_init_21 rfl ?_
  refine x_newa (t := 1) (N := 12) qX7_init_23 rfl (by decide) ay_1 rfl (by decide) n2 ?_
  refine x_zz Z2 ?_
  refine x_putR qX7_init_25 fX7_18 (Or.inr ⟨rfl, wfX7_18⟩) d3 (cm_rvs _) ?_
  refine x_aldn qX7_init_28 rfl trivial ?_
  refine x_bipush (v := nI 24) qX7_init_29 rfl ?_
  refine x_newa (t := 1) (N := 24) qX7_init_31 rfl (by decide) ay_1 rfl (by decide) n3 ?_
  refine x_zz Z3 ?_
  refine x_putR qX7_init_33 fX7_21 (Or.inr ⟨rfl, wfX7_21⟩) d4 (cm_rvs _) ?_
  refine x_aldn qX7_init_36 rfl trivial ?_
  refine x_bipush (v := nI 64) qX7_init_37 rfl ?_
  refine x_newa (t := 0) (N := 64) qX7_init_39 rfl (by decide) ay_0 rfl (by decide) n4 ?_
  refine x_zz Z4 ?_
  refine x_putR qX7_init_41 fX7_24 (Or.inr ⟨rfl, wfX7_24⟩) d5 (cm_rvs _) ?_
  refine x_aldn qX7_init_44 rfl trivial ?_
  refine x_bipush (v := nI 64) qX7_init_45 rfl ?_
  refine x_newa (t := 0) (N := 64) qX7_init_47 rfl (by decide) ay_0 rfl (by decide) n5 ?_
  refine x_zz Z5 ?_
  refine x_putR qX7_init_49 fX7_28 (Or.inr ⟨rfl, wfX7_28⟩) d6 (cm_rvs _) ?_
  refine x_aldn qX7_init_52 rfl trivial ?_
  refine x_bipush (v := nI 64) qX7_init_53 rfl ?_
  refine x_newa (t := 0) (N := 64) qX7_init_55 rfl (by decide) ay_0 rfl (by decide) n6 ?_
  refine x_zz Z6 ?_
  refine x_putR qX7_init_57 fX7_31 (Or.inr ⟨rfl, wfX7_31⟩) d7 (cm_rvs _) ?_
  refine x_aldn qX7_init_60 rfl trivial ?_
  refine x_bipush (v := nI 64) qX7_init_61 rfl ?_
  refine x_newa (t := 0) (N := 64) qX7_init_63 rfl (by decide) ay_0 rfl (by decide) n7 ?_
  refine x_zz Z7 ?_
  refine x_putR qX7_init_65 fX7_34 (Or.inr ⟨rfl, wfX7_34⟩) d8 (cm_rvs _) ?_
  refine x_aldn qX7_init_68 rfl trivial ?_
  refine x_sipush (v := nI 768) qX7_init_69 rfl ?_
  refine x_newa (t := 0) (N := 768) qX7_init_72 rfl (by decide) ay_0 rfl (by decide) n8 ?_
  refine x_zz Z8 ?_
  refine x_putR qX7_init_74 fX7_37 (Or.inr ⟨rfl, wfX7_37⟩) d9 (cm_rvs _) ?_
  refine x_aldn qX7_init_77 rfl trivial ?_
  refine x_bipush (v := nI 12) qX7_init_78 rfl ?_
  refine x_newa (t := 0) (N := 12) qX7_init_80 rfl (by decide) ay_0 rfl (by decide) n9 ?_
  refine x_zz Z9 ?_
  refine x_putR qX7_init_82 fX7_40 (Or.inr ⟨rfl, wfX7_40⟩) d10 (cm_rvs _) ?_
  refine x_aldn qX7_init_85 rfl trivial ?_
  refine x_null qX7_init_86 ?_
  refine x_putR qX7_init_87 fX7_43 (Or.inl rfl) d10 (show Value.null = cm_rv none from rfl) ?_
  rw [u_id (k := 12) (v := none) (by simp [cm_u, hr])]
  refine x_aldn qX7_init_90 rfl trivial ?_
  refine x_iconst (v := nI 0) qX7_init_91 rfl ?_
  refine x_putI qX7_init_92 fX7_47 (Or.inl rfl) d10 ?_
  rw [u_id (v := nI 0) (h0 13)]
  refine x_aldn qX7_init_95 rfl trivial ?_
  refine x_iconst (v := nI 1) qX7_init_96 rfl ?_
  refine x_putI qX7_init_97 fX7_51 (Or.inl rfl) d10 ?_
  refine x_aldn qX7_init_100 rfl trivial ?_
  refine x_aldn qX7_init_101 rfl trivial ?_
  refine x_putR qX7_init_102 fX7_54 (Or.inr ⟨rfl, wfX7_54⟩) d10 (cm_rvs _) ?_
  refine x_aldn qX7_init_105 rfl trivial ?_
  refine x_aldn qX7_init_106 rfl trivial ?_
  refine x_putR qX7_init_107 fX7_58 (Or.inr ⟨rfl, wfX7_58⟩) d10 (cm_rvs _) ?_
  refine x_vret qX7_init_110 rfl ?_
  exact hQ
end K40
