/-! rules that read or write cells -/
theorem cm_rf (g : cm_G) (o : Option Nat) : va_rf (o.map (g.1 + ·)) = cm_em g (cm_rv o) := by cases o <;> rfl
theorem cm_inI {i : Int32} {k n : Nat} (hi : i = nI k) (hk : k < n) (hn : n < 2147483648) : vp_in i n ∧ i.toNatClampNeg = k := by
  subst hi
  exact ⟨vp_in_nI hk hn, nI_clamp (by omega)⟩
theorem cm_tys_at (g : cm_G) {t : Nat} (h : t < 6) : (cm_tys g)[t]? = some (g.2.2.2.1 t, cm_aty t) := by
  simp [cm_tys, h]
theorem cm_S_H {g : cm_G} {H0 H : Heap} {locs : List Loc} (h : va_S (cm_A g) H0 H locs) : H0.size ≤ H.size := h.1
theorem cm_uu {α : Type} (f : Nat → Nat → α) (a k : Nat) (v : α) : cm_u f a k v a = fun j => if j = k then v else f a j := by
  funext j; simp [cm_u]
theorem cm_Wd_set {g : cm_G} {I I' : cm_I} {L L' : cm_L} {R R' : cm_R} {ds : cm_Ds} {H H1 : Heap} (w : cm_Wd g I L R ds H) {a : Nat} {d : cm_E} (hd : ds[a]? = some d) (he : va_at g.2.2.1 cm_cl (g.1 + a, cm_ent g I' L' R' a d) H1) (z : H1.size = H.size) (oq : ∀ q : Nat, q ≠ g.1 + a → H1[q]? = H[q]?) (hI : ∀ b, b ≠ a → I' b = I b) (hL : ∀ b, b ≠ a → L' b = L b) (hR : ∀ b, b ≠ a → R' b = R b) : cm_Wd g I' L' R' ds H1 := by
  refine ⟨?_, z.trans w.2⟩
  rw [← cm_cells_set hd rfl hI hL hR]
  exact w.1.set cm_dst (cm_cells_at g I L R hd) he oq
theorem cm_at_i {g : cm_G} {I : cm_I} {L : cm_L} {R : cm_R} {a n : Nat} {H : Heap} : va_at g.2.2.1 cm_cl (g.1 + a, cm_ent g I L R a (.inl (0, n))) H ↔ H[g.1 + a]? = some (arrV (g.2.2.2.1 0) n (fun j => .int (I a j))) := Iff.rfl
theorem cm_at_l {g : cm_G} {I : cm_I} {L : cm_L} {R : cm_R} {a n : Nat} {H : Heap} : va_at g.2.2.1 cm_cl (g.1 + a, cm_ent g I L R a (.inl (1, n))) H ↔ H[g.1 + a]? = some (arrV (g.2.2.2.1 1) n (fun j => .long (L a j))) := Iff.rfl
theorem cm_at_z {g : cm_G} {I : cm_I} {L : cm_L} {R : cm_R} {a n : Nat} {H : Heap} : va_at g.2.2.1 cm_cl (g.1 + a, cm_ent g I L R a (.inl (2, n))) H ↔ H[g.1 + a]? = some (arrV (g.2.2.2.1 2) n (fun j => .int (I a j))) := Iff.rfl
theorem cm_at_q {g : cm_G} {I : cm_I} {L : cm_L} {R : cm_R} {a n t : Nat} {H : Heap} (ht : 3 ≤ t) : va_at g.2.2.1 cm_cl (g.1 + a, cm_ent g I L R a (.inl (t, n))) H ↔ H[g.1 + a]? = some (arrV (g.2.2.2.1 t) n (fun j => va_rf ((R a j).map (g.1 + ·)))) := by
  simp only [va_at, cm_ent]
  rw [if_neg (by omega), if_neg (by omega)]
  exact Iff.rfl
theorem cm_arr_set {cA : ClassId} {n k : Nat} {f f' : Nat → Value} {v : Value} (h : ∀ j, f' j = if j = k then v else f j) : (arrV cA n f).setSlot k v = arrV cA n f' := by
  rw [arrV_store]
  congr 1
  funext j
  rw [h j]
  rfl
section CM
variable {l : Launch} {g : cm_G} {d mc ms : Nat} {y : cm_M} {pc pc' : Nat} {ls st : List Value} {I : cm_I} {L : cm_L} {R : cm_R} {ds : cm_Ds} {Q : cm_Post}
theorem x_iald {i : Int32} {a k n : Nat} (hq : cm_N y pc .iaload 1 pc') (hd : ds[a]? = some (.inl (0, n))) (hi : i = nI k) (hk : k < n) (hn : n < 2147483648) (kk : cm_Ex l g d mc ms y pc' ls (.int (I a k) :: st) I L R ds Q) : cm_Ex l g d mc ms y pc ls (.int i :: .ref a :: st) I L R ds Q := by
  obtain ⟨hdg, rfl⟩ := hq
  obtain ⟨h1, h2⟩ := cm_inI hi hk hn
  intro p e Rm s m args below meth c H locs cells slots kc ks als C w hS hl hr
  have k1 := kk p e Rm s m args below meth c H locs cells slots kc ks als C w hS hl hr
  rw [← h2] at k1
  exact va_iald C.1 C.2.1 C.2.2.2.2.2.2.2.2.2.1 w.1 a 0 (cm_cells_at g I L R hd) (cm_tys_at g (by decide)) h1 hdg k1
theorem x_lald {i : Int32} {a k n : Nat} (hq : cm_N y pc .laload 1 pc') (hd : ds[a]? = some (.inl (1, n))) (hi : i = nI k) (hk : k < n) (hn : n < 2147483648) (kk : cm_Ex l g d mc ms y pc' ls (.long (L a k) :: st) I L R ds Q) : cm_Ex l g d mc ms y pc ls (.int i :: .ref a :: st) I L R ds Q := by
  obtain ⟨hdg, rfl⟩ := hq
  obtain ⟨h1, h2⟩ := cm_inI hi hk hn
  intro p e Rm s m args below meth c H locs cells slots kc ks als C w hS hl hr
  have k1 := kk p e Rm s m args below meth c H locs cells slots kc ks als C w hS hl hr
  rw [← h2] at k1
  exact va_lald C.1 C.2.1 C.2.2.2.2.2.2.2.2.2.1 w.1 a 1 (cm_cells_at g I L R hd) (cm_tys_at g (by decide)) h1 hdg k1
theorem x_zald {i : Int32} {a k n : Nat} (hq : cm_N y pc .baload 1 pc') (hd : ds[a]? = some (.inl (2, n))) (hi : i = nI k) (hk : k < n) (hn : n < 2147483648) (kk : cm_Ex l g d mc ms y pc' ls (.int (I a k) :: st) I L R ds Q) : cm_Ex l g d mc ms y pc ls (.int i :: .ref a :: st) I L R ds Q := by
  obtain ⟨hdg, rfl⟩ := hq
  obtain ⟨h1, h2⟩ := cm_inI hi hk hn
  intro p e Rm s m args below meth c H locs cells slots kc ks als C w hS hl hr
  have k1 := kk p e Rm s m args below meth c H locs cells slots kc ks als C w hS hl hr
  rw [← h2] at k1
  exact va_zald C.1 C.2.1 C.2.2.2.2.2.2.2.2.2.1 w.1 a 2 (cm_cells_at g I L R hd) (cm_tys_at g (by decide)) h1 hdg k1
theorem x_aald {i : Int32} {a k n t : Nat} (hq : cm_N y pc .aaload 1 pc') (hd : ds[a]? = some (.inl (t, n))) (ht : t = 3 ∨ t = 4 ∨ t = 5) (hi : i = nI k) (hk : k < n) (hn : n < 2147483648) (kk : cm_Ex l g d mc ms y pc' ls (cm_rv (R a k) :: st) I L R ds Q) : cm_Ex l g d mc ms y pc ls (.int i :: .ref a :: st) I L R ds Q := by
  obtain ⟨hdg, rfl⟩ := hq
  obtain ⟨h1, h2⟩ := cm_inI hi hk hn
  intro p e Rm s m args below meth c H locs cells slots kc ks als C w hS hl hr
  have k1 := kk p e Rm s m args below meth c H locs cells slots kc ks als C w hS hl hr
  rw [← h2, List.map_cons, ← cm_rf] at k1
  rcases ht with rfl | rfl | rfl
  · exact va_aldq C.1 C.2.1 C.2.2.2.2.2.2.2.2.2.1 w.1 a 3 (cm_cells_at g I L R hd) (cm_tys_at g (by decide)) h1 hdg k1
  · exact va_aldq C.1 C.2.1 C.2.2.2.2.2.2.2.2.2.1 w.1 a 4 (cm_cells_at g I L R hd) (cm_tys_at g (by decide)) h1 hdg k1
  · exact va_aldq C.1 C.2.1 C.2.2.2.2.2.2.2.2.2.1 w.1 a 5 (cm_cells_at g I L R hd) (cm_tys_at g (by decide)) h1 hdg k1
theorem x_alen {a n t : Nat} {v : Int32} (hq : cm_N y pc .arraylength 1 pc') (hd : ds[a]? = some (.inl (t, n))) (ht : t < 6) (hv : nI n = v) (kk : cm_Ex l g d mc ms y pc' ls (.int v :: st) I L R ds Q) : cm_Ex l g d mc ms y pc ls (.ref a :: st) I L R ds Q := by
  obtain ⟨hdg, rfl⟩ := hq
  intro p e Rm s m args below meth c H locs cells slots kc ks als C w hS hl hr
  exact va_alen C.1 C.2.1 C.2.2.2.2.2.2.2.2.2.1 w.1 a t (cm_cells_at g I L R hd) (cm_tys_at g ht) hv hdg (kk p e Rm s m args below meth c H locs cells slots kc ks als C w hS hl hr)
theorem x_iast {i : Int32} {v : Int32} {a k n : Nat} (hq : cm_N y pc .iastore 1 pc') (hd : ds[a]? = some (.inl (0, n))) (hi : i = nI k) (hk : k < n) (hn : n < 2147483648) (kk : cm_Ex l g d mc ms y pc' ls st (cm_u I a k v) L R ds Q) : cm_Ex l g d mc ms y pc ls (.int v :: .int i :: .ref a :: st) I L R ds Q := by
  obtain ⟨hdg, rfl⟩ := hq
  obtain ⟨h1, h2⟩ := cm_inI hi hk hn
  intro p e Rm s m args below meth c H locs cells slots kc ks als C w hS hl hr
  refine W.iast C.1 C.2.1 (cm_at_i.mp (w.1 a _ (cm_cells_at g I L R hd))) ((C.2.2.2.2.2.2.2.2.2.1.2 0 _ (cm_tys_at g (by decide))).1 n (fun j => Value.int (I a j))) (fun q => by cases q) (by show ¬ (i < 0 ∨ (arrV _ _ _).slots.size ≤ _); rw [arrV_size]; exact h1) rfl rfl hdg fun H1 e1 z oq => ?_
  rw [h2] at e1 ⊢
  refine kk p e Rm s m args below meth c H1 _ cells slots kc ks als C (cm_Wd_set w hd (I' := cm_u I a k v) (L' := L) (R' := R) ?_ z oq (fun b hb => cm_u_ne hb) (fun b hb => rfl) (fun b hb => rfl)) (hS.put z oq (Nat.le_add_right _ _)) hl hr
  refine cm_at_i.mpr (e1.trans (congrArg some (cm_arr_set fun j => ?_)))
  simp only [cm_u, if_true]
  split <;> rfl
theorem x_last {i : Int32} {v : Int64} {a k n : Nat} (hq : cm_N y pc .lastore 1 pc') (hd : ds[a]? = some (.inl (1, n))) (hi : i = nI k) (hk : k < n) (hn : n < 2147483648) (kk : cm_Ex l g d mc ms y pc' ls st I (cm_u L a k v) R ds Q) : cm_Ex l g d mc ms y pc ls (.long v :: .int i :: .ref a :: st) I L R ds Q := by
  obtain ⟨hdg, rfl⟩ := hq
  obtain ⟨h1, h2⟩ := cm_inI hi hk hn
  intro p e Rm s m args below meth c H locs cells slots kc ks als C w hS hl hr
  refine W.last C.1 C.2.1 (cm_at_l.mp (w.1 a _ (cm_cells_at g I L R hd))) ((C.2.2.2.2.2.2.2.2.2.1.2 1 _ (cm_tys_at g (by decide))).1 n (fun j => Value.long (L a j))) (fun q => by cases q) (by show ¬ (i < 0 ∨ (arrV _ _ _).slots.size ≤ _); rw [arrV_size]; exact h1) rfl rfl hdg fun H1 e1 z oq => ?_
  rw [h2] at e1 ⊢
  refine kk p e Rm s m args below meth c H1 _ cells slots kc ks als C (cm_Wd_set w hd (I' := I) (L' := cm_u L a k v) (R' := R) ?_ z oq (fun b hb => rfl) (fun b hb => cm_u_ne hb) (fun b hb => rfl)) (hS.put z oq (Nat.le_add_right _ _)) hl hr
  refine cm_at_l.mpr (e1.trans (congrArg some (cm_arr_set fun j => ?_)))
  simp only [cm_u, if_true]
  split <;> rfl
theorem x_zast {i v v' : Int32} {a k n : Nat} (hq : cm_N y pc .bastore 1 pc') (hd : ds[a]? = some (.inl (2, n))) (hi : i = nI k) (hk : k < n) (hn : n < 2147483648) (hv : narrow .boolean (.int v) = .int v') (kk : cm_Ex l g d mc ms y pc' ls st (cm_u I a k v') L R ds Q) : cm_Ex l g d mc ms y pc ls (.int v :: .int i :: .ref a :: st) I L R ds Q := by
  obtain ⟨hdg, rfl⟩ := hq
  obtain ⟨h1, h2⟩ := cm_inI hi hk hn
  intro p e Rm s m args below meth c H locs cells slots kc ks als C w hS hl hr
  refine W.zast C.1 C.2.1 (cm_at_z.mp (w.1 a _ (cm_cells_at g I L R hd))) ((C.2.2.2.2.2.2.2.2.2.1.2 2 _ (cm_tys_at g (by decide))).1 n (fun j => Value.int (I a j))) (fun q => by cases q) (by show ¬ (i < 0 ∨ (arrV _ _ _).slots.size ≤ _); rw [arrV_size]; exact h1) rfl rfl hdg fun H1 e1 z oq => ?_
  rw [h2, hv] at e1
  rw [h2]
  refine kk p e Rm s m args below meth c H1 _ cells slots kc ks als C (cm_Wd_set w hd (I' := cm_u I a k v') (L' := L) (R' := R) ?_ z oq (fun b hb => cm_u_ne hb) (fun b hb => rfl) (fun b hb => rfl)) (hS.put z oq (Nat.le_add_right _ _)) hl hr
  refine cm_at_z.mpr (e1.trans (congrArg some (cm_arr_set fun j => ?_)))
  simp only [cm_u, if_true]
  split <;> rfl
theorem x_aast {i : Int32} {a k n t v ci : Nat} (hq : cm_N y pc .aastore 1 pc') (hd : ds[a]? = some (.inl (t, n))) (hv : ds[v]? = some (.inr ci)) (ht : t < 6) (hc : ∃ r : vw_C, cm_cl[ci]? = some r ∧ cm_aty t = .object r.1) (ht3 : 3 ≤ t) (hi : i = nI k) (hk : k < n) (hn : n < 2147483648) (kk : cm_Ex l g d mc ms y pc' ls st I L (cm_u R a k (some v)) ds Q) : cm_Ex l g d mc ms y pc ls (.ref v :: .int i :: .ref a :: st) I L R ds Q := by
  obtain ⟨hdg, rfl⟩ := hq
  obtain ⟨h1, h2⟩ := cm_inI hi hk hn
  obtain ⟨r, hc1, hc2⟩ := hc
  intro p e Rm s m args below meth c H locs cells slots kc ks als C w hS hl hr
  have hlt : i.toNatClampNeg < n := by rw [h2]; exact hk
  have h0 : ¬ i < 0 := fun q => h1 (Or.inl q)
  have hK := C.2.2.2.2.2.2.2.2.2.1
  obtain ⟨r', hr', cellV, g1, g2, g3, -⟩ := w.1 v _ (cm_cells_at g I L R hv)
  have hcls := (hK.1 ci r hc1).2
  have hra := (hK.2 t _ (cm_tys_at g ht)).2
  dsimp only at hra
  rw [hc2] at hra
  obtain ⟨kA, comp, k1, k2, k3, -⟩ := hra
  have hcomp : comp = g.2.2.1.1 ci := Option.some.inj (k3.symm.trans hcls.1)
  subst hcomp
  obtain ⟨kC, hkC, -⟩ := hcls.2
  have hcell := (cm_at_q ht3).mp (w.1 a _ (cm_cells_at g I L R hd))
  refine W.aast C.1 C.2.1 hcell (fun q h => by cases h) (fun h => by cases h) k1 k2 rfl hkC ⟨h0, by show _ < (arrV _ _ _).slots.size; rw [arrV_size]; exact hlt⟩ g1 (fun q h => by rw [g3] at h; cases h) (by rw [g2]; exact hkC) (by rw [g2]; exact va_assign hcls) rfl rfl hdg fun H1 e1 z oq => ?_
  rw [h2] at e1 ⊢
  refine kk p e Rm s m args below meth c H1 _ cells slots kc ks als C (cm_Wd_set w hd (I' := I) (L' := L) (R' := cm_u R a k (some v)) ?_ z oq (fun b hb => rfl) (fun b hb => rfl) (fun b hb => cm_u_ne hb)) (hS.put z oq (Nat.le_add_right _ _)) hl hr
  refine (cm_at_q ht3).mpr (e1.trans (congrArg some (cm_arr_set fun j => ?_)))
  simp only [cm_u, if_true]
  split <;> rfl
end CM
