section CM
variable {l : Launch} {g : cm_G} {d mc ms : Nat} {y : cm_M} {pc pc' : Nat} {ls st : List Value} {I : cm_I} {L : cm_L} {R : cm_R} {ds : cm_Ds} {Q : cm_Post}
/-- System.arraycopy of longs -/
theorem x_copyl {idx a0 a1 n0 n1 u v n : Nat} {iu iv iN : Int32} (hq : cm_N y pc (.invokestatic idx) 3 pc') (w1 : Cond.methodLink y.1.cls idx arraycopyName ∈ cm_W0) (w2 : Cond.native arraycopyName ∈ cm_W0) (w3 : Cond.static arraycopyName ∈ cm_W0) (w4 : Cond.initialized "java/lang/System" ∈ cm_W0)
    (hd0 : ds[a0]? = some (.inl (1, n0))) (hd1 : ds[a1]? = some (.inl (1, n1))) (hu : iu = nI u) (hv : iv = nI v) (hn : iN = nI n) (b0 : n0 < 1000000) (b1 : n1 < 1000000) (h4 : u + n ≤ n0) (h5 : v + n ≤ n1) (hs : (st.map fun v => v.category).sum ≤ 8) (hdd : 1 ≤ d)
    (kk : cm_Ex l g d mc ms y pc' ls st I (fun b j => if b = a1 then va_cpy (L a0) (L a1) u v n j else L b j) R ds Q) : cm_Ex l g d mc ms y pc ls (.int iN :: .int iv :: .ref a1 :: .int iu :: .ref a0 :: st) I L R ds Q := by
  obtain ⟨hdg, rfl⟩ := hq
  subst hu; subst hv; subst hn
  intro p e Rm s m args below meth c H locs cells slots kc ks als C w hS hl hr T hT X
  have hts : ∀ w ∈ cm_ws y, w.before args s = true := C.2.2.2.2.2.1
  have hK := C.2.2.2.2.2.2.2.2.2.1
  have hSt := C.2.2.2.2.2.2.2.2.1
  have cu : (nI u).toNatClampNeg = u := nI_clamp (by omega)
  have cv : (nI v).toNatClampNeg = v := nI_clamp (by omega)
  have cn : (nI n).toNatClampNeg = n := nI_clamp (by omega)
  have tu : (nI u).toInt = u := nI_toInt (by omega)
  have tv : (nI v).toInt = v := nI_toInt (by omega)
  have tn : (nI n).toInt = n := nI_toInt (by omega)
  have hc0 := cm_at_l.mp (w.1 a0 _ (cm_cells_at g I L R hd0))
  have hc1 := cm_at_l.mp (w.1 a1 _ (cm_cells_at g I L R hd1))
  obtain ⟨-, k0, hk0, cm0, hkk0⟩ := (hK.2 1 _ (cm_tys_at g (by decide))).1 n0 (fun j => .long (L a0 j))
  obtain ⟨-, k1, hk1, cm1, hkk1⟩ := (hK.2 1 _ (cm_tys_at g (by decide))).1 n1 (fun j => .long (L a1 j))
  have hcs := cm_sum (st := st) hSt.2.1
  obtain ⟨vm', X', step⟩ := X.arraycopy C.1 C.2.2.2.2.1 (hts _ (List.mem_cons_of_mem _ w1)) (hts _ (List.mem_cons_of_mem _ w2)) (hts _ (List.mem_cons_of_mem _ w3)) (hts _ (List.mem_cons_of_mem _ w4)) (src := g.1 + a0) (dst := g.1 + a1) (cs := arrV (g.2.2.2.1 1) n0 (fun j => .long (L a0 j))) (cd := arrV (g.2.2.2.1 1) n1 (fun j => .long (L a1 j))) (srcPos := nI u) (destPos := nI v) (n := nI n) (by rw [hT]; exact hc0) (by rw [hT]; exact hc1)
    (fun _ h => by cases h) (fun _ h => by cases h) (fun h => by cases h) (fun h => by cases h) hk0 hk1 hkk0 hkk1 (by simp [cm_aty, refKind]) (nI_pos (by omega)) (nI_pos (by omega)) (nI_pos (by omega))
    (by rw [tu, tn, arrV_size]; omega)
    (by rw [tv, tn, arrV_size]; omega)
    (fun vm₁ _ i hi => by
      rw [cn] at hi
      have e : (arrV (g.2.2.2.1 1) n0 (fun j => Value.long (L a0 j))).slots.getD ((nI u).toNatClampNeg + i) .null = .long (L a0 (u + i)) := by
        rw [Array.getD_eq_getD_getElem?, cu, arrV_read _ _ (by omega)]
        rfl
      refine ⟨?_, ?_⟩
      · rw [e]
        rfl
      · rw [e]
        exact trivial)
    (g := F0 m pc als (List.map (cm_em g) (.int (nI n) :: .int (nI v) :: .ref a1 :: .int (nI u) :: .ref a0 :: st))) rfl (by rw [C.2.2.1]; exact hl.1) (rest := st.map (cm_em g)) rfl (by rw [C.2.1]; exact hdg) (Nat.le_trans hdd hr.1) (by
      have := hr.2.1
      have hnf : nativeFrameWords "java/lang/System" "arraycopy" 5 = 7 := by decide
      show 2 * 0 + _ + _ ≤ _
      omega)
  have e1 : copied (arrV (g.2.2.2.1 1) n0 (fun j => .long (L a0 j))) (arrV (g.2.2.2.1 1) n1 (fun j => .long (L a1 j))) (nI u) (nI v) (nI n) = arrV (g.2.2.2.1 1) n1 (fun j => .long (va_cpy (L a0) (L a1) u v n j)) := by
    have h1 := va_copied (fun z => Value.long z) (g.2.2.2.1 1) (g.2.2.2.1 1) (n0 := n0) (n1 := n1) (sp := u) (dp := v) (n := n) (L a0) (L a1) h4
    unfold copied
    rw [cu, cv, cn]
    exact h1
  rw [e1] at X' step
  have hlt : g.1 + a1 < H.size := (Array.getElem?_eq_some_iff.mp hc1).1
  have hheap : ((T.setVm vm').setCell (g.1 + a1) (arrV (g.2.2.2.1 1) n1 (fun j => .long (va_cpy (L a0) (L a1) u v n j)))).heap = H.setIfInBounds (g.1 + a1) (arrV (g.2.2.2.1 1) n1 (fun j => .long (va_cpy (L a0) (L a1) u v n j))) := by rw [← hT]; rfl
  have oq : ∀ q : Nat, q ≠ g.1 + a1 → (H.setIfInBounds (g.1 + a1) (arrV (g.2.2.2.1 1) n1 (fun j => .long (va_cpy (L a0) (L a1) u v n j))))[q]? = H[q]? := fun q hq => by simp [Array.getElem?_setIfInBounds, Ne.symm hq]
  obtain ⟨t, a2, b2⟩ := kk p e Rm s m args below meth c _ _ cells slots kc ks als C (cm_Wd_set w hd1 (I' := I) (L' := fun b j => if b = a1 then va_cpy (L a0) (L a1) u v n j else L b j) (R' := R) (cm_at_l.mpr (by simp [Array.getElem?_setIfInBounds, hlt])) (by simp) oq (fun b hb => rfl) (fun b hb => by funext j; simp [hb]) (fun b hb => rfl)) ⟨by simp; exact hS.1, fun q g1 g2 => by
      rw [oq q (fun e => g2 (by rw [e]; exact Nat.le_add_right _ _))]
      exact hS.2.1 q g1 g2, fun q hq => by
      rcases List.mem_append.mp hq with h | h
      · exact hS.2.2 q h
      · obtain ⟨z, -, hz⟩ := List.mem_map.mp h
        rw [← hz]
        exact Nat.le_add_right _ _⟩ hl hr _ hheap X'
  exact ⟨t, step t a2, b2⟩
theorem x_mabs {idx : Nat} {a : Int32} (hq : cm_N y pc (.invokestatic idx) 3 pc') (w1 : Cond.methodLink y.1.cls idx Lib.Math.abs.name ∈ cm_W0) (w2 : Cond.static Lib.Math.abs.name ∈ cm_W0) (w3 : Cond.initialized "java/lang/Math" ∈ cm_W0) (w4 : Cond.code Lib.Math.abs.name Lib.Math.abs.code 1 (some .int) ∈ cm_W0) (hs : (st.map fun v => v.category).sum ≤ 8) (hdd : 1 ≤ d)
    (kk : cm_Ex l g d mc ms y pc' ls (.int (if 0 ≤ a then a else 0 - a) :: st) I L R ds Q) : cm_Ex l g d mc ms y pc ls (.int a :: st) I L R ds Q := by
  obtain ⟨hdg, rfl⟩ := hq
  intro p e Rm s m args below meth c H locs cells slots kc ks als C w hS hl hr
  have hts : ∀ w ∈ cm_ws y, w.before args s = true := C.2.2.2.2.2.1
  have hcs := cm_sum (st := st) C.2.2.2.2.2.2.2.2.1.2.1
  obtain ⟨r1, r2, r3, r4, r5, r6⟩ := hr
  exact va_mabs C.1 C.2.1 (by rw [C.2.2.1]; exact hl.1.symm) C.2.2.2.2.1 (hts _ (List.mem_cons_of_mem _ w1)) (hts _ (List.mem_cons_of_mem _ w2)) (hts _ (List.mem_cons_of_mem _ w3)) (hts _ (List.mem_cons_of_mem _ w4)) (by omega) (by omega) (by omega) (by omega) hdg (kk p e Rm s m args below meth c H locs cells slots kc ks als C w hS hl ⟨r1, r2, r3, r4, r5, r6⟩)
theorem x_mmin {idx : Nat} {a b : Int32} (hq : cm_N y pc (.invokestatic idx) 3 pc') (w1 : Cond.methodLink y.1.cls idx Lib.Math.min.name ∈ cm_W0) (w2 : Cond.static Lib.Math.min.name ∈ cm_W0) (w3 : Cond.initialized "java/lang/Math" ∈ cm_W0) (w4 : Cond.code Lib.Math.min.name Lib.Math.min.code 2 (some .int) ∈ cm_W0) (hs : (st.map fun v => v.category).sum ≤ 8) (hdd : 1 ≤ d)
    (kk : cm_Ex l g d mc ms y pc' ls (.int (if b < a then b else a) :: st) I L R ds Q) : cm_Ex l g d mc ms y pc ls (.int b :: .int a :: st) I L R ds Q := by
  obtain ⟨hdg, rfl⟩ := hq
  intro p e Rm s m args below meth c H locs cells slots kc ks als C w hS hl hr
  have hts : ∀ w ∈ cm_ws y, w.before args s = true := C.2.2.2.2.2.1
  have hcs := cm_sum (st := st) C.2.2.2.2.2.2.2.2.1.2.1
  obtain ⟨r1, r2, r3, r4, r5, r6⟩ := hr
  exact va_mmin C.1 C.2.1 (by rw [C.2.2.1]; exact hl.1.symm) C.2.2.2.2.1 (hts _ (List.mem_cons_of_mem _ w1)) (hts _ (List.mem_cons_of_mem _ w2)) (hts _ (List.mem_cons_of_mem _ w3)) (hts _ (List.mem_cons_of_mem _ w4)) (by omega) (by omega) (by omega) (by omega) hdg (kk p e Rm s m args below meth c H locs cells slots kc ks als C w hS hl ⟨r1, r2, r3, r4, r5, r6⟩)
end CM
