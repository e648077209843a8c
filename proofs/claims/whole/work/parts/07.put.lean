theorem cm_fs_upd {g : cm_G} {I I' : cm_I} {L L' : cm_L} {R R' : cm_R} {a ci k kd : Nat} {v' : Value} (hk : (cm_ks ci)[k]? = some kd) (hv : cm_em g (cm_sv I' L' R' a k kd) = v') (hI : ∀ j, j ≠ k → I' a j = I a j) (hL : ∀ j, j ≠ k → L' a j = L a j) (hR : ∀ j, j ≠ k → R' a j = R a j) (j : Nat) : updV (vp_V (cm_fs g I L R a ci)) k v' j = vp_V (cm_fs g I' L' R' a ci) j := by
  by_cases hj : j = k
  · subst hj
    simp only [updV, if_true, vp_V, List.getD_eq_getElem?_getD, cm_ksv hk, Option.getD_some, hv]
  · simp only [updV, if_neg hj, vp_V, List.getD_eq_getElem?_getD, cm_fs, List.getElem?_mapIdx]
    cases hx : (cm_ks ci)[j]? with
    | none => rfl
    | some kd' => simp only [Option.map_some, Option.getD_some, cm_sv, hI j hj, hL j hj, hR j hj]
section CM
variable {l : Launch} {g : cm_G} {d mc ms : Nat} {y : cm_M} {pc pc' : Nat} {ls st : List Value} {I : cm_I} {L : cm_L} {R : cm_R} {ds : cm_Ds} {Q : cm_Post}
theorem x_putf {idx : Nat} (hq : cm_N y pc (.putfield idx) 3 pc') {ci k kd a : Nat} {fin : Bool} {v : Value} {I' : cm_I} {L' : cm_L} {R' : cm_R} (hf : cm_fl y.1.cls idx ci k kd fin) (hi : fin = false ∨ (y.1.name = "<init>" ∧ cm_fo y.1.cls idx ci k)) (hd : ds[a]? = some (.inr ci))
    (hv : (kd = 0 ∧ ∃ x, v = .int x ∧ I' = cm_u I a k x ∧ L' = L ∧ R' = R) ∨ (kd = 3 ∧ ∃ x, v = .int x ∧ (x = 0 ∨ x = 1) ∧ I' = cm_u I a k x ∧ L' = L ∧ R' = R) ∨ (kd = 1 ∧ ∃ x, v = .long x ∧ L' = cm_u L a k x ∧ I' = I ∧ R' = R) ∨ (kd = 2 ∧ ∃ x, v = cm_rv x ∧ R' = cm_u R a k x ∧ I' = I ∧ L' = L))
    (kk : cm_Ex l g d mc ms y pc' ls st I' L' R' ds Q) : cm_Ex l g d mc ms y pc ls (v :: .ref a :: st) I L R ds Q := by
  obtain ⟨hdg, rfl⟩ := hq
  obtain ⟨Cn, T, N, ty, h1, h2, h3, h4, h5, h6, h8, h9, t0, t1, t3, t2⟩ := hf
  intro p e Rm s m args below meth c H locs cells slots kc ks als C w hS hl hr
  have hts : ∀ w ∈ cm_ws y, w.before args s = true := C.2.2.2.2.2.1
  have hin : ∀ w ∈ u_ws Cn T N, w ∈ cm_ws y := fun w hw => List.mem_cons_of_mem _ (h2 w hw)
  have hK := C.2.2.2.2.2.2.2.2.2.1
  have hap := va_apart (own := y.1.cls) hts hin ty h3 h4 hK h1
  obtain ⟨r, hr1, cell, q1, q2, q3, q4⟩ := w.1 a _ (cm_cells_at g I L R hd)
  have hrr : r = (Cn, T, N) := Option.some.inj (hr1.symm.trans h1)
  subst hrr
  obtain ⟨hS', hfc, kC, hkC, hkind⟩ := hK.1 ci _ h1
  obtain ⟨cf, kf, fi, f, hi', hsl⟩ := hS' k h5
  have hlay := hts _ (hin _ (u_in_lay h5))
  unfold u_lay at hlay
  have hst := (u_facts hfc hkC (u_lays hts hin h5) hi').1
  have hnf : narrow (ty k) (cm_em g v) = cm_em g v ∧ fits (ty k) (cm_em g v) = true ∧ cm_em g (cm_sv I' L' R' a k kd) = cm_em g v ∧ (∀ b, b ≠ a → I' b = I b) ∧ (∀ b, b ≠ a → L' b = L b) ∧ (∀ b, b ≠ a → R' b = R b) ∧ (∀ j, j ≠ k → I' a j = I a j) ∧ (∀ j, j ≠ k → L' a j = L a j) ∧ (∀ j, j ≠ k → R' a j = R a j) := by
    rcases hv with ⟨hk, x, rfl, rfl, rfl, rfl⟩ | ⟨hk, x, rfl, hx, rfl, rfl, rfl⟩ | ⟨hk, x, rfl, rfl, rfl, rfl⟩ | ⟨hk, x, rfl, rfl, rfl, rfl⟩
    · rw [t0 hk]
      exact ⟨rfl, rfl, by subst hk; simp [cm_sv, cm_u], fun b hb => cm_u_ne hb, fun _ _ => rfl, fun _ _ => rfl, fun j hj => by simp [cm_u, hj], fun _ _ => rfl, fun _ _ => rfl⟩
    · rw [t3 hk]
      refine ⟨?_, ?_, by subst hk; simp [cm_sv, cm_u], fun b hb => cm_u_ne hb, fun _ _ => rfl, fun _ _ => rfl, fun j hj => by simp [cm_u, hj], fun _ _ => rfl, fun _ _ => rfl⟩
      · rcases hx with rfl | rfl <;> rfl
      · rcases hx with rfl | rfl <;> rfl
    · rw [t1 hk]
      exact ⟨rfl, rfl, by subst hk; simp [cm_sv, cm_u], fun _ _ => rfl, fun b hb => cm_u_ne hb, fun _ _ => rfl, fun _ _ => rfl, fun j hj => by simp [cm_u, hj], fun _ _ => rfl⟩
    · refine ⟨?_, ?_, by subst hk; simp [cm_sv, cm_u], fun _ _ => rfl, fun _ _ => rfl, fun b hb => cm_u_ne hb, fun _ _ => rfl, fun _ _ => rfl, fun j hj => by simp [cm_u, hj]⟩
      · rcases t2 hk with ⟨n, hn⟩ | ⟨n, hn⟩ <;> rw [hn] <;> cases x <;> rfl
      · rcases t2 hk with ⟨n, hn⟩ | ⟨n, hn⟩ <;> rw [hn] <;> cases x <;> rfl
  obtain ⟨n1, n2, n3, n4, n5, n6, n7, n8, n9⟩ := hnf
  have fin' : ∀ (H' : Heap), H'[g.1 + a]? = some (cell.setSlot f.slot (cm_em g v)) → H'.size = H.size → (∀ q, q ≠ g.1 + a → H'[q]? = H[q]?) → cm_Wd g I' L' R' ds H' ∧ va_S (cm_A g) s.heap H' (locs ++ [⟨g.1 + a, f.slot⟩]) := by
    intro H' e1 e2 e3
    rw [hsl] at e1
    exact ⟨cm_Wd_set w hd ⟨_, h1, t_OB.to (V := updV (vp_V (cm_fs g I L R a ci)) k (cm_em g v)) ⟨_, e1, q2, q3, t_set q4 hap h5 (cm_em g v)⟩ (fun j _ => cm_fs_upd h6 n3 n7 n8 n9 j)⟩ e2 e3 n4 n5 n6, hS.put e2 e3 (Nat.le_add_right _ _)⟩
  have hslot : f.slot < cell.slots.size := by rw [hsl]; exact k2_hasslot (q4 k h5)
  by_cases hfin : fin = true
  · subst hfin
    rw [if_pos h9] at hlay
    obtain ⟨hni, hfo⟩ : y.1.name = "<init>" ∧ cm_fo y.1.cls idx ci k := by
      rcases hi with h | h
      · cases h
      · exact h
    obtain ⟨h10, hlk⟩ := hfo _ _ _ h1
    have hcf : m.cls = cf := by
      obtain ⟨_, _, c', _, _, _, -, -, hf', -, -, -, hown2, -⟩ := Cond.laysFinal_spec hlay
      have e1 : c' = cf := by have := hi'.symm.trans hf'; simp at this; exact this.1.symm
      rw [h10] at hown2
      rw [← e1]; exact Option.some.inj (C.2.2.2.2.1.symm.trans hown2)
    have h6' := u_fits hfc hkC hkind (Or.inr hlay) hi' (h3 k h5) n1 n2
    have hnm : meth.name = "<init>" := by
      rw [C.2.2.2.2.2.2.1]
      exact hni
    refine W.putFinK C.1 C.2.1 C.2.2.2.2.1 (hts _ (List.mem_cons_of_mem _ hlk)) hi' hst hcf hnm (by rw [q2]; exact h6') q1 q3 hslot rfl rfl hdg fun H' e1 e2 e3 => ?_
    obtain ⟨f1, f2⟩ := fin' H' e1 e2 e3
    exact kk p e Rm s m args below meth c H' _ cells slots kc ks als C f1 f2 hl hr
  · have hfin : fin = false := by cases fin <;> simp_all
    subst hfin
    rw [if_neg (by rw [h9]; decide)] at hlay
    have h6' := u_store hfc hkC hkind hlay hi' (h3 k h5) n1 n2
    rcases h8 with h8 | ⟨host, h8⟩
    · refine W.putK C.1 C.2.1 (f := f) ⟨C.2.2.2.2.1, hts _ (List.mem_cons_of_mem _ h8), ⟨_, _, _, hi'⟩, hst⟩ (by rw [q2]; exact h6') q1 q3 hslot rfl rfl hdg fun H' e1 e2 e3 => ?_
      obtain ⟨f1, f2⟩ := fin' H' e1 e2 e3
      exact kk p e Rm s m args below meth c H' _ cells slots kc ks als C f1 f2 hl hr
    · refine va_WputK C.1 C.2.1 (f := f) C.2.2.2.2.1 (va_Nw.use rfl (C.2.2.2.2.2.2.2.2.1.1.1 _ h8)) hi' hst (by rw [q2]; exact h6') q1 q3 hslot rfl rfl hdg fun H' e1 e2 e3 => ?_
      obtain ⟨f1, f2⟩ := fin' H' e1 e2 e3
      exact kk p e Rm s m args below meth c H' _ cells slots kc ks als C f1 f2 hl hr
theorem x_putI {idx : Nat} (hq : cm_N y pc (.putfield idx) 3 pc') {ci k a : Nat} {fin : Bool} {x : Int32} (hf : cm_fl y.1.cls idx ci k 0 fin) (hi : fin = false ∨ (y.1.name = "<init>" ∧ cm_fo y.1.cls idx ci k)) (hd : ds[a]? = some (.inr ci)) (kk : cm_Ex l g d mc ms y pc' ls st (cm_u I a k x) L R ds Q) : cm_Ex l g d mc ms y pc ls (.int x :: .ref a :: st) I L R ds Q :=
  x_putf hq hf hi hd (Or.inl ⟨rfl, x, rfl, rfl, rfl, rfl⟩) kk
theorem x_putZ {idx : Nat} (hq : cm_N y pc (.putfield idx) 3 pc') {ci k a : Nat} {fin : Bool} {x : Int32} (hf : cm_fl y.1.cls idx ci k 3 fin) (hi : fin = false ∨ (y.1.name = "<init>" ∧ cm_fo y.1.cls idx ci k)) (hd : ds[a]? = some (.inr ci)) (hx : x = 0 ∨ x = 1) (kk : cm_Ex l g d mc ms y pc' ls st (cm_u I a k x) L R ds Q) : cm_Ex l g d mc ms y pc ls (.int x :: .ref a :: st) I L R ds Q :=
  x_putf hq hf hi hd (Or.inr (Or.inl ⟨rfl, x, rfl, hx, rfl, rfl, rfl⟩)) kk
theorem x_putL {idx : Nat} (hq : cm_N y pc (.putfield idx) 3 pc') {ci k a : Nat} {fin : Bool} {x : Int64} (hf : cm_fl y.1.cls idx ci k 1 fin) (hi : fin = false ∨ (y.1.name = "<init>" ∧ cm_fo y.1.cls idx ci k)) (hd : ds[a]? = some (.inr ci)) (kk : cm_Ex l g d mc ms y pc' ls st I (cm_u L a k x) R ds Q) : cm_Ex l g d mc ms y pc ls (.long x :: .ref a :: st) I L R ds Q :=
  x_putf hq hf hi hd (Or.inr (Or.inr (Or.inl ⟨rfl, x, rfl, rfl, rfl, rfl⟩))) kk
theorem x_putR {idx : Nat} (hq : cm_N y pc (.putfield idx) 3 pc') {ci k a : Nat} {fin : Bool} {x : Option Nat} {v : Value} (hf : cm_fl y.1.cls idx ci k 2 fin) (hi : fin = false ∨ (y.1.name = "<init>" ∧ cm_fo y.1.cls idx ci k)) (hd : ds[a]? = some (.inr ci)) (hv : v = cm_rv x) (kk : cm_Ex l g d mc ms y pc' ls st I L (cm_u R a k x) ds Q) : cm_Ex l g d mc ms y pc ls (v :: .ref a :: st) I L R ds Q :=
  x_putf hq hf hi hd (Or.inr (Or.inr (Or.inr ⟨rfl, x, hv, rfl, rfl, rfl⟩))) kk
theorem x_getI {idx : Nat} (hq : cm_N y pc (.getfield idx) 3 pc') {ci k a : Nat} {fin : Bool} (hf : cm_fl y.1.cls idx ci k 0 fin) (hd : ds[a]? = some (.inr ci)) (kk : cm_Ex l g d mc ms y pc' ls (.int (I a k) :: st) I L R ds Q) : cm_Ex l g d mc ms y pc ls (.ref a :: st) I L R ds Q := x_getf hq hf hd kk
theorem x_getZ {idx : Nat} (hq : cm_N y pc (.getfield idx) 3 pc') {ci k a : Nat} {fin : Bool} (hf : cm_fl y.1.cls idx ci k 3 fin) (hd : ds[a]? = some (.inr ci)) (kk : cm_Ex l g d mc ms y pc' ls (.int (I a k) :: st) I L R ds Q) : cm_Ex l g d mc ms y pc ls (.ref a :: st) I L R ds Q := x_getf hq hf hd kk
theorem x_getL {idx : Nat} (hq : cm_N y pc (.getfield idx) 3 pc') {ci k a : Nat} {fin : Bool} (hf : cm_fl y.1.cls idx ci k 1 fin) (hd : ds[a]? = some (.inr ci)) (kk : cm_Ex l g d mc ms y pc' ls (.long (L a k) :: st) I L R ds Q) : cm_Ex l g d mc ms y pc ls (.ref a :: st) I L R ds Q := x_getf hq hf hd kk
theorem x_getR {idx : Nat} (hq : cm_N y pc (.getfield idx) 3 pc') {ci k a : Nat} {fin : Bool} (hf : cm_fl y.1.cls idx ci k 2 fin) (hd : ds[a]? = some (.inr ci)) {o : Option Nat} (ho : R a k = o) (kk : cm_Ex l g d mc ms y pc' ls (cm_rv o :: st) I L R ds Q) : cm_Ex l g d mc ms y pc ls (.ref a :: st) I L R ds Q := by subst ho; exact x_getf hq hf hd kk
end CM
