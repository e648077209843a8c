/-! the reference: alike -/
def nmT (a t : Nat) : Bool := decide (t < 5000 ∧ t / 1000 = a)
theorem nmd_tb {k : Nat} : ∀ {ts : List Nat} {a : Nat}, (ts.foldl (fun a t => if t < 5000 then a ||| 2 ^ (t / 1000) else a) a).testBit k = (a.testBit k || ts.any (nmT k)) := by
  intro ts
  induction ts with
  | nil => intro a; show a.testBit k = (a.testBit k || false); rw [Bool.or_false]
  | cons t ts ih =>
    intro a
    rw [List.foldl_cons, ih, List.any_cons]
    unfold nmT
    by_cases h : t < 5000
    · rw [if_pos h, Nat.testBit_or, Nat.testBit_two_pow, Bool.or_assoc]
      congr 2
      simp [h]
    · rw [if_neg h]
      simp [h]
theorem nmb_any {cs : List Cls} {a : Nat} : nmb cs a = cs.any (fun cl => cl.2.2.2.any (nmT a)) := by
  have e1 : nmb cs a = (nmd (btk cs)).testBit a := by
    unfold nmb
    rw [Nat.testBit_eq_decide_div_mod_eq]
  rw [e1]
  unfold nmd
  rw [nmd_tb, Nat.zero_testBit, Bool.false_or]
  unfold btk
  rw [List.any_flatMap]
theorem alk_sym {kd mm : Nat → Nat} {cs : List Cls} {a b : Nat} : alk kd mm cs a b = alk kd mm cs b a := by
  unfold alk
  by_cases h1 : kd a = kd b
  · by_cases h2 : mm a = mm b
    · rw [h2, decide_eq_true h1, decide_eq_true h1.symm]
      have e : (fun k => !(decide (lst 0 (4 * a + k) cs = lst 0 (4 * b + k) cs) && decide (lst 1 (4 * a + k) cs = lst 1 (4 * b + k) cs))) = (fun k => !(decide (lst 0 (4 * b + k) cs = lst 0 (4 * a + k) cs) && decide (lst 1 (4 * b + k) cs = lst 1 (4 * a + k) cs))) := by
        funext k
        rw [show decide (lst 0 (4 * a + k) cs = lst 0 (4 * b + k) cs) = decide (lst 0 (4 * b + k) cs = lst 0 (4 * a + k) cs) from decide_eq_decide.mpr ⟨Eq.symm, Eq.symm⟩, show decide (lst 1 (4 * a + k) cs = lst 1 (4 * b + k) cs) = decide (lst 1 (4 * b + k) cs = lst 1 (4 * a + k) cs) from decide_eq_decide.mpr ⟨Eq.symm, Eq.symm⟩]
      rw [e]
      cases nmb cs a <;> cases nmb cs b <;> rfl
    · rw [decide_eq_false h2, decide_eq_false (show ¬ mm b = mm a from fun e => h2 e.symm), Bool.false_and, Bool.false_and, Bool.and_false, Bool.and_false]
  · rw [decide_eq_false h1, decide_eq_false (show ¬ kd b = kd a from fun e => h1 e.symm), Bool.false_and, Bool.false_and]
theorem ali_sum {f : Nat → Nat → Nat} (hf : ∀ a b, f a b = f b a) : ∀ n, n ≤ 4 → sfr (fun a => sfr (f a) (n - (a + 1)) (a + 1)) n 0 = sumW (fun a => sumW (f a) a) n := by
  intro n hn
  rcases (by omega : n = 0 ∨ n = 1 ∨ n = 2 ∨ n = 3 ∨ n = 4) with rfl | rfl | rfl | rfl | rfl
  · rfl
  · rfl
  · show f 0 1 + 0 + (0 + 0) = 0 + 0 + (0 + f 1 0)
    rw [hf 1 0]; omega
  · show (f 0 1 + (f 0 2 + 0)) + ((f 1 2 + 0) + (0 + 0)) = ((0 + 0) + (0 + f 1 0)) + ((0 + f 2 0) + f 2 1)
    rw [hf 1 0, hf 2 0, hf 2 1]; omega
  · show (f 0 1 + (f 0 2 + (f 0 3 + 0))) + ((f 1 2 + (f 1 3 + 0)) + ((f 2 3 + 0) + (0 + 0))) = (((0 + 0) + (0 + f 1 0)) + ((0 + f 2 0) + f 2 1)) + (((0 + f 3 0) + f 3 1) + f 3 2)
    rw [hf 1 0, hf 2 0, hf 2 1, hf 3 0, hf 3 1, hf 3 2]; omega
section M23
variable {l : Launch} {g : cm_G} {I : cm_I} {L : cm_L} {hr tl : Option Nat} {Q : cm_Post} {u : Nat} {n : Nat} {kd mm : Nat → Nat} {len : Nat} {tx : Nat → Nat} {hs : List (List Cls)} {hx c1 : Nat} {w1 : Nat → Nat} {c2 : Nat} {w2 : Nat → Nat} {im : IM} {s : List Nat} {tp : TP}
theorem c_X12_stands {cs : List Cls} {a : Nat} (K : HK hx cs I) (ha : a < 5) (hQ : Q (some (.int (b2I (nmb cs a)))) I L (RR u hr tl) (DD u)) : cm_Ex l g 2 0 0 mX12_stands 0 [.ref 73, .int (nI a), .float 0, .float 0] [] I L (RR u hr tl) (DD u) Q := by
  obtain ⟨l12, l72, at_⟩ := HK_at K
  rw [nmb_any] at hQ
  have loop : ∀ (rest : List Cls) j (a3 : Value), cs.drop j = rest → j ≤ cs.length → Q (some (.int (b2I (rest.any (fun cl => cl.2.2.2.any (nmT a)))))) I L (RR u hr tl) (DD u) → cm_Ex l g 2 0 0 mX12_stands 5 [.ref 73, .int (nI a), .int (nI (fsN hx + j)), a3] [] I L (RR u hr tl) (DD u) Q := by
    intro rest
    induction rest with
    | nil =>
      intro j a3 hd hj hq
      have hjl : cs.length ≤ j := List.drop_eq_nil_iff.mp hd
      refine x_ildn qX12_stands_5 rfl ?_
      refine x_aldn qX12_stands_6 rfl trivial ?_
      refine x_cV0 (d' := 1) qX12_stands_7 cX12_214 rfl ⟨_, rfl, rfl⟩ rfl rfl (Nat.le_of_ble_eq_true rfl) (Nat.le_of_ble_eq_true rfl) (by decide) ?_
      refine c_X12_behind K ?_
      refine x_icmp_ge_nt (tgt := 80) qX12_stands_10 (by omega) (by omega) (by omega) (by omega) ?_
      refine x_iconst (v := nI 0) qX12_stands_80 rfl ?_
      refine x_iret qX12_stands_81 rfl rfl ?_
      exact hq
    | cons cl rest ih =>
      intro j a3 hd hj hq
      have hjl : j < cs.length := by
        by_cases e : j < cs.length
        · exact e
        · rw [List.drop_eq_nil_iff.mpr (by omega)] at hd; cases hd
      have hcl : cs[j]? = some cl := by
        have := congrArg (fun x => x[0]?) hd
        simpa using this
      have hd2 : cs.drop (j + 1) = rest := by
        have := congrArg List.tail hd
        simpa using this
      have Mc := at_ j cl hcl
      have m2 := Mc.2.1
      rw [List.any_cons] at hq
      have hx6 : hx < 6 := by
        rcases K.2 with q | q
        · exact q.1
        · rw [q.2] at hcl; cases hcl
      have nx : (cl.2.2.2.any (nmT a)) = false → ∀ a3 : Value, cm_Ex l g 2 0 0 mX12_stands 74 [.ref 73, .int (nI a), .int (nI (fsN hx + j)), a3] [] I L (RR u hr tl) (DD u) Q := fun e a3 => by
        rw [e, Bool.false_or] at hq
        refine x_iinc2 qX12_stands_74 (by decide) (cm_inc _) rfl ?_
        refine x_goto (tgt := 5) qX12_stands_77 (by omega) ?_
        exact ih (j + 1) a3 hd2 (by omega) hq
      refine x_ildn qX12_stands_5 rfl ?_
      refine x_aldn qX12_stands_6 rfl trivial ?_
      refine x_cV0 (d' := 1) qX12_stands_7 cX12_214 rfl ⟨_, rfl, rfl⟩ rfl rfl (Nat.le_of_ble_eq_true rfl) (Nat.le_of_ble_eq_true rfl) (by decide) ?_
      refine c_X12_behind K ?_
      refine x_icmp_ge_nf (tgt := 80) qX12_stands_10 (by omega) (by omega) (by omega) (by omega) ?_
      refine x_aldn qX12_stands_13 rfl trivial ?_
      refine x_getR qX12_stands_14 fX12_44 rfl rfl ?_
      refine x_ildn qX12_stands_17 rfl ?_
      refine x_ialde qX12_stands_18 dd_78 rfl (by omega) (by decide) Mc.1 ?_
      refine x_iconst (v := nI 2) qX12_stands_19 rfl ?_
      refine x_icmp_eq_n (tgt := 26) qX12_stands_20 (by omega) (by omega) (by omega) (fun e => ?_) (fun e => ?_)
      · obtain ⟨o, b1, b2, b3, b4, b5, b6, b7, b8, b9⟩ := Mc.2.2.2.2.2 e
        have inn : ∀ (r2 : List Nat) k, cl.2.2.2.drop k = r2 → k ≤ cl.2.2.2.length → (cl.2.2.2.any (nmT a)) = r2.any (nmT a) → cm_Ex l g 2 0 0 mX12_stands 33 [.ref 73, .int (nI a), .int (nI (fsN hx + j)), .int (nI (o + k))] [] I L (RR u hr tl) (DD u) Q := by
          intro r2
          induction r2 with
          | nil =>
            intro k hd hk he
            have hkl : cl.2.2.2.length ≤ k := List.drop_eq_nil_iff.mp hd
            refine x_ildn qX12_stands_33 rfl ?_
            refine x_aldn qX12_stands_34 rfl trivial ?_
            refine x_getR qX12_stands_35 fX12_56 rfl rfl ?_
            refine x_ildn qX12_stands_38 rfl ?_
            refine x_ialde qX12_stands_39 dd_82 rfl (by omega) (by decide) b2 ?_
            refine x_icmp_ge_nt (tgt := 74) qX12_stands_40 (by omega) (by omega) (by omega) (by omega) ?_
            exact nx (by rw [he]; rfl) _
          | cons t r2 ih2 =>
            intro k hd hk he
            have hkl : k < cl.2.2.2.length := by
              by_cases e : k < cl.2.2.2.length
              · exact e
              · rw [List.drop_eq_nil_iff.mpr (by omega)] at hd; cases hd
            have ht : cl.2.2.2[k]? = some t := by
              have := congrArg (fun x => x[0]?) hd
              simpa using this
            have hd2 : cl.2.2.2.drop (k + 1) = r2 := by
              have := congrArg List.tail hd
              simpa using this
            have e83 := b5 k t ht
            have ht5 := b6 t (List.mem_of_getElem? ht)
            rw [List.any_cons] at he
            have nx2 : nmT a t = false → cm_Ex l g 2 0 0 mX12_stands 68 [.ref 73, .int (nI a), .int (nI (fsN hx + j)), .int (nI (o + k))] [] I L (RR u hr tl) (DD u) Q := fun e => by
              rw [e, Bool.false_or] at he
              refine x_iinc3 qX12_stands_68 (by decide) (cm_inc _) rfl ?_
              refine x_goto (tgt := 33) qX12_stands_71 (by omega) ?_
              exact ih2 (k + 1) hd2 (by omega) he
            refine x_ildn qX12_stands_33 rfl ?_
            refine x_aldn qX12_stands_34 rfl trivial ?_
            refine x_getR qX12_stands_35 fX12_56 rfl rfl ?_
            refine x_ildn qX12_stands_38 rfl ?_
            refine x_ialde qX12_stands_39 dd_82 rfl (by omega) (by decide) b2 ?_
            refine x_icmp_ge_nf (tgt := 74) qX12_stands_40 (by omega) (by omega) (by omega) (by omega) ?_
            by_cases t5 : t < 5000
            · have er : rtk t = nI t := by unfold rtk; rw [if_neg (by omega), if_neg (by omega), if_neg (by omega)]
              rw [er] at e83
              refine x_aldn qX12_stands_43 rfl trivial ?_
              refine x_getR qX12_stands_44 fX12_59 rfl rfl ?_
              refine x_ildn qX12_stands_47 rfl ?_
              refine x_ialde qX12_stands_48 dd_83 rfl (by omega) (by decide) e83 ?_
              refine x_if_lt_nf (tgt := 68) qX12_stands_49 (by omega) (by omega) ?_
              refine x_aldn qX12_stands_52 rfl trivial ?_
              refine x_getR qX12_stands_53 fX12_59 rfl rfl ?_
              refine x_ildn qX12_stands_56 rfl ?_
              refine x_ialde qX12_stands_57 dd_83 rfl (by omega) (by decide) e83 ?_
              refine x_sipush (v := nI 1000) qX12_stands_58 rfl ?_
              refine x_idiv_n qX12_stands_61 (by omega) (by omega) (by omega) ?_
              refine x_ildn qX12_stands_62 rfl ?_
              refine x_icmp_ne_n (tgt := 68) qX12_stands_63 (by omega) (by omega) (by omega) (fun e => ?_) (fun e => ?_)
              · exact nx2 (by unfold nmT; rw [decide_eq_false]; exact fun q => e q.2)
              · have en : nmT a t = true := by unfold nmT; rw [decide_eq_true]; exact ⟨t5, e⟩
                rw [en] at he
                rw [he] at hq
                refine x_iconst (v := nI 1) qX12_stands_66 rfl ?_
                refine x_iret qX12_stands_67 rfl rfl ?_
                exact hq
            · have en : nmT a t = false := by unfold nmT; rw [decide_eq_false]; exact fun q => t5 q.1
              have neg : ∃ v, rtk t = v ∧ v < 0 := by
                rcases ht5 with e | e | e | e
                · exact absurd e t5
                · subst e; exact ⟨-33, rfl, by decide⟩
                · subst e; exact ⟨-38, rfl, by decide⟩
                · subst e; exact ⟨-124, rfl, by decide⟩
              obtain ⟨v, ev, hv⟩ := neg
              rw [ev] at e83
              refine x_aldn qX12_stands_43 rfl trivial ?_
              refine x_getR qX12_stands_44 fX12_59 rfl rfl ?_
              refine x_ildn qX12_stands_47 rfl ?_
              refine x_ialde qX12_stands_48 dd_83 rfl (by omega) (by decide) e83 ?_
              refine x_if_lt_t (tgt := 68) qX12_stands_49 (by omega) hv ?_
              exact nx2 en
        refine x_aldn qX12_stands_26 rfl trivial ?_
        refine x_getR qX12_stands_27 fX12_53 rfl rfl ?_
        refine x_ildn qX12_stands_30 rfl ?_
        refine x_ialde qX12_stands_31 dd_81 rfl (by omega) (by decide) b1 ?_
        refine x_ist3 qX12_stands_32 (by decide) rfl ?_
        exact inn cl.2.2.2 0 rfl (by omega) rfl
      · refine x_goto (tgt := 74) qX12_stands_23 (by omega) ?_
        exact nx (by rw [(Mc.2.2.2.1 e).2]; rfl) _
  refine x_aldn qX12_stands_0 rfl trivial ?_
  refine x_cV0 (d' := 1) qX12_stands_1 cX12_211 rfl ⟨_, rfl, rfl⟩ rfl rfl (Nat.le_of_ble_eq_true rfl) (Nat.le_of_ble_eq_true rfl) (by decide) ?_
  refine c_X12_first K ?_
  refine x_ist2 qX12_stands_4 (by decide) rfl ?_
  exact loop cs 0 _ rfl (by omega) hQ
theorem c_X12_areAlike {cs : List Cls} {a b : Nat} (H : MH n kd mm I) (K : HK hx cs I) (ha : a < n) (hb : b < n) (hQ : Q (some (.int (b2I (alk kd mm cs a b)))) I L (RR u hr tl) (DD u)) : cm_Ex l g 3 0 0 mX12_areAlike 0 [.ref 73, .int (nI a), .int (nI b), .float 0] [] I L (RR u hr tl) (DD u) Q := by
  obtain ⟨h4, ho, hkk, h64, h0, h1, hi⟩ := id H
  have ka := hkk a ha
  have kb := hkk b hb
  have ma := ho a ha
  have mb := ho b hb
  have l9 : ∀ w i, lst w i cs ≤ 999 := fun w i => lst_le (HK_999 K)
  have fls : alk kd mm cs a b = false → cm_Ex l g 3 0 0 mX12_areAlike 46 [.ref 73, .int (nI a), .int (nI b), .float 0] [] I L (RR u hr tl) (DD u) Q := fun e => by
    rw [e] at hQ
    refine x_iconst (v := nI 0) qX12_areAlike_46 rfl ?_
    refine x_iret qX12_areAlike_47 rfl rfl ?_
    exact hQ
  refine x_aldn qX12_areAlike_0 rfl trivial ?_
  refine x_getR qX12_areAlike_1 fX12_16 rfl rfl ?_
  refine x_ildn qX12_areAlike_4 rfl ?_
  refine x_ialde qX12_areAlike_5 dd_74 rfl (by omega) (by decide) (hi a ha).1 ?_
  refine x_aldn qX12_areAlike_6 rfl trivial ?_
  refine x_getR qX12_areAlike_7 fX12_16 rfl rfl ?_
  refine x_ildn qX12_areAlike_10 rfl ?_
  refine x_ialde qX12_areAlike_11 dd_74 rfl (by omega) (by decide) (hi b hb).1 ?_
  refine x_icmp_ne_n (tgt := 46) qX12_areAlike_12 (by omega) (by omega) (by omega) (fun e => ?_) (fun e1 => ?_)
  · exact fls (by unfold alk; rw [decide_eq_false e]; rfl)
  · refine x_aldn qX12_areAlike_15 rfl trivial ?_
    refine x_getR qX12_areAlike_16 fX12_20 rfl rfl ?_
    refine x_ildn qX12_areAlike_19 rfl ?_
    refine x_ialde qX12_areAlike_20 dd_75 rfl (by omega) (by decide) (hi a ha).2 ?_
    refine x_aldn qX12_areAlike_21 rfl trivial ?_
    refine x_getR qX12_areAlike_22 fX12_20 rfl rfl ?_
    refine x_ildn qX12_areAlike_25 rfl ?_
    refine x_ialde qX12_areAlike_26 dd_75 rfl (by omega) (by decide) (hi b hb).2 ?_
    refine x_icmp_ne_n (tgt := 46) qX12_areAlike_27 (by omega) (by omega) (by omega) (fun e => ?_) (fun e2 => ?_)
    · exact fls (by unfold alk; rw [decide_eq_false e]; simp)
    · refine x_aldn qX12_areAlike_30 rfl trivial ?_
      refine x_ildn qX12_areAlike_31 rfl ?_
      refine x_cV1 (d' := 2) qX12_areAlike_32 cX12_266 rfl ⟨_, rfl, rfl⟩ rfl rfl (Nat.le_of_ble_eq_true rfl) (Nat.le_of_ble_eq_true rfl) (by decide) ?_
      refine c_X12_stands K (by omega) ?_
      cases e3 : nmb cs a with
      | true =>
        refine x_if_ne_t (tgt := 46) qX12_areAlike_35 (by omega) (by decide) ?_
        exact fls (by unfold alk; rw [e3]; simp)
      | false =>
        refine x_if_ne_f (tgt := 46) qX12_areAlike_35 (by omega) (by decide) ?_
        refine x_aldn qX12_areAlike_38 rfl trivial ?_
        refine x_ildn qX12_areAlike_39 rfl ?_
        refine x_cV1 (d' := 2) qX12_areAlike_40 cX12_266 rfl ⟨_, rfl, rfl⟩ rfl rfl (Nat.le_of_ble_eq_true rfl) (Nat.le_of_ble_eq_true rfl) (by decide) ?_
        refine c_X12_stands K (by omega) ?_
        cases e4 : nmb cs b with
        | true =>
          refine x_if_eq_f (tgt := 48) qX12_areAlike_43 (by omega) (by decide) ?_
          exact fls (by unfold alk; rw [e4]; simp)
        | false =>
          have ev : alk kd mm cs a b = !(exb (fun k => !(decide (lst 0 (4 * a + k) cs = lst 0 (4 * b + k) cs) && decide (lst 1 (4 * a + k) cs = lst 1 (4 * b + k) cs))) (mm a)) := by
            unfold alk; rw [decide_eq_true e1, decide_eq_true e2, e3, e4]; rfl
          rw [ev] at hQ
          have loop : ∀ m k, k + m = mm a → exb (fun k => !(decide (lst 0 (4 * a + k) cs = lst 0 (4 * b + k) cs) && decide (lst 1 (4 * a + k) cs = lst 1 (4 * b + k) cs))) k = false → cm_Ex l g 3 0 0 mX12_areAlike 50 [.ref 73, .int (nI a), .int (nI b), .int (nI k)] [] I L (RR u hr tl) (DD u) Q := by
            intro m
            induction m with
            | zero =>
              intro k hk he
              have e : k = mm a := by omega
              rw [e] at he ⊢
              rw [he] at hQ
              refine x_ildn qX12_areAlike_50 rfl ?_
              refine x_aldn qX12_areAlike_51 rfl trivial ?_
              refine x_getR qX12_areAlike_52 fX12_20 rfl rfl ?_
              refine x_ildn qX12_areAlike_55 rfl ?_
              refine x_ialde qX12_areAlike_56 dd_75 rfl (by omega) (by decide) (hi a ha).2 ?_
              refine x_icmp_ge_nt (tgt := 114) qX12_areAlike_57 (by omega) (by omega) (by omega) (by omega) ?_
              refine x_iconst (v := nI 1) qX12_areAlike_114 rfl ?_
              refine x_iret qX12_areAlike_115 rfl rfl ?_
              exact hQ
            | succ m ih =>
              intro k hk he
              have f1 := l9 0 (4 * a + k)
              have f2 := l9 0 (4 * b + k)
              have f3 := l9 1 (4 * a + k)
              have f4 := l9 1 (4 * b + k)
              have bad : (!(decide (lst 0 (4 * a + k) cs = lst 0 (4 * b + k) cs) && decide (lst 1 (4 * a + k) cs = lst 1 (4 * b + k) cs))) = true → cm_Ex l g 3 0 0 mX12_areAlike 106 [.ref 73, .int (nI a), .int (nI b), .int (nI k)] [] I L (RR u hr tl) (DD u) Q := fun e => by
                rw [exb_iff.mpr ⟨k, by omega, e⟩] at hQ
                refine x_iconst (v := nI 0) qX12_areAlike_106 rfl ?_
                refine x_iret qX12_areAlike_107 rfl rfl ?_
                exact hQ
              refine x_ildn qX12_areAlike_50 rfl ?_
              refine x_aldn qX12_areAlike_51 rfl trivial ?_
              refine x_getR qX12_areAlike_52 fX12_20 rfl rfl ?_
              refine x_ildn qX12_areAlike_55 rfl ?_
              refine x_ialde qX12_areAlike_56 dd_75 rfl (by omega) (by decide) (hi a ha).2 ?_
              refine x_icmp_ge_nf (tgt := 114) qX12_areAlike_57 (by omega) (by omega) (by omega) (by omega) ?_
              refine x_aldn qX12_areAlike_60 rfl trivial ?_
              refine x_iconst (v := nI 0) qX12_areAlike_61 rfl ?_
              refine x_iconst (v := nI 4) qX12_areAlike_62 rfl ?_
              refine x_ildn qX12_areAlike_63 rfl ?_
              refine x_imul_n qX12_areAlike_64 ?_
              refine x_ildn qX12_areAlike_65 rfl ?_
              refine x_iadd_n qX12_areAlike_66 ?_
              refine x_cV2 (d' := 2) qX12_areAlike_67 cX12_217 rfl ⟨_, rfl, rfl⟩ rfl rfl (Nat.le_of_ble_eq_true rfl) (Nat.le_of_ble_eq_true rfl) (by decide) ?_
              refine c_X12_last K (Or.inl rfl) (by omega) ?_
              refine x_aldn qX12_areAlike_70 rfl trivial ?_
              refine x_iconst (v := nI 0) qX12_areAlike_71 rfl ?_
              refine x_iconst (v := nI 4) qX12_areAlike_72 rfl ?_
              refine x_ildn qX12_areAlike_73 rfl ?_
              refine x_imul_n qX12_areAlike_74 ?_
              refine x_ildn qX12_areAlike_75 rfl ?_
              refine x_iadd_n qX12_areAlike_76 ?_
              refine x_cV2 (d' := 2) qX12_areAlike_77 cX12_217 rfl ⟨_, rfl, rfl⟩ rfl rfl (Nat.le_of_ble_eq_true rfl) (Nat.le_of_ble_eq_true rfl) (by decide) ?_
              refine c_X12_last K (Or.inl rfl) (by omega) ?_
              refine x_icmp_ne_n (tgt := 106) qX12_areAlike_80 (by omega) (by omega) (by omega) (fun e5 => ?_) (fun e5 => ?_)
              · exact bad (by rw [decide_eq_false e5]; rfl)
              · refine x_aldn qX12_areAlike_83 rfl trivial ?_
                refine x_iconst (v := nI 1) qX12_areAlike_84 rfl ?_
                refine x_iconst (v := nI 4) qX12_areAlike_85 rfl ?_
                refine x_ildn qX12_areAlike_86 rfl ?_
                refine x_imul_n qX12_areAlike_87 ?_
                refine x_ildn qX12_areAlike_88 rfl ?_
                refine x_iadd_n qX12_areAlike_89 ?_
                refine x_cV2 (d' := 2) qX12_areAlike_90 cX12_217 rfl ⟨_, rfl, rfl⟩ rfl rfl (Nat.le_of_ble_eq_true rfl) (Nat.le_of_ble_eq_true rfl) (by decide) ?_
                refine c_X12_last K (Or.inr (Or.inl rfl)) (by omega) ?_
                refine x_aldn qX12_areAlike_93 rfl trivial ?_
                refine x_iconst (v := nI 1) qX12_areAlike_94 rfl ?_
                refine x_iconst (v := nI 4) qX12_areAlike_95 rfl ?_
                refine x_ildn qX12_areAlike_96 rfl ?_
                refine x_imul_n qX12_areAlike_97 ?_
                refine x_ildn qX12_areAlike_98 rfl ?_
                refine x_iadd_n qX12_areAlike_99 ?_
                refine x_cV2 (d' := 2) qX12_areAlike_100 cX12_217 rfl ⟨_, rfl, rfl⟩ rfl rfl (Nat.le_of_ble_eq_true rfl) (Nat.le_of_ble_eq_true rfl) (by decide) ?_
                refine c_X12_last K (Or.inr (Or.inl rfl)) (by omega) ?_
                refine x_icmp_eq_n (tgt := 108) qX12_areAlike_103 (by omega) (by omega) (by omega) (fun e6 => ?_) (fun e6 => ?_)
                · refine x_iinc3 qX12_areAlike_108 (by decide) (cm_inc _) rfl ?_
                  refine x_goto (tgt := 50) qX12_areAlike_111 (by omega) ?_
                  refine ih (k + 1) (by omega) ?_
                  rw [exb_s, he, decide_eq_true e5, decide_eq_true e6]; rfl
                · exact bad (by rw [decide_eq_false e6, Bool.and_false]; rfl)
          refine x_if_eq_t (tgt := 48) qX12_areAlike_43 (by omega) (by decide) ?_
          refine x_iconst (v := nI 0) qX12_areAlike_48 rfl ?_
          refine x_ist3 qX12_areAlike_49 (by decide) rfl ?_
          exact loop (mm a) 0 (by omega) rfl
theorem c_X12_alike (M : MI n kd mm len tx hs hx c1 w1 c2 w2 im s tp I L) (hQ : KMQ Q (.int (aliA n kd mm (hcs hs hx))) u hr tl (MI n kd mm len tx hs hx c1 w1 c2 w2 im s tp) I L) : cm_Ex l g 4 0 0 mX12_alike 0 [.ref 73, .float 0, .float 0, .float 0] [] I L (RR u hr tl) (DD u) Q := by
  have hq := hQ I L M KC_rfl
  obtain ⟨h4, ho, hkk, h64, h0, h1, hi⟩ := id M.1
  have K := MI_HK M
  have ev : aliA n kd mm (hcs hs hx) = nI (sumW (fun a => sumW (fun b => if alk kd mm (hcs hs hx) a b then 1 else 0) a) n) := by
    unfold aliA
    rw [ali_sum (f := fun a b => if alk kd mm (hcs hs hx) a b then 1 else 0) (fun a b => by rw [alk_sym]) n h4]
  rw [ev] at hq
  have loop : ∀ m a (a3 : Value), a + m = n → cm_Ex l g 4 0 0 mX12_alike 4 [.ref 73, .int (nI (sumW (fun a => sumW (fun b => if alk kd mm (hcs hs hx) a b then 1 else 0) a) a)), .int (nI a), a3] [] I L (RR u hr tl) (DD u) Q := by
    intro m
    induction m with
    | zero =>
      intro a a3 ha
      have e : a = n := by omega
      rw [e]
      refine x_ildn qX12_alike_4 rfl ?_
      refine x_aldn qX12_alike_5 rfl trivial ?_
      refine x_getIe qX12_alike_6 fX12_7 rfl h0 ?_
      refine x_icmp_ge_nt (tgt := 48) qX12_alike_9 (by omega) (by omega) (by omega) (by omega) ?_
      refine x_ildn qX12_alike_48 rfl ?_
      refine x_iret qX12_alike_49 rfl rfl ?_
      exact hq
    | succ m ih =>
      intro a a3 ha
      have es : sumW (fun a => sumW (fun b => if alk kd mm (hcs hs hx) a b then 1 else 0) a) (a + 1) = sumW (fun a => sumW (fun b => if alk kd mm (hcs hs hx) a b then 1 else 0) a) a + sumW (fun b => if alk kd mm (hcs hs hx) a b then 1 else 0) a := rfl
      have nx := fun a3 => ih (a + 1) a3 (by omega)
      rw [es] at nx
      generalize sumW (fun a => sumW (fun b => if alk kd mm (hcs hs hx) a b then 1 else 0) a) a = S at *
      have inn : ∀ k b, b + k = a → cm_Ex l g 4 0 0 mX12_alike 14 [.ref 73, .int (nI (S + sumW (fun b => if alk kd mm (hcs hs hx) a b then 1 else 0) b)), .int (nI a), .int (nI b)] [] I L (RR u hr tl) (DD u) Q := by
        intro k
        induction k with
        | zero =>
          intro b hb
          have e : b = a := by omega
          rw [e]
          refine x_ildn qX12_alike_14 rfl ?_
          refine x_ildn qX12_alike_15 rfl ?_
          refine x_icmp_ge_nt (tgt := 42) qX12_alike_16 (by omega) (by omega) (by omega) (by omega) ?_
          refine x_iinc2 qX12_alike_42 (by decide) (cm_inc _) rfl ?_
          refine x_goto (tgt := 4) qX12_alike_45 (by omega) ?_
          exact nx _
        | succ k ih2 =>
          intro b hb
          have es2 : sumW (fun b => if alk kd mm (hcs hs hx) a b then 1 else 0) (b + 1) = sumW (fun b => if alk kd mm (hcs hs hx) a b then 1 else 0) b + (if alk kd mm (hcs hs hx) a b then 1 else 0) := rfl
          have nx2 := ih2 (b + 1) (by omega)
          rw [es2, ← Nat.add_assoc] at nx2
          refine x_ildn qX12_alike_14 rfl ?_
          refine x_ildn qX12_alike_15 rfl ?_
          refine x_icmp_ge_nf (tgt := 42) qX12_alike_16 (by omega) (by omega) (by omega) (by omega) ?_
          refine x_ildn qX12_alike_19 rfl ?_
          refine x_aldn qX12_alike_20 rfl trivial ?_
          refine x_ildn qX12_alike_21 rfl ?_
          refine x_ildn qX12_alike_22 rfl ?_
          refine x_cV2 (d' := 3) qX12_alike_23 cX12_269 rfl ⟨_, rfl, rfl⟩ rfl rfl (Nat.le_of_ble_eq_true rfl) (Nat.le_of_ble_eq_true rfl) (by decide) ?_
          refine c_X12_areAlike M.1 K (by omega) (by omega) ?_
          cases hk : alk kd mm (hcs hs hx) a b with
          | true =>
            rw [hk] at nx2
            refine x_if_eq_f (tgt := 33) qX12_alike_26 (by omega) (by decide) ?_
            refine x_iconst (v := nI 1) qX12_alike_29 rfl ?_
            refine x_goto (tgt := 34) qX12_alike_30 (by omega) ?_
            refine x_iadd_n qX12_alike_34 ?_
            refine x_ist1 qX12_alike_35 (by decide) rfl ?_
            refine x_iinc3 qX12_alike_36 (by decide) (cm_inc _) rfl ?_
            refine x_goto (tgt := 14) qX12_alike_39 (by omega) ?_
            exact nx2
          | false =>
            rw [hk] at nx2
            refine x_if_eq_t (tgt := 33) qX12_alike_26 (by omega) (by decide) ?_
            refine x_iconst (v := nI 0) qX12_alike_33 rfl ?_
            refine x_iadd_n qX12_alike_34 ?_
            refine x_ist1 qX12_alike_35 (by decide) rfl ?_
            refine x_iinc3 qX12_alike_36 (by decide) (cm_inc _) rfl ?_
            refine x_goto (tgt := 14) qX12_alike_39 (by omega) ?_
            exact nx2
      refine x_ildn qX12_alike_4 rfl ?_
      refine x_aldn qX12_alike_5 rfl trivial ?_
      refine x_getIe qX12_alike_6 fX12_7 rfl h0 ?_
      refine x_icmp_ge_nf (tgt := 48) qX12_alike_9 (by omega) (by omega) (by omega) (by omega) ?_
      refine x_iconst (v := nI 0) qX12_alike_12 rfl ?_
      refine x_ist3 qX12_alike_13 (by decide) rfl ?_
      exact inn a 0 (by omega)
  refine x_iconst (v := nI 0) qX12_alike_0 rfl ?_
  refine x_ist1 qX12_alike_1 (by decide) rfl ?_
  refine x_iconst (v := nI 0) qX12_alike_2 rfl ?_
  refine x_ist2 qX12_alike_3 (by decide) rfl ?_
  exact loop n 0 _ (by omega)
end M23
