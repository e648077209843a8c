/-! Telling: countStep, howMany -/
theorem sumW_mod {f : Nat → Nat} {M : Nat} : ∀ {n : Nat}, sumW (fun i => f i % M) n % M = sumW f n % M := by
  intro n
  induction n with
  | zero => rfl
  | succ n ih =>
    simp only [sumW]
    rw [Nat.add_mod, ih, Nat.mod_mod, ← Nat.add_mod]
section K20
variable {l : Launch} {g : cm_G} {I : cm_I} {L : cm_L} {n len : Nat} {hr tl : Option Nat} {Q : cm_Post} {kd mm : Nat → Nat} {fit : Nat → Nat → Bool}
theorem c_X7_countStep {r : Nat} {fr : Nat → Bool} {c : Nat → Nat} (hr0 : r < 12) (h14 : I 23 14 = nI (wys mm n)) (H : HI n kd mm I L) (F : SB (L 25 r) (wys mm n) fr) (hc : ∀ w, w < wys mm n → I 30 w = nI (c w) ∧ c w < 1000003)
  (hQ : ∀ I', (∀ v, v < wys mm n → I' 30 v = nI (sumW (fun w => if nxt kd mm n w v && fr v then c w else 0) (wys mm n) % 1000003)) → (∀ b, b ≠ 30 → b ≠ 31 → I' b = I b) → Q none I' L (RR n hr tl) (DD n)) : cm_Ex l g 4 0 0 mX7_countStep 0 [.ref 23, .int (nI r), .float 0, .float 0, .float 0, .float 0] [] I L (RR n hr tl) (DD n) Q := by
  have hW : wys mm n ≤ 64 := H.2.2.2.1
  have copy : ∀ m w I' a3 a4 a5, w + m = wys mm n → (∀ b, b ≠ 30 → b ≠ 31 → I' b = I b) → (∀ v, v < wys mm n → I' 31 v = nI (sumW (fun w => if nxt kd mm n w v && fr v then c w else 0) (wys mm n) % 1000003)) → (∀ v, v < w → I' 30 v = nI (sumW (fun w => if nxt kd mm n w v && fr v then c w else 0) (wys mm n) % 1000003)) → cm_Ex l g 4 0 0 mX7_countStep 127 [.ref 23, .int (nI r), .int (nI w), a3, a4, a5] [] I' L (RR n hr tl) (DD n) Q := by
    intro m
    induction m with
    | zero =>
      intro w I' a3 a4 a5 hw hI h31 h30
      have e : w = wys mm n := by omega
      subst e
      refine x_ildn qX7_countStep_127 rfl ?_
      refine x_aldn qX7_countStep_128 rfl trivial ?_
      refine x_getIe qX7_countStep_129 fX7_51 rfl ((congrFun (hI 23 (by decide) (by decide)) 14).trans h14) ?_
      refine x_icmp_ge_nt (tgt := 153) qX7_countStep_132 (by omega) (by omega) (by omega) (by omega) ?_
      refine x_vret qX7_countStep_153 rfl ?_
      exact hQ I' h30 hI
    | succ m ih =>
      intro w I' a3 a4 a5 hw hI h31 h30
      refine x_ildn qX7_countStep_127 rfl ?_
      refine x_aldn qX7_countStep_128 rfl trivial ?_
      refine x_getIe qX7_countStep_129 fX7_51 rfl ((congrFun (hI 23 (by decide) (by decide)) 14).trans h14) ?_
      refine x_icmp_ge_nf (tgt := 153) qX7_countStep_132 (by omega) (by omega) (by omega) (by omega) ?_
      refine x_aldn qX7_countStep_135 rfl trivial ?_
      refine x_getR qX7_countStep_136 fX7_31 rfl rfl ?_
      refine x_ildn qX7_countStep_139 rfl ?_
      refine x_aldn qX7_countStep_140 rfl trivial ?_
      refine x_getR qX7_countStep_141 fX7_34 rfl rfl ?_
      refine x_ildn qX7_countStep_144 rfl ?_
      refine x_ialde qX7_countStep_145 rfl rfl (by omega) (by decide) (h31 w (by omega)) ?_
      refine x_iast qX7_countStep_146 rfl rfl (by omega) (by decide) ?_
      refine x_iinc2 qX7_countStep_147 (by decide) (cm_inc _) rfl ?_
      refine x_goto (tgt := 127) qX7_countStep_150 (by omega) ?_
      refine ih (w + 1) _ _ _ _ (by omega) (fun b h1 h2 => by rw [cm_u_ne h1]; exact hI b h1 h2) (fun v hv => by rw [cm_u_ne (by decide)]; exact h31 v hv) (fun v hv => ?_)
      rw [cm_uu]
      show (if v = w then _ else _) = _
      by_cases e : v = w
      · subst e; rw [if_pos rfl]
      · rw [if_neg e]; exact h30 v (by omega)
  have outer : ∀ m w I' a3 a4 a5, w + m = wys mm n → (∀ b, b ≠ 31 → I' b = I b) → (∀ v, v < wys mm n → I' 31 v = nI (sumW (fun w => if nxt kd mm n w v && fr v then c w else 0) w % 1000003)) → cm_Ex l g 4 0 0 mX7_countStep 25 [.ref 23, .int (nI r), .int (nI w), a3, a4, a5] [] I' L (RR n hr tl) (DD n) Q := by
    intro m
    induction m with
    | zero =>
      intro w I' a3 a4 a5 hw hI h31
      have e : w = wys mm n := by omega
      subst e
      refine x_ildn qX7_countStep_25 rfl ?_
      refine x_aldn qX7_countStep_26 rfl trivial ?_
      refine x_getIe qX7_countStep_27 fX7_51 rfl ((congrFun (hI 23 (by decide)) 14).trans h14) ?_
      refine x_icmp_ge_nt (tgt := 125) qX7_countStep_30 (by omega) (by omega) (by omega) (by omega) ?_
      refine x_iconst (v := nI 0) qX7_countStep_125 rfl ?_
      refine x_ist2 qX7_countStep_126 (by decide) rfl ?_
      exact copy (wys mm n) 0 I' _ _ _ (by omega) (fun b _ h => hI b h) h31 (fun v hv => by omega)
    | succ m ih =>
      intro w I' a3 a4 a5 hw hI h31
      have H' : HI n kd mm I' L := HI_frame H (fun b hb => hI b (by omega)) (fun _ _ => rfl)
      have inner : ∀ (x : Int64), (∀ v, v < wys mm n → (tb x v = true → (if nxt kd mm n w v && fr v then c w else 0) = c w) ∧ (tb x v = false → (if nxt kd mm n w v && fr v then c w else 0) = 0)) → ∀ k u I', u + k = wys mm n → (∀ b, b ≠ 31 → I' b = I b) → (∀ v, v < wys mm n → I' 31 v = nI ((sumW (fun w => if nxt kd mm n w v && fr v then c w else 0) w + (if v < u then (if nxt kd mm n w v && fr v then c w else 0) else 0)) % 1000003)) → cm_Ex l g 4 0 0 mX7_countStep 65 [.ref 23, .int (nI r), .int (nI w), .long x, .float 0, .int (nI u)] [] I' L (RR n hr tl) (DD n) Q := by
        intro x hx k
        induction k with
        | zero =>
          intro u I' hu hI h31
          have e : u = wys mm n := by omega
          subst e
          refine x_ild qX7_countStep_65 rfl ?_
          refine x_aldn qX7_countStep_67 rfl trivial ?_
          refine x_getIe qX7_countStep_68 fX7_51 rfl ((congrFun (hI 23 (by decide)) 14).trans h14) ?_
          refine x_icmp_ge_nt (tgt := 119) qX7_countStep_71 (by omega) (by omega) (by omega) (by omega) ?_
          refine x_iinc2 qX7_countStep_119 (by decide) (cm_inc _) rfl ?_
          refine x_goto (tgt := 25) qX7_countStep_122 (by omega) ?_
          refine ih (w + 1) _ _ _ _ (by omega) hI (fun v hv => ?_)
          rw [h31 v hv, if_pos hv]
          rfl
        | succ k ih2 =>
          intro u I' hu hI h31
          have h30 : I' 30 = I 30 := hI 30 (by decide)
          have hcw := hc w (by omega)
          refine x_ild qX7_countStep_65 rfl ?_
          refine x_aldn qX7_countStep_67 rfl trivial ?_
          refine x_getIe qX7_countStep_68 fX7_51 rfl ((congrFun (hI 23 (by decide)) 14).trans h14) ?_
          refine x_icmp_ge_nf (tgt := 119) qX7_countStep_71 (by omega) (by omega) (by omega) (by omega) ?_
          refine x_lldn qX7_countStep_74 rfl ?_
          refine x_lconst (v := 0) qX7_countStep_75 rfl ?_
          refine x_lcmp qX7_countStep_76 ?_
          refine x_if_eq (tgt := 119) qX7_countStep_77 (by omega) (fun h77 => ?_) (fun h77 => ?_)
          · refine x_iinc2 qX7_countStep_119 (by decide) (cm_inc _) rfl ?_
            refine x_goto (tgt := 25) qX7_countStep_122 (by omega) ?_
            refine ih (w + 1) _ _ _ _ (by omega) hI (fun v hv => ?_)
            have hx0 : x = 0 := (lg_cmp0 x).mp h77
            have h0 := (hx v hv).2 (by rw [hx0]; exact tb_0 v)
            rw [h31 v hv]
            show _ = nI ((_ + (if nxt kd mm n w v && fr v then c w else 0)) % 1000003)
            rw [h0]
            simp
          · refine x_lldn qX7_countStep_80 rfl ?_
            refine x_ild qX7_countStep_81 rfl ?_
            refine x_cS2 (d' := 1) qX7_countStep_83 cX7_106 rfl rfl (Nat.le_of_ble_eq_true rfl) (Nat.le_of_ble_eq_true rfl) (by decide) ?_
            refine c_X7_isIn (by omega) (fun h83 => ?_) (fun h83 => ?_)
            · refine x_if_eq_f (tgt := 113) qX7_countStep_86 (by omega) (by decide) ?_
              refine x_aldn qX7_countStep_89 rfl trivial ?_
              refine x_getR qX7_countStep_90 fX7_34 rfl rfl ?_
              refine x_ild qX7_countStep_93 rfl ?_
              refine x_aldn qX7_countStep_95 rfl trivial ?_
              refine x_getR qX7_countStep_96 fX7_34 rfl rfl ?_
              refine x_ild qX7_countStep_99 rfl ?_
              refine x_ialde qX7_countStep_101 rfl rfl (by omega) (by decide) (h31 u (by omega)) ?_
              refine x_aldn qX7_countStep_102 rfl trivial ?_
              refine x_getR qX7_countStep_103 fX7_31 rfl rfl ?_
              refine x_ildn qX7_countStep_106 rfl ?_
              refine x_ialde qX7_countStep_107 rfl rfl (by omega) (by decide) ((congrFun h30 w).trans hcw.1) ?_
              refine x_iadd_n qX7_countStep_108 ?_
              refine x_ldc (v := nI 1000003) qX7_countStep_109 vX7_127 ?_
              refine x_irem_n qX7_countStep_111 (by omega) (by decide) (by decide) ?_
              refine x_iast qX7_countStep_112 rfl rfl (by omega) (by decide) ?_
              refine x_iinc5 qX7_countStep_113 (by decide) (cm_inc _) rfl ?_
              refine x_goto (tgt := 65) qX7_countStep_116 (by omega) ?_
              first | (have h0 := (hx u (by omega)).2 h83; refine ih2 (u + 1) _ (by omega) hI (fun v hv => ?_); rw [h31 v hv]; (by_cases e : v = u); (subst e; rw [h0]; simp); (have e1 : (v < u + 1) ↔ v < u := by omega); simp only [e1]) | (have h1 := (hx u (by omega)).1 h83; refine ih2 (u + 1) _ (by omega) (fun b hb => by rw [cm_u_ne hb]; exact hI b hb) (fun v hv => ?_); rw [cm_uu]; show (if v = u then _ else _) = _; (by_cases e : v = u); (subst e; rw [if_pos rfl, h1, if_neg (Nat.lt_irrefl v), if_pos (Nat.lt_succ_self v), Nat.add_zero, Nat.mod_add_mod]); (rw [if_neg e, h31 v hv]; have e1 : (v < u + 1) ↔ v < u := (by omega)); simp only [e1])
            · refine x_if_eq_t (tgt := 113) qX7_countStep_86 (by omega) (by decide) ?_
              refine x_iinc5 qX7_countStep_113 (by decide) (cm_inc _) rfl ?_
              refine x_goto (tgt := 65) qX7_countStep_116 (by omega) ?_
              first | (have h0 := (hx u (by omega)).2 h83; refine ih2 (u + 1) _ (by omega) hI (fun v hv => ?_); rw [h31 v hv]; (by_cases e : v = u); (subst e; rw [h0]; simp); (have e1 : (v < u + 1) ↔ v < u := by omega); simp only [e1]) | (have h1 := (hx u (by omega)).1 h83; refine ih2 (u + 1) _ (by omega) (fun b hb => by rw [cm_u_ne hb]; exact hI b hb) (fun v hv => ?_); rw [cm_uu]; show (if v = u then _ else _) = _; (by_cases e : v = u); (subst e; rw [if_pos rfl, h1, if_neg (Nat.lt_irrefl v), if_pos (Nat.lt_succ_self v), Nat.add_zero, Nat.mod_add_mod]); (rw [if_neg e, h31 v hv]; have e1 : (v < u + 1) ↔ v < u := (by omega)); simp only [e1])
      have hcw := hc w (by omega)
      have hst : ∀ v, v < wys mm n → I' 31 v = nI ((sumW (fun w => if nxt kd mm n w v && fr v then c w else 0) w + (if v < 0 then (if nxt kd mm n w v && fr v then c w else 0) else 0)) % 1000003) := fun v hv => by
        rw [h31 v hv]; simp
      refine x_ildn qX7_countStep_25 rfl ?_
      refine x_aldn qX7_countStep_26 rfl trivial ?_
      refine x_getIe qX7_countStep_27 fX7_51 rfl ((congrFun (hI 23 (by decide)) 14).trans h14) ?_
      refine x_icmp_ge_nf (tgt := 125) qX7_countStep_30 (by omega) (by omega) (by omega) (by omega) ?_
      refine x_aldn qX7_countStep_33 rfl trivial ?_
      refine x_getR qX7_countStep_34 fX7_31 rfl rfl ?_
      refine x_ildn qX7_countStep_37 rfl ?_
      refine x_ialde qX7_countStep_38 rfl rfl (by omega) (by decide) ((congrFun (hI 30 (by decide)) w).trans hcw.1) ?_
      refine x_if_ne_n (tgt := 46) qX7_countStep_39 (by omega) (by omega) (fun h39 => ?_) (fun h39 => ?_)
      · refine x_aldn qX7_countStep_46 rfl trivial ?_
        refine x_getR qX7_countStep_47 fX7_54 rfl rfl ?_
        refine x_ildn qX7_countStep_50 rfl ?_
        refine x_cV1 (d' := 2) qX7_countStep_51 cX7_128 rfl ⟨_, rfl, rfl⟩ rfl rfl (Nat.le_of_ble_eq_true rfl) (Nat.le_of_ble_eq_true rfl) (by decide) ?_
        refine c_X3_afterWay rfl H' (by omega) ?_
        refine x_aldn qX7_countStep_54 rfl trivial ?_
        refine x_getR qX7_countStep_55 fX7_15 rfl rfl ?_
        refine x_ildn qX7_countStep_58 rfl ?_
        refine x_lald qX7_countStep_59 rfl rfl (by omega) (by decide) ?_
        refine x_land qX7_countStep_60 ?_
        refine x_lst3 qX7_countStep_61 (by decide) rfl ?_
        refine x_iconst (v := nI 0) qX7_countStep_62 rfl ?_
        refine x_ist5 qX7_countStep_63 (by decide) rfl ?_
        first | (refine inner 0 (fun v hv => ⟨fun h => ?_, fun _ => ?_⟩) (wys mm n) 0 I' (by omega) hI hst; (rw [tb_0] at h; cases h); (rw [h39]; split <;> rfl)) | (refine inner _ (fun v hv => ?_) (wys mm n) 0 I' (by omega) hI hst; rw [tb_and, H.2.2.2.2.2.2.2.2.2.1 w (by omega) v (by omega), decide_eq_true hv, Bool.true_and, SB_at hW F hv]; exact ⟨fun h => if_pos h, fun h => by rw [h]; rfl⟩)
      · refine x_lconst (v := 0) qX7_countStep_42 rfl ?_
        refine x_goto (tgt := 61) qX7_countStep_43 (by omega) ?_
        refine x_lst3 qX7_countStep_61 (by decide) rfl ?_
        refine x_iconst (v := nI 0) qX7_countStep_62 rfl ?_
        refine x_ist5 qX7_countStep_63 (by decide) rfl ?_
        first | (refine inner 0 (fun v hv => ⟨fun h => ?_, fun _ => ?_⟩) (wys mm n) 0 I' (by omega) hI hst; (rw [tb_0] at h; cases h); (rw [h39]; split <;> rfl)) | (refine inner _ (fun v hv => ?_) (wys mm n) 0 I' (by omega) hI hst; rw [tb_and, H.2.2.2.2.2.2.2.2.2.1 w (by omega) v (by omega), decide_eq_true hv, Bool.true_and, SB_at hW F hv]; exact ⟨fun h => if_pos h, fun h => by rw [h]; rfl⟩)
  have zero : ∀ m w I' a3 a4 a5, w + m = wys mm n → (∀ b, b ≠ 31 → I' b = I b) → (∀ v, v < w → I' 31 v = 0) → cm_Ex l g 4 0 0 mX7_countStep 2 [.ref 23, .int (nI r), .int (nI w), a3, a4, a5] [] I' L (RR n hr tl) (DD n) Q := by
    intro m
    induction m with
    | zero =>
      intro w I' a3 a4 a5 hw hI h31
      have e : w = wys mm n := by omega
      subst e
      refine x_ildn qX7_countStep_2 rfl ?_
      refine x_aldn qX7_countStep_3 rfl trivial ?_
      refine x_getIe qX7_countStep_4 fX7_51 rfl ((congrFun (hI 23 (by decide)) 14).trans h14) ?_
      refine x_icmp_ge_nt (tgt := 23) qX7_countStep_7 (by omega) (by omega) (by omega) (by omega) ?_
      refine x_iconst (v := nI 0) qX7_countStep_23 rfl ?_
      refine x_ist2 qX7_countStep_24 (by decide) rfl ?_
      exact outer (wys mm n) 0 I' _ _ _ (by omega) hI (fun v hv => by rw [h31 v hv]; rfl)
    | succ m ih =>
      intro w I' a3 a4 a5 hw hI h31
      refine x_ildn qX7_countStep_2 rfl ?_
      refine x_aldn qX7_countStep_3 rfl trivial ?_
      refine x_getIe qX7_countStep_4 fX7_51 rfl ((congrFun (hI 23 (by decide)) 14).trans h14) ?_
      refine x_icmp_ge_nf (tgt := 23) qX7_countStep_7 (by omega) (by omega) (by omega) (by omega) ?_
      refine x_aldn qX7_countStep_10 rfl trivial ?_
      refine x_getR qX7_countStep_11 fX7_34 rfl rfl ?_
      refine x_ildn qX7_countStep_14 rfl ?_
      refine x_iconst (v := nI 0) qX7_countStep_15 rfl ?_
      refine x_iast qX7_countStep_16 rfl rfl (by omega) (by decide) ?_
      refine x_iinc2 qX7_countStep_17 (by decide) (cm_inc _) rfl ?_
      refine x_goto (tgt := 2) qX7_countStep_20 (by omega) ?_
      refine ih (w + 1) _ _ _ _ (by omega) (fun b h1 => by rw [cm_u_ne h1]; exact hI b h1) (fun v hv => ?_)
      rw [cm_uu]
      show (if v = w then _ else _) = _
      by_cases e : v = w
      · subst e; rw [if_pos rfl]; rfl
      · rw [if_neg e]; exact h31 v (by omega)
  refine x_iconst (v := nI 0) qX7_countStep_0 rfl ?_
  refine x_ist2 qX7_countStep_1 (by decide) rfl ?_
  exact zero (wys mm n) 0 I _ _ _ (by omega) (fun _ _ => rfl) (fun v hv => by omega)
theorem c_X7_howMany (hl : len ≤ 12) (h13 : I 23 13 = nI len) (h14 : I 23 14 = nI (wys mm n)) (H : HI n kd mm I L) (F : SBs 25 len (wys mm n) fit L)
  (hQ : ∀ I', (∀ b, b ≠ 30 → b ≠ 31 → I' b = I b) → Q (some (.int (nI (cnt fit (nxt kd mm n) (wys mm n) len % 1000003)))) I' L (RR n hr tl) (DD n)) : cm_Ex l g 5 0 0 mX7_howMany 0 [.ref 23, .float 0, .float 0] [] I L (RR n hr tl) (DD n) Q := by
  have hW : wys mm n ≤ 64 := H.2.2.2.1
  by_cases h0 : len = 0
  · subst h0
    refine x_aldn qX7_howMany_0 rfl trivial ?_
    refine x_getIe qX7_howMany_1 fX7_47 rfl h13 ?_
    refine x_if_ne_f (tgt := 9) qX7_howMany_4 (by omega) (by decide) ?_
    refine x_iconst (v := nI 1) qX7_howMany_7 rfl ?_
    refine x_iret qX7_howMany_8 rfl rfl ?_
    exact hQ I (fun _ _ _ => rfl)
  have last : ∀ m w x I', w + m = wys mm n → (∀ b, b ≠ 30 → b ≠ 31 → I' b = I b) → (∀ v, v < wys mm n → I' 30 v = nI (cfw fit (nxt kd mm n) (wys mm n) (len - 1) v % 1000003)) → x = sumW (cfw fit (nxt kd mm n) (wys mm n) (len - 1)) w % 1000003 → cm_Ex l g 5 0 0 mX7_howMany 74 [.ref 23, .int (nI x), .int (nI w)] [] I' L (RR n hr tl) (DD n) Q := by
    intro m
    induction m with
    | zero =>
      intro w x I' hw hI h30 hx
      have e : w = wys mm n := by omega
      subst e
      subst hx
      refine x_ildn qX7_howMany_74 rfl ?_
      refine x_aldn qX7_howMany_75 rfl trivial ?_
      refine x_getIe qX7_howMany_76 fX7_51 rfl ((congrFun (hI 23 (by decide) (by decide)) 14).trans h14) ?_
      refine x_icmp_ge_nt (tgt := 100) qX7_howMany_79 (by omega) (by omega) (by omega) (by omega) ?_
      refine x_ildn qX7_howMany_100 rfl ?_
      refine x_iret qX7_howMany_101 rfl rfl ?_
      have := hQ I' hI
      unfold cnt at this
      rw [if_neg h0] at this
      exact this
    | succ m ih =>
      intro w x I' hw hI h30 hx
      have hb := Nat.mod_lt (cfw fit (nxt kd mm n) (wys mm n) (len - 1) w) (show 1000003 > 0 by decide)
      have hb2 : x < 1000003 := by rw [hx]; exact Nat.mod_lt _ (by decide)
      refine x_ildn qX7_howMany_74 rfl ?_
      refine x_aldn qX7_howMany_75 rfl trivial ?_
      refine x_getIe qX7_howMany_76 fX7_51 rfl ((congrFun (hI 23 (by decide) (by decide)) 14).trans h14) ?_
      refine x_icmp_ge_nf (tgt := 100) qX7_howMany_79 (by omega) (by omega) (by omega) (by omega) ?_
      refine x_ildn qX7_howMany_82 rfl ?_
      refine x_aldn qX7_howMany_83 rfl trivial ?_
      refine x_getR qX7_howMany_84 fX7_31 rfl rfl ?_
      refine x_ildn qX7_howMany_87 rfl ?_
      refine x_ialde qX7_howMany_88 rfl rfl (by omega) (by decide) (h30 w (by omega)) ?_
      refine x_iadd_n qX7_howMany_89 ?_
      refine x_ldc (v := nI 1000003) qX7_howMany_90 vX7_127 ?_
      refine x_irem_n qX7_howMany_92 (by omega) (by decide) (by decide) ?_
      refine x_ist1 qX7_howMany_93 (by decide) rfl ?_
      refine x_iinc2 qX7_howMany_94 (by decide) (cm_inc _) rfl ?_
      refine x_goto (tgt := 74) qX7_howMany_97 (by omega) ?_
      refine ih (w + 1) _ _ (by omega) hI h30 ?_
      rw [hx, Nat.add_mod_mod, Nat.mod_add_mod]
      rfl
  have steps : ∀ m r I' a2, r + m = len → 1 ≤ r → (∀ b, b ≠ 30 → b ≠ 31 → I' b = I b) → (∀ v, v < wys mm n → I' 30 v = nI (cfw fit (nxt kd mm n) (wys mm n) (r - 1) v % 1000003)) → cm_Ex l g 5 0 0 mX7_howMany 51 [.ref 23, .int (nI r), a2] [] I' L (RR n hr tl) (DD n) Q := by
    intro m
    induction m with
    | zero =>
      intro r I' a2 hr0 h1 hI h30
      have e : r = len := by omega
      subst e
      refine x_ildn qX7_howMany_51 rfl ?_
      refine x_aldn qX7_howMany_52 rfl trivial ?_
      refine x_getIe qX7_howMany_53 fX7_47 rfl ((congrFun (hI 23 (by decide) (by decide)) 13).trans h13) ?_
      refine x_icmp_ge_nt (tgt := 70) qX7_howMany_56 (by omega) (by omega) (by omega) (by omega) ?_
      refine x_iconst (v := nI 0) qX7_howMany_70 rfl ?_
      refine x_ist1 qX7_howMany_71 (by decide) rfl ?_
      refine x_iconst (v := nI 0) qX7_howMany_72 rfl ?_
      refine x_ist2 qX7_howMany_73 (by decide) rfl ?_
      exact last (wys mm n) 0 0 I' (by omega) hI h30 rfl
    | succ m ih =>
      intro r I' a2 hr0 h1 hI h30
      have H' : HI n kd mm I' L := HI_frame H (fun b hb => hI b (by omega) (by omega)) (fun _ _ => rfl)
      refine x_ildn qX7_howMany_51 rfl ?_
      refine x_aldn qX7_howMany_52 rfl trivial ?_
      refine x_getIe qX7_howMany_53 fX7_47 rfl ((congrFun (hI 23 (by decide) (by decide)) 13).trans h13) ?_
      refine x_icmp_ge_nf (tgt := 70) qX7_howMany_56 (by omega) (by omega) (by omega) (by omega) ?_
      refine x_aldn qX7_howMany_59 rfl trivial ?_
      refine x_ildn qX7_howMany_60 rfl ?_
      refine x_cV1 (d' := 4) qX7_howMany_61 cX7_123 rfl ⟨_, rfl, rfl⟩ rfl rfl (Nat.le_of_ble_eq_true rfl) (Nat.le_of_ble_eq_true rfl) (by decide) ?_
      refine c_X7_countStep (by omega) (by rw [hI 23 (by decide) (by decide)]; exact h14) H' (F r (by omega)) (fun w hw => ⟨h30 w hw, Nat.mod_lt _ (by decide)⟩) (fun I'' h30' hI'' => ?_)
      refine x_iinc1 qX7_howMany_64 (by decide) (cm_inc _) rfl ?_
      refine x_goto (tgt := 51) qX7_howMany_67 (by omega) ?_
      refine ih (r + 1) _ _ (by omega) (by omega) (fun b h1 h2 => by rw [hI'' b h1 h2]; exact hI b h1 h2) (fun v hv => ?_)
      rw [h30' v hv]
      obtain ⟨r', rfl⟩ : ∃ r', r = r' + 1 := ⟨r - 1, by omega⟩
      rw [Nat.add_sub_cancel, Nat.add_sub_cancel]
      show _ = nI ((if fit (r' + 1) v then _ else 0) % 1000003)
      cases hf : fit (r' + 1) v with
      | false => simp [sumW_0]
      | true =>
        rw [if_pos rfl, ← sumW_mod (f := fun w => if nxt kd mm n w v then cfw fit (nxt kd mm n) (wys mm n) r' w else 0)]
        congr 2
        exact sumW_congr fun w _ => by cases nxt kd mm n w v <;> simp
  have init : ∀ m w I' a2, w + m = wys mm n → (∀ b, b ≠ 30 → b ≠ 31 → I' b = I b) → (∀ v, v < w → I' 30 v = nI (cfw fit (nxt kd mm n) (wys mm n) 0 v % 1000003)) → cm_Ex l g 5 0 0 mX7_howMany 11 [.ref 23, .int (nI w), a2] [] I' L (RR n hr tl) (DD n) Q := by
    intro m
    induction m with
    | zero =>
      intro w I' a2 hw hI h30
      have e : w = wys mm n := by omega
      subst e
      refine x_ildn qX7_howMany_11 rfl ?_
      refine x_aldn qX7_howMany_12 rfl trivial ?_
      refine x_getIe qX7_howMany_13 fX7_51 rfl ((congrFun (hI 23 (by decide) (by decide)) 14).trans h14) ?_
      refine x_icmp_ge_nt (tgt := 49) qX7_howMany_16 (by omega) (by omega) (by omega) (by omega) ?_
      refine x_iconst (v := nI 1) qX7_howMany_49 rfl ?_
      refine x_ist1 qX7_howMany_50 (by decide) rfl ?_
      exact steps (len - 1) 1 I' _ (by omega) (by omega) hI h30
    | succ m ih =>
      intro w I' a2 hw hI h30
      have keep : ∀ x, x = nI (cfw fit (nxt kd mm n) (wys mm n) 0 w % 1000003) → cm_Ex l g 5 0 0 mX7_howMany 11 [.ref 23, .int (nI (w + 1)), a2] [] (cm_u I' 30 w x) L (RR n hr tl) (DD n) Q := fun x hx => by
        refine ih (w + 1) _ _ (by omega) (fun b h1 h2 => by rw [cm_u_ne h1]; exact hI b h1 h2) (fun v hv => ?_)
        rw [cm_uu]
        show (if v = w then _ else _) = _
        by_cases e : v = w
        · subst e; rw [if_pos rfl]; exact hx
        · rw [if_neg e]; exact h30 v (by omega)
      have hf0 := SB_at hW (F 0 (by omega)) (w := w) (by omega)
      refine x_ildn qX7_howMany_11 rfl ?_
      refine x_aldn qX7_howMany_12 rfl trivial ?_
      refine x_getIe qX7_howMany_13 fX7_51 rfl ((congrFun (hI 23 (by decide) (by decide)) 14).trans h14) ?_
      refine x_icmp_ge_nf (tgt := 49) qX7_howMany_16 (by omega) (by omega) (by omega) (by omega) ?_
      refine x_aldn qX7_howMany_19 rfl trivial ?_
      refine x_getR qX7_howMany_20 fX7_31 rfl rfl ?_
      refine x_ildn qX7_howMany_23 rfl ?_
      refine x_aldn qX7_howMany_24 rfl trivial ?_
      refine x_getR qX7_howMany_25 fX7_15 rfl rfl ?_
      refine x_iconst (v := nI 0) qX7_howMany_28 rfl ?_
      refine x_lald qX7_howMany_29 rfl rfl (by omega) (by decide) ?_
      refine x_ildn qX7_howMany_30 rfl ?_
      refine x_cS2 (d' := 1) qX7_howMany_31 cX7_106 rfl rfl (Nat.le_of_ble_eq_true rfl) (Nat.le_of_ble_eq_true rfl) (by decide) ?_
      refine c_X7_isIn (by omega) (fun h31 => ?_) (fun h31 => ?_)
      · refine x_if_eq_f (tgt := 41) qX7_howMany_34 (by omega) (by decide) ?_
        refine x_iconst (v := nI 1) qX7_howMany_37 rfl ?_
        refine x_goto (tgt := 42) qX7_howMany_38 (by omega) ?_
        refine x_iast qX7_howMany_42 rfl rfl (by omega) (by decide) ?_
        refine x_iinc1 qX7_howMany_43 (by decide) (cm_inc _) rfl ?_
        refine x_goto (tgt := 11) qX7_howMany_46 (by omega) ?_
        first | exact keep _ (by rw [hf0] at h31; show nI 1 = nI ((if fit 0 w then 1 else 0) % 1000003); rw [h31]; rfl) | exact keep _ (by rw [hf0] at h31; show nI 0 = nI ((if fit 0 w then 1 else 0) % 1000003); rw [h31]; rfl)
      · refine x_if_eq_t (tgt := 41) qX7_howMany_34 (by omega) (by decide) ?_
        refine x_iconst (v := nI 0) qX7_howMany_41 rfl ?_
        refine x_iast qX7_howMany_42 rfl rfl (by omega) (by decide) ?_
        refine x_iinc1 qX7_howMany_43 (by decide) (cm_inc _) rfl ?_
        refine x_goto (tgt := 11) qX7_howMany_46 (by omega) ?_
        first | exact keep _ (by rw [hf0] at h31; show nI 1 = nI ((if fit 0 w then 1 else 0) % 1000003); rw [h31]; rfl) | exact keep _ (by rw [hf0] at h31; show nI 0 = nI ((if fit 0 w then 1 else 0) % 1000003); rw [h31]; rfl)
  refine x_aldn qX7_howMany_0 rfl trivial ?_
  refine x_getIe qX7_howMany_1 fX7_47 rfl h13 ?_
  refine x_if_ne_t (tgt := 9) qX7_howMany_4 (by omega) (fun e => h0 ((cm_n0 (by omega)).mp e)) ?_
  refine x_iconst (v := nI 0) qX7_howMany_9 rfl ?_
  refine x_ist1 qX7_howMany_10 (by decide) rfl ?_
  exact init (wys mm n) 0 I _ (by omega) (fun _ _ _ => rfl) (fun v hv => by omega)
end K20
