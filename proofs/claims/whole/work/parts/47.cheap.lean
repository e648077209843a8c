/-! Telling: findCheapest -/
def chI (mm : Nat → Nat) (n cc : Nat) (u v : Nat) : Nat := if cc = 0 then 0 else chg mm n u v
theorem sub1_dec (k : Nat) : nI k - nI 1 = nI k + Int32.ofInt (-1) := by
  cases k with
  | zero => decide
  | succ k => rw [cm_dec, pk_sub (by omega)]; rfl
section K22
variable {l : Launch} {g : cm_G} {I : cm_I} {L : cm_L} {n len : Nat} {hr tl : Option Nat} {Q : cm_Post} {kd mm : Nat → Nat} {fit : Nat → Nat → Bool}
theorem c_X7_findCheapest {cc : Nat} {f : Nat → Int} (hl : len ≤ 12) (h13 : I 23 13 = nI len) (h14 : I 23 14 = nI (wys mm n)) (H : HI n kd mm I L) (hcc : cc = 0 ∨ cc = 1) (hsum : ∀ w, w < wys mm n → I 29 w = zI (f w) ∧ -50000 ≤ f w ∧ f w ≤ 50000) (F : SBs 26 len (wys mm n) (fwd fit (nxt kd mm n) (wys mm n)) L) (ht : tal fit (nxt kd mm n) (wys mm n) len = true)
  (hQ : ∀ I' L', (∀ r, r < len → I' 33 r = nI (tlr (liv fit (nxt kd mm n) (wys mm n) len) (nxt kd mm n) f (fun u v => (chI mm n cc u v : Int)) (wys mm n) len r)) → (∀ b, b ≠ 32 → b ≠ 33 → I' b = I b) → (∀ b, b ≠ 26 → L' b = L b) → Q (some (.int (zI (tvl (liv fit (nxt kd mm n) (wys mm n) len) (nxt kd mm n) f (fun u v => (chI mm n cc u v : Int)) (wys mm n) len)))) I' L' (RR n hr tl) (DD n)) : cm_Ex l g 5 0 0 mX7_findCheapest 0 [.ref 23, .int (nI cc), .float 0, .float 0, .float 0] [] I L (RR n hr tl) (DD n) Q := by
  have hW : wys mm n ≤ 64 := H.2.2.2.1
  have hn4 : n ≤ 4 := H.1
  have hch : ∀ u v, chI mm n cc u v ≤ 4 := fun u v => by
    unfold chI; split
    · omega
    · exact Nat.le_trans (chg_le u v) hn4
  generalize hLV : liv fit (nxt kd mm n) (wys mm n) len = LV at hQ
  generalize hC : cst LV (nxt kd mm n) f (fun u v => (chI mm n cc u v : Int)) (wys mm n) len = C
  generalize hT : tlr LV (nxt kd mm n) f (fun u v => (chI mm n cc u v : Int)) (wys mm n) len = T at hQ
  have hCb : ∀ m, m < 12 → ∀ w, w < wys mm n → -1000000 ≤ C m w ∧ C m w ≤ 1000000 := fun m hm w hw => by
    have := cst_bd (lv := LV) (nx := nxt kd mm n) (c := f) (ch := fun u v => (chI mm n cc u v : Int)) (W := wys mm n) (len := len) (B := 50000) (by decide) (fun w hw => (hsum w hw).2) (fun u v _ _ => by have := hch u v; omega) m w hw
    rw [hC] at this
    omega
  have hCs : ∀ m w, C (m + 1) w = f w + match amin (fun v => LV (len - 1 - m) v && nxt kd mm n w v) (fun v => C m v + (chI mm n cc w v : Int)) (wys mm n) with
    | none => 0
    | some v => C m v + (chI mm n cc w v : Int) := fun m w => by rw [← hC]; rfl
  have hC0 : ∀ w, C 0 w = f w := fun w => by rw [← hC]; rfl
  have hccb : ∀ u, u < wys mm n → (cc = 0 ∧ (∀ v, v < wys mm n → chI mm n cc u v = 0) ∨ cc = 1 ∧ ∃ u', u' < wys mm n ∧ nI u = nI u' ∧ ∀ v, v < wys mm n → chI mm n cc u v = chg mm n u' v) := fun u hu => by
    rcases hcc with rfl | rfl
    · exact Or.inl ⟨rfl, fun v _ => rfl⟩
    · exact Or.inr ⟨rfl, u, hu, rfl, fun v _ => rfl⟩
  refine x_aldn qX7_findCheapest_0 rfl trivial ?_
  refine x_iconst (v := nI 0) qX7_findCheapest_1 rfl ?_
  refine x_cV1 (d' := 4) qX7_findCheapest_2 cX7_139 rfl ⟨_, rfl, rfl⟩ rfl rfl (Nat.le_of_ble_eq_true rfl) (Nat.le_of_ble_eq_true rfl) (by decide) ?_
  refine c_X7_trimBackTo (rd := 0) hl (by decide) h13 H F (fun L' hLs hL' => ?_)
  have H1 : HI n kd mm I L' := HI_frame H (fun _ _ => rfl) (fun b hb => hL' b (by omega))
  have hS : ∀ r, r < len → SB (L' 26 r) (wys mm n) (LV r) := fun r hr => by rw [← hLV]; exact hLs r (Nat.zero_le _) hr
  have rows : ∀ m r I' a4, r + m = len → 1 ≤ r → (∀ b, b ≠ 32 → b ≠ 33 → I' b = I b) → (∀ i, i < len → ∀ w, w < wys mm n → LV i w = true → I' 32 (i * 64 + w) = zI (C (len - 1 - i) w)) → (∀ i, i < r → I' 33 i = nI (T i)) → cm_Ex l g 5 0 0 mX7_findCheapest 121 [.ref 23, .int (nI cc), .int (nI (T 0)), .int (nI r), a4] [] I' L' (RR n hr tl) (DD n) Q := by
    intro m
    induction m with
    | zero =>
      intro r I' a4 hr0 h1 hI hA hR
      have e : r = len := by omega
      subst e
      have hok := tlr_ok (c := f) (ch := fun u v => (chI mm n cc u v : Int)) ht 0 (by omega)
      rw [hLV, hT] at hok
      have hv := hA 0 (by omega) (T 0) hok.1 hok.2
      rw [Nat.zero_mul, Nat.zero_add, Nat.sub_zero] at hv
      refine x_ildn qX7_findCheapest_121 rfl ?_
      refine x_aldn qX7_findCheapest_122 rfl trivial ?_
      refine x_getIe qX7_findCheapest_123 fX7_47 rfl ((congrFun (hI 23 (by decide) (by decide)) 13).trans h13) ?_
      refine x_icmp_ge_nt (tgt := 157) qX7_findCheapest_126 (by omega) (by omega) (by omega) (by omega) ?_
      refine x_aldn qX7_findCheapest_157 rfl trivial ?_
      refine x_getR qX7_findCheapest_158 fX7_37 rfl rfl ?_
      refine x_ildn qX7_findCheapest_161 rfl ?_
      refine x_ialde qX7_findCheapest_162 dd_32 rfl (by omega) (by decide) hv ?_
      refine x_iret qX7_findCheapest_163 rfl rfl ?_
      have := hQ I' L' hR hI hL'
      unfold tvl at this
      rw [if_neg (by omega), hC, hT] at this
      exact this
    | succ m ih =>
      intro r I' a4 hr0 h1 hI hA hR
      have H' : HI n kd mm I' L' := HI_frame H1 (fun b hb => hI b (by omega) (by omega)) (fun _ _ => rfl)
      have hok := tlr_ok (c := f) (ch := fun u v => (chI mm n cc u v : Int)) ht (r - 1) (by omega)
      rw [hLV, hT] at hok
      have hts := tlr_s (c := f) (ch := fun u v => (chI mm n cc u v : Int)) (r := r - 1) (by omega) ht
      rw [hLV, hT, hC, show r - 1 + 1 = r by omega] at hts
      refine x_ildn qX7_findCheapest_121 rfl ?_
      refine x_aldn qX7_findCheapest_122 rfl trivial ?_
      refine x_getIe qX7_findCheapest_123 fX7_47 rfl ((congrFun (hI 23 (by decide) (by decide)) 13).trans h13) ?_
      refine x_icmp_ge_nf (tgt := 157) qX7_findCheapest_126 (by omega) (by omega) (by omega) (by omega) ?_
      refine x_aldn qX7_findCheapest_129 rfl trivial ?_
      refine x_getR qX7_findCheapest_130 fX7_40 rfl rfl ?_
      refine x_ildn qX7_findCheapest_133 rfl ?_
      refine x_aldn qX7_findCheapest_134 rfl trivial ?_
      refine x_ildn qX7_findCheapest_135 rfl ?_
      refine x_iconst (v := nI 1) qX7_findCheapest_136 rfl ?_
      refine x_isub_n qX7_findCheapest_137 (by omega) ?_
      refine x_aldn qX7_findCheapest_138 rfl trivial ?_
      refine x_getR qX7_findCheapest_139 fX7_40 rfl rfl ?_
      refine x_ildn qX7_findCheapest_142 rfl ?_
      refine x_iconst (v := nI 1) qX7_findCheapest_143 rfl ?_
      refine x_isub_n qX7_findCheapest_144 (by omega) ?_
      refine x_ialde qX7_findCheapest_145 dd_33 rfl (by omega) (by decide) (hR (r - 1) (by omega)) ?_
      refine x_ildn qX7_findCheapest_146 rfl ?_
      refine x_cV3 (d' := 4) qX7_findCheapest_147 cX7_142 rfl ⟨_, rfl, rfl⟩ rfl rfl (Nat.le_of_ble_eq_true rfl) (Nat.le_of_ble_eq_true rfl) (by decide) ?_
      refine c_X7_bestNext (q := r) (lv := LV r) (sel := fun v => nxt kd mm n (T (r - 1)) v) (c := C (len - 1 - r)) (ch := chI mm n cc (T (r - 1))) hl (by rw [hI 23 (by decide) (by decide)]; exact h13) (by rw [hI 23 (by decide) (by decide)]; exact h14) H' (by rw [nI_add]; congr 1; omega) (by omega) (Or.inr ⟨nI_pos (by omega), T (r - 1), hok.1, rfl, fun _ _ => rfl⟩) (hccb _ hok.1) (fun _ => hS r (by omega)) (fun _ v hv hlv => ⟨hA r (by omega) v hv hlv, hCb _ (by omega) v hv⟩) (fun v _ => hch _ _) (fun h => absurd h (by omega)) (fun _ => ?_)
      refine x_iast qX7_findCheapest_150 dd_33 rfl (by omega) (by decide) ?_
      refine x_iinc3 qX7_findCheapest_151 (by decide) (cm_inc _) rfl ?_
      refine x_goto (tgt := 121) qX7_findCheapest_154 (by omega) ?_
      refine ih (r + 1) _ _ (by omega) (by omega) (fun b h1 h2 => by rw [cm_u_ne h2]; exact hI b h1 h2) (fun i hi w hw hlv => by rw [cm_u_ne (by decide)]; exact hA i hi w hw hlv) (fun i hi => ?_)
      rw [cm_uu]
      show (if i = r then _ else _) = _
      by_cases e : i = r
      · subst e; rw [if_pos rfl, hts]; rfl
      · rw [if_neg e]; exact hR i (by omega)
  have behind : ∀ I' a2 a3 a4, (∀ b, b ≠ 32 → b ≠ 33 → I' b = I b) → (∀ i, i < len → ∀ w, w < wys mm n → LV i w = true → I' 32 (i * 64 + w) = zI (C (len - 1 - i) w)) → cm_Ex l g 5 0 0 mX7_findCheapest 98 [.ref 23, .int (nI cc), a2, a3, a4] [] I' L' (RR n hr tl) (DD n) Q := by
    intro I' a2 a3 a4 hI hA
    have H' : HI n kd mm I' L' := HI_frame H1 (fun b hb => hI b (by omega) (by omega)) (fun _ _ => rfl)
    refine x_aldn qX7_findCheapest_98 rfl trivial ?_
    refine x_iconst (v := -1) qX7_findCheapest_99 rfl ?_
    refine x_iconst (v := -1) qX7_findCheapest_100 rfl ?_
    refine x_iconst (v := nI 0) qX7_findCheapest_101 rfl ?_
    refine x_cV3 (d' := 4) qX7_findCheapest_102 cX7_142 rfl ⟨_, rfl, rfl⟩ rfl rfl (Nat.le_of_ble_eq_true rfl) (Nat.le_of_ble_eq_true rfl) (by decide) ?_
    refine c_X7_bestNext (q := 0) (lv := LV 0) (sel := fun _ => true) (c := C (len - 1)) (ch := fun _ => 0) hl (by rw [hI 23 (by decide) (by decide)]; exact h13) (by rw [hI 23 (by decide) (by decide)]; exact h14) H' (by decide) (by decide) (Or.inl ⟨by decide, fun _ _ => rfl⟩) (Or.inl ⟨rfl, fun _ _ => rfl⟩) (fun h => hS 0 h) (fun h v hv hlv => ⟨hA 0 h v hv hlv, hCb _ (by omega) v hv⟩) (fun v _ => by omega) (fun h => ?_) (fun h => ?_)
    · have h0 : len = 0 := by omega
      refine x_ist2 qX7_findCheapest_105 (by decide) rfl ?_
      refine x_ildn qX7_findCheapest_106 rfl ?_
      refine x_if_ge_f (tgt := 112) qX7_findCheapest_107 (by omega) (by decide) ?_
      refine x_iconst (v := nI 0) qX7_findCheapest_110 rfl ?_
      refine x_iret qX7_findCheapest_111 rfl rfl ?_
      have := hQ I' L' (fun r hr => by omega) hI hL'
      unfold tvl at this
      rw [if_pos h0] at this
      exact this
    · have ht0 := tlr_0 (c := f) (ch := fun u v => (chI mm n cc u v : Int)) h ht
      rw [hLV, hT, hC] at ht0
      have e : amin (fun v => LV 0 v && true) (fun v => C (len - 1) v + ((0 : Nat) : Int)) (wys mm n) = some (T 0) := by
        rw [← ht0]
        exact amin_congr (fun i _ => Bool.and_true _) (fun i _ _ => by simp)
      rw [e]
      show cm_Ex l g 5 0 0 mX7_findCheapest 105 _ [.int (nI (T 0))] I' L' _ _ Q
      have hok := tlr_ok (c := f) (ch := fun u v => (chI mm n cc u v : Int)) ht 0 h
      rw [hLV, hT] at hok
      refine x_ist2 qX7_findCheapest_105 (by decide) rfl ?_
      refine x_ildn qX7_findCheapest_106 rfl ?_
      refine x_if_ge_nt (tgt := 112) qX7_findCheapest_107 (by omega) (by omega) ?_
      refine x_aldn qX7_findCheapest_112 rfl trivial ?_
      refine x_getR qX7_findCheapest_113 fX7_40 rfl rfl ?_
      refine x_iconst (v := nI 0) qX7_findCheapest_116 rfl ?_
      refine x_ildn qX7_findCheapest_117 rfl ?_
      refine x_iast qX7_findCheapest_118 dd_33 rfl (by omega) (by decide) ?_
      refine x_iconst (v := nI 1) qX7_findCheapest_119 rfl ?_
      refine x_ist3 qX7_findCheapest_120 (by decide) rfl ?_
      refine rows (len - 1) 1 _ _ (by omega) (by omega) (fun b h1 h2 => by rw [cm_u_ne h2]; exact hI b h1 h2) (fun i hi w hw hlv => by rw [cm_u_ne (by decide)]; exact hA i hi w hw hlv) (fun i hi => ?_)
      rw [cm_uu]
      show (if i = 0 then _ else _) = _
      have e0 : i = 0 := by omega
      subst e0
      rfl
  have outer : ∀ k I' a3 a4, k ≤ len → (∀ b, b ≠ 32 → b ≠ 33 → I' b = I b) → (∀ i, k ≤ i → i < len → ∀ w, w < wys mm n → LV i w = true → I' 32 (i * 64 + w) = zI (C (len - 1 - i) w)) → cm_Ex l g 5 0 0 mX7_findCheapest 12 [.ref 23, .int (nI cc), .int (nI k + Int32.ofInt (-1)), a3, a4] [] I' L' (RR n hr tl) (DD n) Q := by
    intro k
    induction k with
    | zero =>
      intro I' a3 a4 hk hI hA
      refine x_ildn qX7_findCheapest_12 rfl ?_
      refine x_if_lt_t (tgt := 98) qX7_findCheapest_13 (by omega) (by decide) ?_
      exact behind I' _ _ _ hI (fun i hi => hA i (Nat.zero_le _) hi)
    | succ k ih =>
      intro I' a3 a4 hk hI hA
      rw [cm_dec]
      have inner : ∀ m w I' a4, w + m = wys mm n → (∀ b, b ≠ 32 → b ≠ 33 → I' b = I b) → (∀ i, k + 1 ≤ i → i < len → ∀ w, w < wys mm n → LV i w = true → I' 32 (i * 64 + w) = zI (C (len - 1 - i) w)) → (∀ v, v < w → LV k v = true → I' 32 (k * 64 + v) = zI (C (len - 1 - k) v)) → cm_Ex l g 5 0 0 mX7_findCheapest 18 [.ref 23, .int (nI cc), .int (nI k), .int (nI w), a4] [] I' L' (RR n hr tl) (DD n) Q := by
        intro m
        induction m with
        | zero =>
          intro w I' a4 hw hI hA hB
          have e : w = wys mm n := by omega
          subst e
          refine x_ildn qX7_findCheapest_18 rfl ?_
          refine x_aldn qX7_findCheapest_19 rfl trivial ?_
          refine x_getIe qX7_findCheapest_20 fX7_51 rfl ((congrFun (hI 23 (by decide) (by decide)) 14).trans h14) ?_
          refine x_icmp_ge_nt (tgt := 92) qX7_findCheapest_23 (by omega) (by omega) (by omega) (by omega) ?_
          refine x_iinc2 qX7_findCheapest_92 (by decide) rfl rfl ?_
          refine x_goto (tgt := 12) qX7_findCheapest_95 (by omega) ?_
          refine ih _ _ _ (by omega) hI (fun i h1 h2 v hv hlv => ?_)
          by_cases e : i = k
          · subst e; exact hB v hv hlv
          · exact hA i (by omega) h2 v hv hlv
        | succ m ih2 =>
          intro w I' a4 hw hI hA hB
          have H' : HI n kd mm I' L' := HI_frame H1 (fun b hb => hI b (by omega) (by omega)) (fun _ _ => rfl)
          have hlw : tb (L' 26 k) w = LV k w := SB_at hW (hS k (by omega)) (by omega)
          have hsw : I' 29 w = zI (f w) := by rw [hI 29 (by decide) (by decide)]; exact (hsum w (by omega)).1
          have skip : ∀ a4, LV k w = false → cm_Ex l g 5 0 0 mX7_findCheapest 86 [.ref 23, .int (nI cc), .int (nI k), .int (nI w), a4] [] I' L' (RR n hr tl) (DD n) Q := by
            intro a4 e
            refine x_iinc3 qX7_findCheapest_86 (by decide) (cm_inc _) rfl ?_
            refine x_goto (tgt := 18) qX7_findCheapest_89 (by omega) ?_
            refine ih2 (w + 1) _ _ (by omega) hI hA (fun v hv hlv => ?_)
            by_cases e2 : v = w
            · subst e2; rw [e] at hlv; cases hlv
            · exact hB v (by omega) hlv
          have key : ∀ x a4, x = zI (C (len - 1 - k) w) → cm_Ex l g 5 0 0 mX7_findCheapest 86 [.ref 23, .int (nI cc), .int (nI k), .int (nI w), a4] [] (cm_u I' 32 (k * 64 + w) x) L' (RR n hr tl) (DD n) Q := by
            intro x a4 e
            refine x_iinc3 qX7_findCheapest_86 (by decide) (cm_inc _) rfl ?_
            refine x_goto (tgt := 18) qX7_findCheapest_89 (by omega) ?_
            refine ih2 (w + 1) _ _ (by omega) (fun b h1 h2 => by rw [cm_u_ne h1]; exact hI b h1 h2) (fun i h1 h2 v hv hlv => ?_) (fun v hv hlv => ?_)
            · rw [cm_uu]
              show (if i * 64 + v = k * 64 + w then _ else _) = _
              rw [if_neg (by omega)]
              exact hA i h1 h2 v hv hlv
            · rw [cm_uu]
              show (if k * 64 + v = k * 64 + w then _ else _) = _
              by_cases e2 : v = w
              · subst e2; rw [if_pos rfl]; exact e
              · rw [if_neg (by omega)]; exact hB v (by omega) hlv
          refine x_ildn qX7_findCheapest_18 rfl ?_
          refine x_aldn qX7_findCheapest_19 rfl trivial ?_
          refine x_getIe qX7_findCheapest_20 fX7_51 rfl ((congrFun (hI 23 (by decide) (by decide)) 14).trans h14) ?_
          refine x_icmp_ge_nf (tgt := 92) qX7_findCheapest_23 (by omega) (by omega) (by omega) (by omega) ?_
          refine x_aldn qX7_findCheapest_26 rfl trivial ?_
          refine x_getR qX7_findCheapest_27 fX7_18 rfl rfl ?_
          refine x_ildn qX7_findCheapest_30 rfl ?_
          refine x_lald qX7_findCheapest_31 rfl rfl (by omega) (by decide) ?_
          refine x_ildn qX7_findCheapest_32 rfl ?_
          refine x_cS2 (d' := 1) qX7_findCheapest_33 cX7_106 rfl rfl (Nat.le_of_ble_eq_true rfl) (Nat.le_of_ble_eq_true rfl) (by decide) ?_
          refine c_X7_isIn (by omega) (fun h33 => ?_) (fun h33 => ?_)
          · refine x_if_eq_f (tgt := 86) qX7_findCheapest_36 (by omega) (by decide) ?_
            refine x_aldn qX7_findCheapest_39 rfl trivial ?_
            refine x_ildn qX7_findCheapest_40 rfl ?_
            refine x_ildn qX7_findCheapest_41 rfl ?_
            refine x_ildn qX7_findCheapest_42 rfl ?_
            refine x_cV3 (d' := 4) qX7_findCheapest_43 cX7_142 rfl ⟨_, rfl, rfl⟩ rfl rfl (Nat.le_of_ble_eq_true rfl) (Nat.le_of_ble_eq_true rfl) (by decide) ?_
            refine c_X7_bestNext (q := k + 1) (lv := LV (k + 1)) (sel := fun v => nxt kd mm n w v) (c := C (len - 1 - (k + 1))) (ch := chI mm n cc w) hl (by rw [hI 23 (by decide) (by decide)]; exact h13) (by rw [hI 23 (by decide) (by decide)]; exact h14) H' (nI_add _ _) (by omega) (Or.inr ⟨nI_pos (by omega), w, by omega, rfl, fun _ _ => rfl⟩) (hccb w (by omega)) (fun h => hS (k + 1) h) (fun h v hv hlv => ⟨hA (k + 1) (by omega) h v hv hlv, hCb _ (by omega) v hv⟩) (fun v _ => hch _ _) (fun h => ?_) (fun h => ?_)
            · refine x_ist4 qX7_findCheapest_46 (by decide) rfl ?_
              refine x_aldn qX7_findCheapest_48 rfl trivial ?_
              refine x_getR qX7_findCheapest_49 fX7_37 rfl rfl ?_
              refine x_ildn qX7_findCheapest_52 rfl ?_
              refine x_bipush (v := nI 64) qX7_findCheapest_53 rfl ?_
              refine x_imul_n qX7_findCheapest_55 ?_
              refine x_ildn qX7_findCheapest_56 rfl ?_
              refine x_iadd_n qX7_findCheapest_57 ?_
              refine x_aldn qX7_findCheapest_58 rfl trivial ?_
              refine x_getR qX7_findCheapest_59 fX7_28 rfl rfl ?_
              refine x_ildn qX7_findCheapest_62 rfl ?_
              refine x_ialde qX7_findCheapest_63 dd_29 rfl (by omega) (by decide) hsw ?_
              refine x_ild qX7_findCheapest_64 rfl ?_
              refine x_if_ge_f (tgt := 73) qX7_findCheapest_66 (by omega) (by decide) ?_
              refine x_iconst (v := nI 0) qX7_findCheapest_69 rfl ?_
              refine x_goto (tgt := 84) qX7_findCheapest_70 (by omega) ?_
              refine x_iadd qX7_findCheapest_84 ?_
              refine x_iast qX7_findCheapest_85 dd_32 rfl (by omega) (by decide) ?_
              refine key _ _ ?_
              rw [show len - 1 - k = 0 by omega, hC0, show zI (f w) + nI 0 = zI (f w) by rw [← zI_nat, zI_add]; simp]
            · have hs1 := hCs (len - 1 - (k + 1)) w
              rw [show len - 1 - (len - 1 - (k + 1)) = k + 1 by omega, show len - 1 - (k + 1) + 1 = len - 1 - k by omega] at hs1
              cases ha : amin (fun v => LV (k + 1) v && nxt kd mm n w v) (fun v => C (len - 1 - (k + 1)) v + (chI mm n cc w v : Int)) (wys mm n) with
              | none =>
                rw [ha] at hs1
                refine x_ist4 qX7_findCheapest_46 (by decide) rfl ?_
                refine x_aldn qX7_findCheapest_48 rfl trivial ?_
                refine x_getR qX7_findCheapest_49 fX7_37 rfl rfl ?_
                refine x_ildn qX7_findCheapest_52 rfl ?_
                refine x_bipush (v := nI 64) qX7_findCheapest_53 rfl ?_
                refine x_imul_n qX7_findCheapest_55 ?_
                refine x_ildn qX7_findCheapest_56 rfl ?_
                refine x_iadd_n qX7_findCheapest_57 ?_
                refine x_aldn qX7_findCheapest_58 rfl trivial ?_
                refine x_getR qX7_findCheapest_59 fX7_28 rfl rfl ?_
                refine x_ildn qX7_findCheapest_62 rfl ?_
                refine x_ialde qX7_findCheapest_63 dd_29 rfl (by omega) (by decide) hsw ?_
                refine x_ild qX7_findCheapest_64 rfl ?_
                refine x_if_ge_f (tgt := 73) qX7_findCheapest_66 (by omega) (by decide) ?_
                refine x_iconst (v := nI 0) qX7_findCheapest_69 rfl ?_
                refine x_goto (tgt := 84) qX7_findCheapest_70 (by omega) ?_
                refine x_iadd qX7_findCheapest_84 ?_
                refine x_iast qX7_findCheapest_85 dd_32 rfl (by omega) (by decide) ?_
                refine key _ _ ?_
                rw [hs1, show zI (f w) + nI 0 = zI (f w) by rw [← zI_nat, zI_add]; simp]
                simp
              | some v =>
                rw [ha] at hs1
                obtain ⟨hv1, hv2, -⟩ := amin_some ha
                rw [Bool.and_eq_true] at hv2
                have hcv := hA (k + 1) (by omega) h v hv1 hv2.1
                refine x_ist4 qX7_findCheapest_46 (by decide) rfl ?_
                refine x_aldn qX7_findCheapest_48 rfl trivial ?_
                refine x_getR qX7_findCheapest_49 fX7_37 rfl rfl ?_
                refine x_ildn qX7_findCheapest_52 rfl ?_
                refine x_bipush (v := nI 64) qX7_findCheapest_53 rfl ?_
                refine x_imul_n qX7_findCheapest_55 ?_
                refine x_ildn qX7_findCheapest_56 rfl ?_
                refine x_iadd_n qX7_findCheapest_57 ?_
                refine x_aldn qX7_findCheapest_58 rfl trivial ?_
                refine x_getR qX7_findCheapest_59 fX7_28 rfl rfl ?_
                refine x_ildn qX7_findCheapest_62 rfl ?_
                refine x_ialde qX7_findCheapest_63 dd_29 rfl (by omega) (by decide) hsw ?_
                refine x_ild qX7_findCheapest_64 rfl ?_
                refine x_if_ge_t (tgt := 73) qX7_findCheapest_66 (by omega) (nI_pos' (by omega)) ?_
                refine x_aldn qX7_findCheapest_73 rfl trivial ?_
                refine x_ildn qX7_findCheapest_74 rfl ?_
                refine x_iconst (v := nI 1) qX7_findCheapest_75 rfl ?_
                refine x_iadd_n qX7_findCheapest_76 ?_
                refine x_ildn qX7_findCheapest_77 rfl ?_
                refine x_ild qX7_findCheapest_78 rfl ?_
                refine x_ildn qX7_findCheapest_80 rfl ?_
                refine x_cV4 (d' := 3) qX7_findCheapest_81 cX7_146 rfl ⟨_, rfl, rfl⟩ rfl rfl (Nat.le_of_ble_eq_true rfl) (Nat.le_of_ble_eq_true rfl) (by decide) ?_
                refine c_X7_costOf (c := C (len - 1 - (k + 1)) v) (e := chI mm n cc w v) H' (by omega) hv1 ?_ hcv ?_
                · rcases hccb w (by omega) with ⟨a, b⟩ | ⟨a, u, b1, b2, b3⟩
                  · exact Or.inl ⟨a, b v hv1⟩
                  · exact Or.inr ⟨a, u, b1, b2, b3 v hv1⟩
                · refine x_iadd qX7_findCheapest_84 ?_
                  refine x_iast qX7_findCheapest_85 dd_32 rfl (by omega) (by decide) ?_
                  refine key _ _ ?_
                  rw [hs1, zI_add]
          · refine x_if_eq_t (tgt := 86) qX7_findCheapest_36 (by omega) (by decide) ?_
            exact skip _ (by rw [← hlw]; exact h33)
      refine x_ildn qX7_findCheapest_12 rfl ?_
      refine x_if_lt_nf (tgt := 98) qX7_findCheapest_13 (by omega) (by omega) ?_
      refine x_iconst (v := nI 0) qX7_findCheapest_16 rfl ?_
      refine x_ist3 qX7_findCheapest_17 (by decide) rfl ?_
      exact inner (wys mm n) 0 I' _ (by omega) hI hA (fun v hv => by omega)
  refine x_aldn qX7_findCheapest_5 rfl trivial ?_
  refine x_getIe qX7_findCheapest_6 fX7_47 rfl h13 ?_
  refine x_iconst (v := nI 1) qX7_findCheapest_9 rfl ?_
  refine x_isub qX7_findCheapest_10 ?_
  refine x_ist2 qX7_findCheapest_11 (by decide) rfl ?_
  rw [sub1_dec]
  exact outer len I _ _ (Nat.le_refl _) (fun _ _ _ => rfl) (fun i h1 h2 => by omega)
end K22
