/-! the state of the class: what it holds -/
def HS (h : Nat) (cs : List Cls) (I : cm_I) : Prop := HH h (fun i => lst 0 i cs) (fun i => lst 1 i cs) (lst 3 0 cs) (btk cs) I
def hxI (hx : Nat) : Int32 := if hx = 6 then -1 else nI hx
def hcs (hs : List (List Cls)) (hx : Nat) : List Cls := hs.getD hx []
abbrev IM : Type := Option (Nat × (Nat → Nat) × Nat × (Nat → Nat) × Nat)
abbrev TP : Type := Nat → Nat × Nat × (Nat → Int64)
def IMG (im : IM) (hs : List (List Cls)) (I : cm_I) : Prop := match im with
  | none => I 0 15 = 0
  | some (a, x, b, y, z) => I 0 15 = 1 ∧ MT 19 a x I ∧ MT 21 b y I ∧ I 0 14 = hxI z ∧ (z < hs.length ∨ z = 6)
def tsI (k : Nat) : Int32 := if k = 0 then -1 else nI (k - 1)
def TPS (tp : TP) (I : cm_I) (L : cm_L) : Prop := ∀ p, p < 6 → (tp p).1 ≤ 5 ∧ (tp p).2.1 ≤ 60 ∧ ((tp p).1 = 0 → (tp p).2.1 = 0) ∧ I (tA p) 1 = tsI (tp p).1 ∧ I (tA p) 2 = nI (tp p).2.1 ∧ ∀ j, j < 60 → L (tA p + 1) j = (tp p).2.2 j
def CI (n : Nat) (kd mm : Nat → Nat) (len : Nat) (tx : Nat → Nat) (hs : List (List Cls)) (hx c1 : Nat) (w1 : Nat → Nat) (c2 : Nat) (w2 : Nat → Nat) (im : IM) (s : List Nat) (tp : TP) (I : cm_I) (L : cm_L) : Prop :=
  HI n kd mm I L ∧ TX len tx I ∧ (I 0 12 = nI hs.length ∧ hs.length ≤ 6 ∧ (∀ h cs, hs[h]? = some cs → HS h cs I) ∧ HS 6 [] I) ∧ ((hx < hs.length ∨ hx = 6) ∧ I 0 13 = hxI hx) ∧ MT 15 c1 w1 I ∧ MT 17 c2 w2 I ∧ IMG im hs I ∧ (TRC s I ∧ s.length < 1000) ∧ TPS tp I L
def KM (I I' : cm_I) (L L' : cm_L) : Prop := ∀ b, 73 ≤ b → b < 106 → I' b = I b ∧ L' b = L b
theorem KM_rfl {I : cm_I} {L : cm_L} : KM I I L L := fun _ _ _ => ⟨rfl, rfl⟩
theorem KM_tr {I I' I'' : cm_I} {L L' L'' : cm_L} (a : KM I I' L L') (b : KM I' I'' L' L'') : KM I I'' L L'' := fun c h1 h2 => ⟨(b c h1 h2).1.trans (a c h1 h2).1, (b c h1 h2).2.trans (a c h1 h2).2⟩
theorem TX_fr2 {len : Nat} {tx : Nat → Nat} {I I' : cm_I} (T : TX len tx I) (h7 : I' 7 = I 7) (h8 : I' 8 = I 8) : TX len tx I' := by
  obtain ⟨a, b, c⟩ := T
  exact ⟨by rw [h7]; exact a, b, by rw [h8]; exact c⟩
theorem IMG_fr {im : IM} {hs : List (List Cls)} {I I' : cm_I} (M : IMG im hs I) (h14 : I' 0 14 = I 0 14) (h15 : I' 0 15 = I 0 15) (h : ∀ b, 19 ≤ b → b < 23 → I' b = I b) : IMG im hs I' := by
  cases im with
  | none => exact h15.trans M
  | some q =>
    obtain ⟨a, x, b, y, z⟩ := q
    obtain ⟨m1, m2, m3, m4, m5⟩ := M
    exact ⟨h15.trans m1, MT_fr m2 (h 19 (by omega) (by omega)) (h 20 (by omega) (by omega)), MT_fr m3 (h 21 (by omega) (by omega)) (h 22 (by omega) (by omega)), h14.trans m4, m5⟩
theorem TRC_fr {s : List Nat} {I I' : cm_I} (M : TRC s I) (h34 : I' 34 = I 34) (h35 : I' 35 = I 35) : TRC s I' := by
  obtain ⟨a, b⟩ := M
  exact ⟨by rw [h34]; exact a, by rw [h35]; exact b⟩
theorem TPS_fr {tp : TP} {I I' : cm_I} {L L' : cm_L} (M : TPS tp I L) (hI : ∀ b, 61 ≤ b → b < 73 → I' b = I b) (hL : ∀ b, 61 ≤ b → b < 73 → L' b = L b) : TPS tp I' L' := by
  intro p hp
  obtain ⟨a1, a2, a3, a4, a5, a6⟩ := M p hp
  have e : tA p = 61 + 2 * p := rfl
  refine ⟨a1, a2, a3, ?_, ?_, fun j hj => ?_⟩
  · rw [hI _ (by omega) (by omega)]; exact a4
  · rw [hI _ (by omega) (by omega)]; exact a5
  · rw [hL _ (by omega) (by omega)]; exact a6 j hj
theorem HS_fr {h : Nat} {cs : List Cls} {I I' : cm_I} (H : HS h cs I) (hI : ∀ b, hA h ≤ b → b ≤ hA h + 3 → I' b = I b) : HS h cs I' := HH_fr H hI
section K31
variable {l : Launch} {g : cm_G} {I : cm_I} {L : cm_L} {hr tl : Option Nat} {Q : cm_Post} {n : Nat} {kd mm : Nat → Nat} {len : Nat} {tx : Nat → Nat} {hs : List (List Cls)} {hx c1 : Nat} {w1 : Nat → Nat} {c2 : Nat} {w2 : Nat → Nat} {im : IM} {s : List Nat} {tp : TP}
theorem CI_fr {I' : cm_I} {L' : cm_L} (C : CI n kd mm len tx hs hx c1 w1 c2 w2 im s tp I L) (hI : ∀ b, b ≠ 9 → b ≠ 23 → (b < 28 ∨ 33 < b) → (b < 73 ∨ 106 ≤ b) → I' b = I b) (hL : ∀ b, (b < 24 ∨ 27 < b) → (b < 73 ∨ 106 ≤ b) → L' b = L b) : CI n kd mm len tx hs hx c1 w1 c2 w2 im s tp I' L' := by
  obtain ⟨a1, a2, ⟨b1, b2, b3, b4⟩, ⟨d1, d2⟩, e1, e2, f, ⟨g1, g2⟩, k⟩ := C
  have h0 : I' 0 = I 0 := hI 0 (by omega) (by omega) (by omega) (by omega)
  refine ⟨HI_frame a1 (fun b hb => hI b (by omega) (by omega) (by omega) (by omega)) (fun b hb => hL b (by omega) (by omega)), TX_fr2 a2 (hI 7 (by omega) (by omega) (by omega) (by omega)) (hI 8 (by omega) (by omega) (by omega) (by omega)), ⟨by rw [h0]; exact b1, b2, fun h cs hh => ?_, ?_⟩, ⟨d1, by rw [h0]; exact d2⟩, ?_, ?_, ?_, ⟨?_, g2⟩, ?_⟩
  · have hl : h < hs.length := (List.getElem?_eq_some_iff.mp hh).1
    have hc := hA_c (h := h) (by omega)
    exact HS_fr (b3 h cs hh) (fun b h1 h2 => hI b (by omega) (by omega) (by omega) (by omega))
  · have hc := hA_c (h := 6) (by omega)
    exact HS_fr b4 (fun b h1 h2 => hI b (by omega) (by omega) (by omega) (by omega))
  · exact MT_fr e1 (hI _ (by omega) (by omega) (by omega) (by omega)) (hI _ (by omega) (by omega) (by omega) (by omega))
  · exact MT_fr e2 (hI _ (by omega) (by omega) (by omega) (by omega)) (hI _ (by omega) (by omega) (by omega) (by omega))
  · exact IMG_fr f (by rw [h0]) (by rw [h0]) (fun b h1 h2 => hI b (by omega) (by omega) (by omega) (by omega))
  · exact TRC_fr g1 (hI _ (by omega) (by omega) (by omega) (by omega)) (hI _ (by omega) (by omega) (by omega) (by omega))
  · exact TPS_fr k (fun b h1 h2 => hI b (by omega) (by omega) (by omega) (by omega)) (fun b h1 h2 => hL b (by omega) (by omega))
theorem CI_FQ {I' : cm_I} {L' : cm_L} (C : CI n kd mm len tx hs hx c1 w1 c2 w2 im s tp I L) (F : FQ I I' L L') : CI n kd mm len tx hs hx c1 w1 c2 w2 im s tp I' L' ∧ KM I I' L L' := ⟨CI_fr C (fun b h1 h2 h3 _ => F.1 b h2 h3) (fun b h _ => F.2 b h), fun b h1 h2 => ⟨F.1 b (by omega) (by omega), F.2 b (by omega)⟩⟩
theorem CI_hh (C : CI n kd mm len tx hs hx c1 w1 c2 w2 im s tp I L) : hx < 7 ∧ HS hx (hcs hs hx) I := by
  obtain ⟨-, -, ⟨b1, b2, b3, b4⟩, ⟨d1, -⟩, -⟩ := C
  unfold hcs
  rcases d1 with d1 | d1
  · refine ⟨by omega, b3 hx _ ?_⟩
    rw [List.getD_eq_getElem?_getD, List.getElem?_eq_getElem d1]; rfl
  · subst d1
    refine ⟨by omega, ?_⟩
    rw [List.getD_eq_getElem?_getD, List.getElem?_eq_none (by omega)]
    exact b4
theorem c_X11_heldHouse (C : CI n kd mm len tx hs hx c1 w1 c2 w2 im s tp I L) (hQ : Q (some (.ref (hA hx))) I L (RR n hr tl) (DD n)) : cm_Ex l g 1 0 0 mX11_heldHouse 0 [.ref 0] [] I L (RR n hr tl) (DD n) Q := by
  obtain ⟨-, -, ⟨b1, b2, b3, b4⟩, ⟨d1, d2⟩, -⟩ := id C
  rcases d1 with d1 | d1
  · have e : I 0 13 = nI hx := by rw [d2]; unfold hxI; rw [if_neg (by omega)]
    refine x_aldn qX11_heldHouse_0 rfl trivial ?_
    refine x_getIe qX11_heldHouse_1 fX11_87 rfl e ?_
    refine x_if_lt_nf (tgt := 31) qX11_heldHouse_4 (by omega) (by omega) ?_
    refine x_aldn qX11_heldHouse_7 rfl trivial ?_
    refine x_getIe qX11_heldHouse_8 fX11_87 rfl e ?_
    refine x_aldn qX11_heldHouse_11 rfl trivial ?_
    refine x_getR qX11_heldHouse_12 fX11_36 rfl rfl ?_
    refine x_alen qX11_heldHouse_15 rfl (by decide) rfl ?_
    refine x_icmp_ge_nf (tgt := 31) qX11_heldHouse_16 (by omega) (by omega) (by omega) (by omega) ?_
    refine x_aldn qX11_heldHouse_19 rfl trivial ?_
    refine x_getR qX11_heldHouse_20 fX11_36 rfl rfl ?_
    refine x_aldn qX11_heldHouse_23 rfl trivial ?_
    refine x_getIe qX11_heldHouse_24 fX11_87 rfl e ?_
    refine x_aalde qX11_heldHouse_27 rfl (by decide) rfl (by omega) (by decide) (rr_hs (by omega)) ?_
    refine x_goto (tgt := 35) qX11_heldHouse_28 (by omega) ?_
    refine x_aret qX11_heldHouse_35 rfl trivial ?_
    exact hQ
  · subst d1
    have e : I 0 13 = -1 := d2
    refine x_aldn qX11_heldHouse_0 rfl trivial ?_
    refine x_getIe qX11_heldHouse_1 fX11_87 rfl e ?_
    refine x_if_lt_t (tgt := 31) qX11_heldHouse_4 (by omega) (by decide) ?_
    refine x_aldn qX11_heldHouse_31 rfl trivial ?_
    refine x_getR qX11_heldHouse_32 fX11_41 rfl rfl ?_
    refine x_aret qX11_heldHouse_35 rfl trivial ?_
    exact hQ
/-- the ways that fit, as the house in hand and the first meter have it -/
def F1 (n : Nat) (kd mm : Nat → Nat) (cs : List Cls) (w1 : Nat → Nat) : Nat → Nat → Bool := ft1 (opn kd mm n (btk cs)) (sumN (fun i => lst 0 i cs) mm 15 n) w1 (lst 3 0 cs)
def LDc (n : Nat) (kd mm : Nat → Nat) (cs : List Cls) (c1 : Nat) (w1 : Nat → Nat) (I : cm_I) (L : cm_L) : Prop := LD n kd mm (fun i => lst 0 i cs) (lst 3 0 cs) (btk cs) c1 w1 I L
theorem c_X11_laid (C : CI n kd mm len tx hs hx c1 w1 c2 w2 im s tp I L) (hQ : ∀ I' L', LDc n kd mm (hcs hs hx) c1 w1 I' L' → CI n kd mm len tx hs hx c1 w1 c2 w2 im s tp I' L' → KM I I' L L' → Q (some (.ref 23)) I' L' (RR n hr (some (hA hx))) (DD n)) : cm_Ex l g 6 0 0 mX11_laid 0 [.ref 0] [] I L (RR n hr tl) (DD n) Q := by
  obtain ⟨hh, HC⟩ := CI_hh C
  refine x_aldn qX11_laid_0 rfl trivial ?_
  refine x_getR qX11_laid_1 fX11_66 rfl rfl ?_
  refine x_aldn qX11_laid_4 rfl trivial ?_
  refine x_cV0 (d' := 1) qX11_laid_5 cX11_127 rfl ⟨_, rfl, rfl⟩ rfl rfl (Nat.le_of_ble_eq_true rfl) (Nat.le_of_ble_eq_true rfl) (by decide) ?_
  refine c_X11_heldHouse C ?_
  refine x_cV1 (d' := 5) qX11_laid_8 cX11_276 rfl ⟨_, rfl, rfl⟩ rfl rfl (Nat.le_of_ble_eq_true rfl) (Nat.le_of_ble_eq_true rfl) (by decide) ?_
  refine c_X7_lay hh C.1 HC C.2.2.2.2.1 (fun I' L' hD hI' hL' => ?_)
  refine x_aldn qX11_laid_11 rfl trivial ?_
  refine x_getR qX11_laid_12 fX11_66 rfl rfl ?_
  refine x_aret qX11_laid_15 rfl trivial ?_
  have F : FQ I I' L L' := ⟨fun b h1 h2 => hI' b h1 (by omega), fun b hb => hL' b (by omega) (by omega) (by omega)⟩
  have q := CI_FQ C F
  exact hQ I' L' hD q.1 q.2
end K31
