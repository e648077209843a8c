/-! tales: what both sides find -/
def SB (x : Int64) (W : Nat) (f : Nat → Bool) : Prop := ∀ w, w < 64 → tb x w = (decide (w < W) && f w)
theorem SB_ext {x : Int64} {W : Nat} {f f' : Nat → Bool} (h : SB x W f) (e : ∀ w, w < W → f w = f' w) : SB x W f' := fun w hw => by
  rw [h w hw]
  by_cases hW : w < W
  · simp [hW, e w hW]
  · simp [hW]
theorem SB_0 {x : Int64} {W : Nat} {f : Nat → Bool} (hW : W ≤ 64) (h : SB x W f) : x = 0 ↔ exb f W = false := by
  constructor
  · intro h0
    subst h0
    cases he : exb f W with
    | false => rfl
    | true =>
      obtain ⟨i, hi, hf⟩ := exb_iff.mp he
      have := h i (by omega)
      rw [tb_0] at this
      simp [hi, hf] at this
  · intro h0
    apply tb_ext
    intro w hw
    rw [h w hw, tb_0]
    by_cases hwW : w < W
    · cases hf : f w with
      | false => simp
      | true => rw [exb_iff.mpr ⟨w, hwW, hf⟩] at h0; cases h0
    · simp [hwW]
theorem SB_and {x y : Int64} {W : Nat} {f f' : Nat → Bool} (h : SB x W f) (h' : ∀ w, w < W → tb y w = f' w) : SB (x &&& y) W (fun w => f w && f' w) := fun w hw => by
  rw [tb_and, h w hw]
  by_cases hW : w < W
  · simp [hW, h' w hW]
  · simp [hW]
theorem SB_and' {x y : Int64} {W : Nat} {f f' : Nat → Bool} (h : SB y W f) (h' : ∀ w, w < W → tb x w = f' w) : SB (x &&& y) W (fun w => f' w && f w) := fun w hw => by
  rw [tb_and, h w hw]
  by_cases hW : w < W
  · simp [hW, h' w hW]
  · simp [hW]
theorem SB_at {x : Int64} {W : Nat} {f : Nat → Bool} (hW : W ≤ 64) (h : SB x W f) {w : Nat} (hw : w < W) : tb x w = f w := by
  rw [h w (by omega)]; simp [hw]
def nearN (a b g : Nat) : Bool := decide (a ≤ b + g) && decide (b ≤ a + g)
/-- ways that tales reach so far -/
def fwd (fit nx : Nat → Nat → Bool) (W : Nat) : Nat → Nat → Bool
  | 0, w => fit 0 w
  | r + 1, w => fit (r + 1) w && exb (fun v => fwd fit nx W r v && nx v w) W
def bkw (fit nx : Nat → Nat → Bool) (W len : Nat) : Nat → Nat → Bool
  | 0, w => fwd fit nx W (len - 1) w
  | m + 1, w => fwd fit nx W (len - 1 - (m + 1)) w && exb (fun v => bkw fit nx W len m v && nx w v) W
/-- ways in whole tales -/
def liv (fit nx : Nat → Nat → Bool) (W len r w : Nat) : Bool := bkw fit nx W len (len - 1 - r) w
def tal (fit nx : Nat → Nat → Bool) (W len : Nat) : Bool := decide (len = 0) || exb (fwd fit nx W (len - 1)) W
def sumW (f : Nat → Nat) : Nat → Nat
  | 0 => 0
  | n + 1 => sumW f n + f n
def cfw (fit nx : Nat → Nat → Bool) (W : Nat) : Nat → Nat → Nat
  | 0, w => if fit 0 w then 1 else 0
  | r + 1, w => if fit (r + 1) w then sumW (fun v => if nx v w then cfw fit nx W r v else 0) W else 0
/-- how many tales -/
def cnt (fit nx : Nat → Nat → Bool) (W len : Nat) : Nat := if len = 0 then 1 else sumW (cfw fit nx W (len - 1)) W
/-- the first of the least -/
def amin (f : Nat → Bool) (g : Nat → Int) : Nat → Option Nat
  | 0 => none
  | n + 1 => match amin f g n with
    | none => if f n then some n else none
    | some b => if f n && decide (g n < g b) then some n else some b
/-- the least cost from a way on; m readings are left behind it -/
def cst (lv : Nat → Nat → Bool) (nx : Nat → Nat → Bool) (c : Nat → Int) (ch : Nat → Nat → Int) (W len : Nat) : Nat → Nat → Int
  | 0, w => c w
  | m + 1, w => c w + match amin (fun v => lv (len - 1 - m) v && nx w v) (fun v => cst lv nx c ch W len m v + ch w v) W with
    | none => 0
    | some v => cst lv nx c ch W len m v + ch w v
/-- the first cheapest tale -/
def tlr (lv : Nat → Nat → Bool) (nx : Nat → Nat → Bool) (c : Nat → Int) (ch : Nat → Nat → Int) (W len : Nat) : Nat → Nat
  | 0 => (amin (lv 0) (fun v => cst lv nx c ch W len (len - 1) v) W).getD 0
  | r + 1 => (amin (fun v => lv (r + 1) v && nx (tlr lv nx c ch W len r) v) (fun v => cst lv nx c ch W len (len - 1 - (r + 1)) v + ch (tlr lv nx c ch W len r) v) W).getD 0
theorem exb_false {f : Nat → Bool} {n : Nat} : exb f n = false ↔ ∀ i, i < n → f i = false := by
  constructor
  · intro h i hi
    cases hf : f i with
    | false => rfl
    | true => rw [exb_iff.mpr ⟨i, hi, hf⟩] at h; cases h
  · intro h
    cases he : exb f n with
    | false => rfl
    | true =>
      obtain ⟨i, hi, hf⟩ := exb_iff.mp he
      rw [h i hi] at hf; cases hf
section TA
variable {fit nx : Nat → Nat → Bool} {W len : Nat}
theorem liv_last {w : Nat} : liv fit nx W len (len - 1) w = fwd fit nx W (len - 1) w := by
  unfold liv
  rw [Nat.sub_self]; rfl
theorem liv_succ {r w : Nat} (h : r + 1 < len) : liv fit nx W len r w = (fwd fit nx W r w && exb (fun v => liv fit nx W len (r + 1) v && nx w v) W) := by
  unfold liv
  obtain ⟨m, hm⟩ : ∃ m, len - 1 - r = m + 1 := ⟨len - 1 - r - 1, by omega⟩
  have e1 : len - 1 - (r + 1) = m := by omega
  have e2 : len - 1 - (m + 1) = r := by omega
  rw [hm, e1]
  show (fwd fit nx W (len - 1 - (m + 1)) w && _) = _
  rw [e2]
theorem liv_fwd {r w : Nat} (h : r < len) (hl : liv fit nx W len r w = true) : fwd fit nx W r w = true := by
  by_cases h1 : r + 1 < len
  · rw [liv_succ h1, Bool.and_eq_true] at hl; exact hl.1
  · have e : r = len - 1 := by omega
    subst e
    rwa [liv_last] at hl
theorem fwd_fit {r w : Nat} (h : fwd fit nx W r w = true) : fit r w = true := by
  cases r with
  | zero => exact h
  | succ r =>
    unfold fwd at h
    rw [Bool.and_eq_true] at h; exact h.1
theorem fwd_back {r k : Nat} (h : exb (fwd fit nx W (r + k)) W = true) : exb (fwd fit nx W r) W = true := by
  induction k with
  | zero => exact h
  | succ k ih =>
    obtain ⟨w, hw, hf⟩ := exb_iff.mp h
    rw [show r + (k + 1) = r + k + 1 by omega] at hf
    unfold fwd at hf
    rw [Bool.and_eq_true] at hf
    obtain ⟨v, hv, hg⟩ := exb_iff.mp hf.2
    rw [Bool.and_eq_true] at hg
    exact ih (exb_iff.mpr ⟨v, hv, hg.1⟩)
/-- a way lives at each reading where there is a tale -/
theorem liv_some {r : Nat} (h : r < len) : exb (liv fit nx W len r) W = exb (fwd fit nx W (len - 1)) W := by
  obtain ⟨k, hk⟩ : ∃ k, len - 1 = r + k := ⟨len - 1 - r, by omega⟩
  induction k generalizing r with
  | zero =>
    have e : r = len - 1 := by omega
    subst e
    exact exb_congr fun i _ => liv_last
  | succ k ih =>
    rw [← ih (r := r + 1) (by omega) (by omega)]
    rw [Bool.eq_iff_iff, exb_iff, exb_iff]
    constructor
    · rintro ⟨w, hw, hl⟩
      rw [liv_succ (by omega), Bool.and_eq_true] at hl
      obtain ⟨v, hv, hg⟩ := exb_iff.mp hl.2
      rw [Bool.and_eq_true] at hg
      exact ⟨v, hv, hg.1⟩
    · rintro ⟨v, hv, hl⟩
      have hf := liv_fwd (by omega) hl
      unfold fwd at hf
      rw [Bool.and_eq_true] at hf
      obtain ⟨w, hw, hg⟩ := exb_iff.mp hf.2
      rw [Bool.and_eq_true] at hg
      refine ⟨w, hw, ?_⟩
      rw [liv_succ (by omega), hg.1, Bool.true_and]
      exact exb_iff.mpr ⟨v, hv, by rw [hl, hg.2]; rfl⟩
theorem tal_liv {r : Nat} (h : r < len) : tal fit nx W len = exb (liv fit nx W len r) W := by
  unfold tal
  rw [liv_some h, decide_eq_false (by omega), Bool.false_or]
/-- a way that lives leads on to one that lives -/
theorem liv_next {r w : Nat} (h : r + 1 < len) (hl : liv fit nx W len r w = true) : exb (fun v => liv fit nx W len (r + 1) v && nx w v) W = true := by
  rw [liv_succ h, Bool.and_eq_true] at hl; exact hl.2
theorem amin_none {f : Nat → Bool} {g : Nat → Int} : ∀ {n : Nat}, amin f g n = none ↔ exb f n = false := by
  intro n
  induction n with
  | zero => simp [amin, exb]
  | succ n ih =>
    simp only [amin, exb]
    cases ha : amin f g n with
    | none =>
      rw [ih.mp ha]
      cases hf : f n <;> simp
    | some b =>
      have : exb f n = true := by
        cases he : exb f n with
        | true => rfl
        | false => rw [ih.mpr he] at ha; cases ha
      rw [this]
      cases hb : (f n && decide (g n < g b)) <;> simp [hb]
theorem amin_some {f : Nat → Bool} {g : Nat → Int} : ∀ {n b : Nat}, amin f g n = some b → b < n ∧ f b = true ∧ ∀ i, i < n → f i = true → g b ≤ g i := by
  intro n
  induction n with
  | zero => intro b h; cases h
  | succ n ih =>
    intro b h
    simp only [amin] at h
    cases ha : amin f g n with
    | none =>
      rw [ha] at h
      have hn := exb_false.mp (amin_none.mp ha)
      cases hf : f n with
      | false => simp [hf] at h
      | true =>
        simp [hf] at h
        subst h
        refine ⟨by omega, hf, fun i hi hfi => ?_⟩
        by_cases e : i = n
        · subst e; exact Int.le_refl _
        · rw [hn i (by omega)] at hfi; cases hfi
    | some c =>
      rw [ha] at h
      obtain ⟨h1, h2, h3⟩ := ih ha
      cases hb : (f n && decide (g n < g c)) with
      | true =>
        simp only [hb, if_true] at h
        cases h
        rw [Bool.and_eq_true, decide_eq_true_eq] at hb
        refine ⟨by omega, hb.1, fun i hi hfi => ?_⟩
        by_cases e : i = n
        · subst e; exact Int.le_refl _
        · have := h3 i (by omega) hfi; omega
      | false =>
        simp only [hb] at h
        cases h
        refine ⟨by omega, h2, fun i hi hfi => ?_⟩
        by_cases e : i = n
        · subst e
          rw [hfi, Bool.true_and, decide_eq_false_iff_not] at hb
          omega
        · exact h3 i (by omega) hfi
theorem amin_congr {f f' : Nat → Bool} {g g' : Nat → Int} : ∀ {n : Nat}, (∀ i, i < n → f i = f' i) → (∀ i, i < n → f i = true → g i = g' i) → amin f g n = amin f' g' n := by
  intro n
  induction n with
  | zero => intro _ _; rfl
  | succ n ih =>
    intro h1 h2
    have e := ih (fun i hi => h1 i (by omega)) (fun i hi => h2 i (by omega))
    simp only [amin, ← e]
    cases ha : amin f g n with
    | none => simp [h1 n (by omega)]
    | some b =>
      obtain ⟨hb, hfb, _⟩ := amin_some ha
      have hgb := h2 b (by omega) hfb
      simp only []
      rw [← h1 n (by omega), ← hgb]
      cases hf : f n with
      | false => simp
      | true => rw [h2 n (by omega) hf]
theorem sumW_congr {f f' : Nat → Nat} : ∀ {n : Nat}, (∀ i, i < n → f i = f' i) → sumW f n = sumW f' n := by
  intro n
  induction n with
  | zero => intro _; rfl
  | succ n ih => intro h; simp only [sumW, ih fun i hi => h i (by omega), h n (by omega)]
theorem sumW_add {f f' : Nat → Nat} : ∀ {n : Nat}, sumW (fun i => f i + f' i) n = sumW f n + sumW f' n := by
  intro n
  induction n with
  | zero => rfl
  | succ n ih => simp only [sumW, ih]; omega
theorem sumW_mul {f : Nat → Nat} {k : Nat} : ∀ {n : Nat}, sumW (fun i => f i * k) n = sumW f n * k := by
  intro n
  induction n with
  | zero => simp [sumW]
  | succ n ih => simp only [sumW, ih, Nat.add_mul]
theorem sumW_mul' {f : Nat → Nat} {k : Nat} : ∀ {n : Nat}, sumW (fun i => k * f i) n = k * sumW f n := by
  intro n
  induction n with
  | zero => simp [sumW]
  | succ n ih => simp only [sumW, ih, Nat.mul_add]
theorem sumW_0 : ∀ {n : Nat}, sumW (fun _ => 0) n = 0 := by
  intro n
  induction n with
  | zero => rfl
  | succ n ih => simp only [sumW, ih]
theorem sumW_swap {f : Nat → Nat → Nat} {m : Nat} : ∀ {n : Nat}, sumW (fun i => sumW (fun j => f i j) m) n = sumW (fun j => sumW (fun i => f i j) n) m := by
  intro n
  induction n with
  | zero => simp [sumW, sumW_0]
  | succ n ih => simp only [sumW, ih, sumW_add]
/-- tales from a way on; m readings are left behind it -/
def cbw (fit nx : Nat → Nat → Bool) (W len : Nat) : Nat → Nat → Nat
  | 0, _ => 1
  | m + 1, w => sumW (fun v => if nx w v && fit (len - 1 - m) v then cbw fit nx W len m v else 0) W
theorem cnt_mid : ∀ {m : Nat}, m < len → cnt fit nx W len = sumW (fun w => cfw fit nx W (len - 1 - m) w * cbw fit nx W len m w) W := by
  intro m
  induction m with
  | zero =>
    intro h
    unfold cnt
    rw [if_neg (by omega)]
    exact sumW_congr fun i _ => by simp [cbw]
  | succ m ih =>
    intro h
    rw [ih (by omega)]
    have e : len - 1 - m = len - 1 - (m + 1) + 1 := by omega
    have h1 : ∀ v, cfw fit nx W (len - 1 - m) v * cbw fit nx W len m v = sumW (fun w => cfw fit nx W (len - 1 - (m + 1)) w * (if nx w v && fit (len - 1 - m) v then cbw fit nx W len m v else 0)) W := by
      intro v
      rw [e]
      show (if fit _ v then _ else 0) * _ = _
      by_cases hf : fit (len - 1 - (m + 1) + 1) v = true
      · rw [if_pos hf, ← sumW_mul]
        refine sumW_congr fun w _ => ?_
        cases nx w v <;> simp [hf]
      · rw [if_neg hf, Nat.zero_mul]
        rw [Bool.not_eq_true] at hf
        simp only [hf, Bool.and_false]
        simp [sumW_0]
    rw [sumW_congr fun v _ => h1 v, sumW_swap]
    refine sumW_congr fun w _ => ?_
    show sumW (fun v => cfw fit nx W (len - 1 - (m + 1)) w * _) W = _
    rw [sumW_mul']
    rfl
theorem cnt_first (h : 0 < len) : cnt fit nx W len = sumW (fun w => if fit 0 w then cbw fit nx W len (len - 1) w else 0) W := by
  rw [cnt_mid (m := len - 1) (by omega), Nat.sub_self]
  refine sumW_congr fun w _ => ?_
  show (if fit 0 w then 1 else 0) * _ = _
  cases fit 0 w <;> simp
/-- where a way that is reached doesn't live, no tale leads on from it -/
theorem cbw_live : ∀ {m w : Nat}, m < len → w < W → fwd fit nx W (len - 1 - m) w = true → bkw fit nx W len m w = false → cbw fit nx W len m w = 0 := by
  intro m
  induction m with
  | zero =>
    intro w h hw hf hb
    have : bkw fit nx W len 0 w = fwd fit nx W (len - 1) w := rfl
    rw [this] at hb
    rw [Nat.sub_zero, hb] at hf; cases hf
  | succ m ih =>
    intro w h hw hf hb
    have e1 : bkw fit nx W len (m + 1) w = (fwd fit nx W (len - 1 - (m + 1)) w && exb (fun v => bkw fit nx W len m v && nx w v) W) := rfl
    rw [e1, hf, Bool.true_and] at hb
    have hb' := exb_false.mp hb
    refine (sumW_congr (f' := fun _ => 0) fun v hv => ?_).trans sumW_0
    by_cases hc : (nx w v && fit (len - 1 - m) v) = true
    · rw [if_pos hc]
      rw [Bool.and_eq_true] at hc
      refine ih (by omega) hv ?_ ?_
      · obtain ⟨r, hr⟩ : ∃ r, len - 1 - m = r + 1 := ⟨len - 1 - (m + 1), by omega⟩
        have hr2 : len - 1 - (m + 1) = r := by omega
        rw [hr] at hc ⊢
        rw [hr2] at hf
        show (fit (r + 1) v && _) = true
        rw [hc.2, Bool.true_and]
        exact exb_iff.mpr ⟨w, hw, by rw [hf, hc.1]; rfl⟩
      · have := hb' v hv
        rw [hc.1, Bool.and_true] at this
        exact this
    · rw [if_neg hc]
/-- what the reference counts -/
theorem cnt_live (h : 0 < len) : cnt fit nx W len = sumW (fun w => if liv fit nx W len 0 w then cbw fit nx W len (len - 1) w else 0) W := by
  rw [cnt_first h]
  refine sumW_congr fun w hw => ?_
  have e : liv fit nx W len 0 w = bkw fit nx W len (len - 1) w := rfl
  have e2 : fwd fit nx W 0 w = fit 0 w := rfl
  cases hf : fit 0 w with
  | false =>
    cases hl : liv fit nx W len 0 w with
    | false => rfl
    | true =>
      have := liv_fwd h hl
      rw [e2, hf] at this; cases this
  | true =>
    cases hl : liv fit nx W len 0 w with
    | true => rfl
    | false =>
      rw [e] at hl
      have := cbw_live (fit := fit) (nx := nx) (W := W) (len := len) (m := len - 1) (by omega) hw (by rw [Nat.sub_self, e2]; exact hf) hl
      rw [this]; rfl
theorem cbw_step {m w : Nat} (h : m + 1 < len) (hw : w < W) (hl : liv fit nx W len (len - 1 - (m + 1)) w = true) : cbw fit nx W len (m + 1) w = sumW (fun v => if liv fit nx W len (len - 1 - m) v && nx w v then cbw fit nx W len m v else 0) W := by
  have hf := liv_fwd (by omega) hl
  refine sumW_congr fun v hv => ?_
  have eb : liv fit nx W len (len - 1 - m) v = bkw fit nx W len m v := by
    unfold liv
    rw [show len - 1 - (len - 1 - m) = m by omega]
  by_cases hn : nx w v = true
  · rw [hn, Bool.true_and, Bool.and_true]
    obtain ⟨r, hr⟩ : ∃ r, len - 1 - m = r + 1 := ⟨len - 1 - (m + 1), by omega⟩
    have hr2 : len - 1 - (m + 1) = r := by omega
    rw [hr2] at hf
    have ef : fwd fit nx W (r + 1) v = fit (r + 1) v := by
      show (fit (r + 1) v && _) = _
      rw [show exb (fun v_1 => fwd fit nx W r v_1 && nx v_1 v) W = true from exb_iff.mpr ⟨w, hw, by rw [hf, hn]; rfl⟩, Bool.and_true]
    cases hfv : fit (len - 1 - m) v with
    | false =>
      cases hlv : liv fit nx W len (len - 1 - m) v with
      | false => rfl
      | true =>
        have := fwd_fit (liv_fwd (by omega) hlv)
        rw [hfv] at this; cases this
    | true =>
      cases hlv : liv fit nx W len (len - 1 - m) v with
      | true => rfl
      | false =>
        have := cbw_live (fit := fit) (nx := nx) (W := W) (len := len) (m := m) (by omega) hv (by rw [hr, ef, ← hr]; exact hfv) (by rw [← eb]; exact hlv)
        rw [this]; rfl
  · rw [Bool.not_eq_true] at hn
    rw [hn, Bool.false_and, Bool.and_false]
end TA
