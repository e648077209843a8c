/-! tales: what both sides find -/
def SB (x : Int64) (W : Nat) (f : Nat → Bool) : Prop := ∀ w, w < 64 → tb x w = (decide (w < W) && f w)
