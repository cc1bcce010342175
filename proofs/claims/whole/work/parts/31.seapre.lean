theorem mw_ne {S : SS} {n m : Nat} {g : Int → Int} (h : n ≠ m) : mw (us S m g) n = mw S n := by
  funext b; unfold mw; rw [us_a h]
