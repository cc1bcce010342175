set_option maxHeartbeats 4000000 in
theorem c_X8_done {Y : gY} {l : Launch} {S : SS} (b : Int) (hb : b = 0 ∨ b = 1) : gM Y l mX8_done S [.ref (yA Y 82), .int (iI b)] (pV (.int (iI 1)) (fun S' => S' = us S 82 (uq (S 82) 4 (S 82 4 + (if b = 0 then 1 else 0))))) := by
  refine gM_of (by decide) (Nat.le_of_ble_eq_true rfl) ?_
  intro X hXl B E
  show gW Y X S 0 [(0, .ref (yA Y 82)), (1, .int (iI b))] []
  refine g_aload_n (q := 1) B dX8_done_0 rfl 0 rfl ?_
  refine g_dup (q := 2) B dX8_done_1 rfl rfl ?_
  refine g_get (n := 82) (ty := tyX8) (q := 5) (v := .int (iI (S 82 4))) B dX8_done_2 rfl rfl rfl cls6 12 (by decide) w963 rfl ?_
  refine g_iload_n (q := 6) B dX8_done_5 rfl 1 rfl ?_
  refine g_if_eq (t := 13) (q := 9) B dX8_done_6 (by decide) rfl ⟨by omega, by omega⟩ (fun cq6 => ?_) (fun cq6 => ?_)
  · refine g_iconst (q := 14) B dX8_done_13 rfl ?_
    refine g_iadd (q := 15) B dX8_done_14 rfl ?_
    refine g_put (n := 82) (ty := tyX8) (q := 18) B dX8_done_15 rfl rfl rfl cls6 12 (by decide) w963 rfl rfl rfl (Nat.le_of_ble_eq_true rfl) ((uq (S 82) 4 ((S 82 4) + 1))) rfl ?_
    refine g_iconst (q := 19) B dX8_done_18 rfl ?_
    refine g_zret B E dX8_done_19 rfl (by decide) ?_
    exact ⟨rfl, by rw [if_pos (by omega)]⟩
  · refine g_iconst (q := 10) B dX8_done_9 rfl ?_
    refine g_goto (q := 14) B dX8_done_10 (by decide) ?_
    refine g_iadd (q := 15) B dX8_done_14 rfl ?_
    refine g_put (n := 82) (ty := tyX8) (q := 18) B dX8_done_15 rfl rfl rfl cls6 12 (by decide) w963 rfl rfl rfl (Nat.le_of_ble_eq_true rfl) ((uq (S 82) 4 ((S 82 4) + 0))) rfl ?_
    refine g_iconst (q := 19) B dX8_done_18 rfl ?_
    refine g_zret B E dX8_done_19 rfl (by decide) ?_
    exact ⟨rfl, by rw [if_neg (by omega)]⟩
