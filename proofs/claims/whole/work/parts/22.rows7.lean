/-! RU(Nat.le_of_ble_eq_true rfl)ING ROWS of the methods -/
