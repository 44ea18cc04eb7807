/-! test -/
theorem tf1 : Nat.ble (mX12_feed).1.2.2.2.2.1.1 2048 = true := by decide +kernel
theorem tf2 : Nat.ble (mX12_runScript).1.2.2.2.2.1.1 2048 = true := by decide +kernel
