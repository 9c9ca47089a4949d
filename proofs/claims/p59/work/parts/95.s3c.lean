/-! The law's start. -/
set_option maxHeartbeats 8000000 in
set_option maxRecDepth 100000 in
theorem dt_7 : ∀ j, j < 10 → Cond.eq (.elem (.static "java/lang/Integer" "DigitTens" "[B") (.int (Int32.ofNat (70 + j)))) (.int (nI (48 + (70 + j) / 10))) ∈ flatC (Jvm.Cond.and given_1 narrow_1) := by decide +kernel
set_option maxHeartbeats 8000000 in
set_option maxRecDepth 100000 in
theorem dt_8 : ∀ j, j < 10 → Cond.eq (.elem (.static "java/lang/Integer" "DigitTens" "[B") (.int (Int32.ofNat (80 + j)))) (.int (nI (48 + (80 + j) / 10))) ∈ flatC (Jvm.Cond.and given_1 narrow_1) := by decide +kernel
set_option maxHeartbeats 8000000 in
set_option maxRecDepth 100000 in
theorem dt_9 : ∀ j, j < 10 → Cond.eq (.elem (.static "java/lang/Integer" "DigitTens" "[B") (.int (Int32.ofNat (90 + j)))) (.int (nI (48 + (90 + j) / 10))) ∈ flatC (Jvm.Cond.and given_1 narrow_1) := by decide +kernel
