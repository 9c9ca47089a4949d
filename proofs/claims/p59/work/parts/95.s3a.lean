/-! The law's start. -/
set_option maxHeartbeats 8000000 in
set_option maxRecDepth 100000 in
theorem dt_0 : ∀ j, j < 10 → Cond.eq (.elem (.static "java/lang/Integer" "DigitTens" "[B") (.int (Int32.ofNat (0 + j)))) (.int (nI (48 + (0 + j) / 10))) ∈ flatC (Jvm.Cond.and given_1 narrow_1) := by decide +kernel
set_option maxHeartbeats 8000000 in
set_option maxRecDepth 100000 in
theorem dt_1 : ∀ j, j < 10 → Cond.eq (.elem (.static "java/lang/Integer" "DigitTens" "[B") (.int (Int32.ofNat (10 + j)))) (.int (nI (48 + (10 + j) / 10))) ∈ flatC (Jvm.Cond.and given_1 narrow_1) := by decide +kernel
set_option maxHeartbeats 8000000 in
set_option maxRecDepth 100000 in
theorem dt_2 : ∀ j, j < 10 → Cond.eq (.elem (.static "java/lang/Integer" "DigitTens" "[B") (.int (Int32.ofNat (20 + j)))) (.int (nI (48 + (20 + j) / 10))) ∈ flatC (Jvm.Cond.and given_1 narrow_1) := by decide +kernel
set_option maxHeartbeats 8000000 in
set_option maxRecDepth 100000 in
theorem dt_3 : ∀ j, j < 10 → Cond.eq (.elem (.static "java/lang/Integer" "DigitTens" "[B") (.int (Int32.ofNat (30 + j)))) (.int (nI (48 + (30 + j) / 10))) ∈ flatC (Jvm.Cond.and given_1 narrow_1) := by decide +kernel
