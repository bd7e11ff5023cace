theorem zinX0 : ∀ w ∈ u_ws RX0 TX0 15, w ∈ wsG := by decide +kernel
theorem zinX1 : ∀ w ∈ u_ws RX1 TX1 2, w ∈ wsG := by decide +kernel
theorem zinX2 : ∀ w ∈ u_ws RX2 TX2 1, w ∈ wsG := by decide +kernel
theorem zinX3 : ∀ w ∈ u_ws RX3 TX3 15, w ∈ wsG := by decide +kernel
theorem zinX4 : ∀ w ∈ u_ws RX4 TX4 21, w ∈ wsG := by decide +kernel
