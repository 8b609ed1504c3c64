def odd_t (k : Nat) : State := stepsAlone start1.p0.tables start1.e0 k odd_s
theorem odd_halts : decide ((odd_t 19).status = .running) = false := by decide +kernel
