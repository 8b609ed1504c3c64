theorem odd_within : (List.range 19).all (fun k => (odd_t k).frames.length != 1) = true := by decide +kernel
