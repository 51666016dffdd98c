theorem fsX6 : ∀ j, j < 60 → defaultValue (tyX6 j) = vp_V (OM [] 0 0) j := by decide +kernel
