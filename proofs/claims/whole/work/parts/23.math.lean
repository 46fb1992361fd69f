theorem min_w2 : ax_g (.static Lib.Math.min.name) := ⟨by decide +kernel, by decide +kernel⟩
theorem min_w3 : ax_g (.initialized "java/lang/Math") := ⟨by decide +kernel, by decide +kernel⟩
theorem min_w4 : ax_g (.code Lib.Math.min.name Lib.Math.min.code 2 (some .int)) := ⟨by decide +kernel, by decide +kernel⟩
theorem max_w2 : ax_g (.static Lib.Math.max.name) := ⟨by decide +kernel, by decide +kernel⟩
theorem max_w3 : ax_g (.initialized "java/lang/Math") := min_w3
theorem max_w4 : ax_g (.code Lib.Math.max.name Lib.Math.max.code 2 (some .int)) := ⟨by decide +kernel, by decide +kernel⟩
