theorem lw_cw : Cond.codeWith yL_at cL_at 4 (some .int) [(0, 9, 12, 13)] ∈ WB := WB_t 296 (by decide +kernel) (by decide +kernel)
