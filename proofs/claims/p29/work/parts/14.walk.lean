/-! walks, by program: ['X4'] -/

