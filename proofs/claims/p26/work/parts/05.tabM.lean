/-! ===== rows of methods, by program ===== -/
