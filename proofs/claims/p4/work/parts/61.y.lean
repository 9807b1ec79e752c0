theorem L_nzip {t : Int32} (h : 0 < t) : t.toInt64 ≠ 0 := L_nzi (by rw [Int32.lt_iff_toInt_lt] at h; rw [Int32.le_iff_toInt_le]; omega)
theorem L_nzp {t : Int64} (h : 0 < t) : ¬ t = 0 := fun e => by rw [e] at h; exact absurd h (by decide)

