theorem hp12 (pl : Nat → Nat → Int32) (h : Int64) : hf (fun k => pl (k / 6) (k % 6)) 12 h = cHp pl 2 h := rfl
theorem kb1_0 {x : Int32} (h : x = 0) : (0 : Int64) = (kb1 x).toInt64 := by rw [kb1, if_pos h]; rfl
theorem kb1_1 {x : Int32} (h : ¬ x = 0) : (1 : Int64) = (kb1 x).toInt64 := by rw [kb1, if_neg h]; rfl
