/-! ===== a car that has left, in the reference's order ===== -/
theorem lv_eq0 {g : Nat → Nat → Int32} {a : Nat → Int32} {k : Nat} : w2 (w2 (w2 (w2 (w2 g 2 a) 8 (upd (g 8) k 0)) 10 (upd (g 10) k 0)) 11 (upd (g 11) k (-9))) 9 (upd (g 9) k 0) = gOut (w2 g 2 a) k := w2_89
theorem lv_eq1 {g : Nat → Nat → Int32} {a : Nat → Int32} {k w : Nat} : w2 (w2 (w2 (w2 (w2 (w2 g 2 a) 18 (upd (g 18) w 2)) 8 (upd (g 8) k 0)) 10 (upd (g 10) k 0)) 11 (upd (g 11) k (-9))) 9 (upd (g 9) k 0) = w2 (gOut (w2 g 2 a) k) 18 (upd (g 18) w 2) := by
  rw [w2_89, w2_comm (r1 := 18) (r2 := 8) rfl, w2_comm (r1 := 18) (r2 := 9) rfl, w2_comm (r1 := 18) (r2 := 10) rfl, w2_comm (r1 := 18) (r2 := 11) rfl]
  rfl
