/-! an argument may be so: alike -/
theorem mb_in {q j v lo hi : Int32} {lo' hi' : Int64} (e1 : colm q j 0 = lo) (e2 : colm q j 1 = hi) (h1 : lo.toInt = lo'.toInt) (h2 : hi.toInt = hi'.toInt) (e3 : mayM q j v = inL v.toInt64 lo' hi') : myB q j v = 0 ↔ mayM q j v = 0 := by
  rw [e3, inL_iff, Int64.le_iff_toInt_le, Int64.le_iff_toInt_le, Int32.toInt_toInt64, ← h1, ← h2]
  unfold myB
  rw [e1, e2]
  by_cases c1 : v < lo
  · rw [if_pos c1]; rw [Int32.lt_iff_toInt_lt] at c1; exact ⟨fun _ => by omega, fun _ => rfl⟩
  · by_cases c2 : hi < v
    · rw [if_neg c1, if_pos c2]; rw [Int32.lt_iff_toInt_lt] at c2; exact ⟨fun _ => by omega, fun _ => rfl⟩
    · rw [if_neg c1, if_neg c2]; rw [Int32.lt_iff_toInt_lt] at c1 c2; exact ⟨fun q => absurd q ne10, fun q => absurd (by omega) q⟩
theorem mb_if {q j v lo hi : Int32} {lo' hi' : Int64} (e1 : colm q j 0 = lo) (e2 : colm q j 1 = hi) (h1 : lo.toInt = lo'.toInt) (h2 : hi.toInt = hi'.toInt) (e3 : mayM q j v = if inL v.toInt64 lo' hi' = 0 then 0 else 1) : myB q j v = 0 ↔ mayM q j v = 0 := by
  have e4 : mayM q j v = 0 ↔ inL v.toInt64 lo' hi' = 0 := by
    rw [e3]; split
    · rename_i h; exact ⟨fun _ => h, fun _ => rfl⟩
    · rename_i h; exact ⟨fun q => absurd q ne10, fun q => absurd q h⟩
  rw [e4, inL_iff, Int64.le_iff_toInt_le, Int64.le_iff_toInt_le, Int32.toInt_toInt64, ← h1, ← h2]
  unfold myB
  rw [e1, e2]
  by_cases c1 : v < lo
  · rw [if_pos c1]; rw [Int32.lt_iff_toInt_lt] at c1; exact ⟨fun _ => by omega, fun _ => rfl⟩
  · by_cases c2 : hi < v
    · rw [if_neg c1, if_pos c2]; rw [Int32.lt_iff_toInt_lt] at c2; exact ⟨fun _ => by omega, fun _ => rfl⟩
    · rw [if_neg c1, if_neg c2]; rw [Int32.lt_iff_toInt_lt] at c1 c2; exact ⟨fun q => absurd q ne10, fun q => absurd (by omega) q⟩
theorem mb_one {q j v : Int32} (e1 : colm q j 0 = -2147483648) (e2 : colm q j 1 = 2147483647) (e3 : mayM q j v = 1) : myB q j v = 0 ↔ mayM q j v = 0 := by
  have a := v.toInt_lt
  have b := v.le_toInt
  have m1 : (-2147483648 : Int32).toInt = -2147483648 := by decide
  have m2 : (2147483647 : Int32).toInt = 2147483647 := by decide
  rw [e3]
  unfold myB
  rw [e1, e2, if_neg (by rw [Int32.lt_iff_toInt_lt, m1]; omega), if_neg (by rw [Int32.lt_iff_toInt_lt, m2]; omega)]
theorem mayK_1 (k9 v9 : Int32) : mayM (nI 1) k9 v9 = (if k9 = 0 then (inL v9.toInt64 0 7) else (if k9 = 1 then 1 else (if k9 = 2 then (if (inL v9.toInt64 0 16777215) = 0 then 0 else 1) else (if (inL v9.toInt64 0 255) = 0 then 0 else 1)))) := by
  unfold mayM
  rw [if_pos (show (nI 1) = 1 by decide)]
theorem mayK_2 (k9 v9 : Int32) : mayM (nI 2) k9 v9 = (isV k9 v9) := by
  unfold mayM
  rw [if_neg (show ¬ ((nI 2) = 1) by decide), if_pos (show (nI 2) = 2 by decide)]
theorem mayK_3 (k9 v9 : Int32) : mayM (nI 3) k9 v9 = 1 := by
  unfold mayM
  rw [if_neg (show ¬ ((nI 3) = 1) by decide), if_neg (show ¬ ((nI 3) = 2) by decide), if_pos (show (nI 3) = 3 ∨ (nI 3) = 13 by decide)]
theorem mayK_4 (k9 v9 : Int32) : mayM (nI 4) k9 v9 = (if k9 = 0 then (inL v9.toInt64 0 7) else (if k9 = 1 then (inL v9.toInt64 0 1048576) else (if k9 = 2 then (inL v9.toInt64 0 1024) else (if k9 = 3 then (inL v9.toInt64 0 4) else (inL v9.toInt64 0 3))))) := by
  unfold mayM
  rw [if_neg (show ¬ ((nI 4) = 1) by decide), if_neg (show ¬ ((nI 4) = 2) by decide), if_neg (show ¬ ((nI 4) = 3 ∨ (nI 4) = 13) by decide), if_pos (show (nI 4) = 4 by decide)]
theorem mayK_5 (k9 v9 : Int32) : mayM (nI 5) k9 v9 = (if 0 < k9 then 1 else (if (inL v9.toInt64 0 31) = 0 then 0 else 1)) := by
  unfold mayM
  rw [if_neg (show ¬ ((nI 5) = 1) by decide), if_neg (show ¬ ((nI 5) = 2) by decide), if_neg (show ¬ ((nI 5) = 3 ∨ (nI 5) = 13) by decide), if_neg (show ¬ ((nI 5) = 4) by decide), if_pos (show (nI 5) = 5 by decide)]
theorem mayK_6 (k9 v9 : Int32) : mayM (nI 6) k9 v9 = (if k9 = 0 then (inL v9.toInt64 0 31) else (if k9 = 1 then (inL v9.toInt64 0 32) else (inL v9.toInt64 0 1048576))) := by
  unfold mayM
  rw [if_neg (show ¬ ((nI 6) = 1) by decide), if_neg (show ¬ ((nI 6) = 2) by decide), if_neg (show ¬ ((nI 6) = 3 ∨ (nI 6) = 13) by decide), if_neg (show ¬ ((nI 6) = 4) by decide), if_neg (show ¬ ((nI 6) = 5) by decide), if_pos (show (nI 6) = 6 by decide)]
theorem mayK_7 (k9 v9 : Int32) : mayM (nI 7) k9 v9 = (if k9 = 0 then (inL v9.toInt64 0 1048576) else (inL v9.toInt64 1 256)) := by
  unfold mayM
  rw [if_neg (show ¬ ((nI 7) = 1) by decide), if_neg (show ¬ ((nI 7) = 2) by decide), if_neg (show ¬ ((nI 7) = 3 ∨ (nI 7) = 13) by decide), if_neg (show ¬ ((nI 7) = 4) by decide), if_neg (show ¬ ((nI 7) = 5) by decide), if_neg (show ¬ ((nI 7) = 6) by decide), if_pos (show (nI 7) = 7 ∨ (nI 7) = 8 by decide)]
theorem mayK_8 (k9 v9 : Int32) : mayM (nI 8) k9 v9 = (if k9 = 0 then (inL v9.toInt64 0 1048576) else (inL v9.toInt64 1 256)) := by
  unfold mayM
  rw [if_neg (show ¬ ((nI 8) = 1) by decide), if_neg (show ¬ ((nI 8) = 2) by decide), if_neg (show ¬ ((nI 8) = 3 ∨ (nI 8) = 13) by decide), if_neg (show ¬ ((nI 8) = 4) by decide), if_neg (show ¬ ((nI 8) = 5) by decide), if_neg (show ¬ ((nI 8) = 6) by decide), if_pos (show (nI 8) = 7 ∨ (nI 8) = 8 by decide)]
theorem mayK_9 (k9 v9 : Int32) : mayM (nI 9) k9 v9 = (isT k9 v9) := by
  unfold mayM
  rw [if_neg (show ¬ ((nI 9) = 1) by decide), if_neg (show ¬ ((nI 9) = 2) by decide), if_neg (show ¬ ((nI 9) = 3 ∨ (nI 9) = 13) by decide), if_neg (show ¬ ((nI 9) = 4) by decide), if_neg (show ¬ ((nI 9) = 5) by decide), if_neg (show ¬ ((nI 9) = 6) by decide), if_neg (show ¬ ((nI 9) = 7 ∨ (nI 9) = 8) by decide), if_pos (show (nI 9) = 9 by decide)]
theorem mayK_10 (k9 v9 : Int32) : mayM (nI 10) k9 v9 = (if k9 = 0 then (inL v9.toInt64 (-1) 7) else (inL v9.toInt64 0 1)) := by
  unfold mayM
  rw [if_neg (show ¬ ((nI 10) = 1) by decide), if_neg (show ¬ ((nI 10) = 2) by decide), if_neg (show ¬ ((nI 10) = 3 ∨ (nI 10) = 13) by decide), if_neg (show ¬ ((nI 10) = 4) by decide), if_neg (show ¬ ((nI 10) = 5) by decide), if_neg (show ¬ ((nI 10) = 6) by decide), if_neg (show ¬ ((nI 10) = 7 ∨ (nI 10) = 8) by decide), if_neg (show ¬ ((nI 10) = 9) by decide), if_pos (show (nI 10) = 10 by decide)]
theorem mayK_11 (k9 v9 : Int32) : mayM (nI 11) k9 v9 = (isS k9 v9) := by
  unfold mayM
  rw [if_neg (show ¬ ((nI 11) = 1) by decide), if_neg (show ¬ ((nI 11) = 2) by decide), if_neg (show ¬ ((nI 11) = 3 ∨ (nI 11) = 13) by decide), if_neg (show ¬ ((nI 11) = 4) by decide), if_neg (show ¬ ((nI 11) = 5) by decide), if_neg (show ¬ ((nI 11) = 6) by decide), if_neg (show ¬ ((nI 11) = 7 ∨ (nI 11) = 8) by decide), if_neg (show ¬ ((nI 11) = 9) by decide), if_neg (show ¬ ((nI 11) = 10) by decide), if_pos (show (nI 11) = 11 by decide)]
theorem mayK_12 (k9 v9 : Int32) : mayM (nI 12) k9 v9 = (if 4 ≤ k9 then (if k9 = 4 then (inL v9.toInt64 (-1) 4) else (inL v9.toInt64 0 4)) else (inL v9.toInt64 0 14)) := by
  unfold mayM
  rw [if_neg (show ¬ ((nI 12) = 1) by decide), if_neg (show ¬ ((nI 12) = 2) by decide), if_neg (show ¬ ((nI 12) = 3 ∨ (nI 12) = 13) by decide), if_neg (show ¬ ((nI 12) = 4) by decide), if_neg (show ¬ ((nI 12) = 5) by decide), if_neg (show ¬ ((nI 12) = 6) by decide), if_neg (show ¬ ((nI 12) = 7 ∨ (nI 12) = 8) by decide), if_neg (show ¬ ((nI 12) = 9) by decide), if_neg (show ¬ ((nI 12) = 10) by decide), if_neg (show ¬ ((nI 12) = 11) by decide), if_pos (show (nI 12) = 12 by decide)]
theorem mayK_13 (k9 v9 : Int32) : mayM (nI 13) k9 v9 = 1 := by
  unfold mayM
  rw [if_neg (show ¬ ((nI 13) = 1) by decide), if_neg (show ¬ ((nI 13) = 2) by decide), if_pos (show (nI 13) = 3 ∨ (nI 13) = 13 by decide)]
theorem mayK_14 (k9 v9 : Int32) : mayM (nI 14) k9 v9 = (inL v9.toInt64 (-1) 15) := by
  unfold mayM
  rw [if_neg (show ¬ ((nI 14) = 1) by decide), if_neg (show ¬ ((nI 14) = 2) by decide), if_neg (show ¬ ((nI 14) = 3 ∨ (nI 14) = 13) by decide), if_neg (show ¬ ((nI 14) = 4) by decide), if_neg (show ¬ ((nI 14) = 5) by decide), if_neg (show ¬ ((nI 14) = 6) by decide), if_neg (show ¬ ((nI 14) = 7 ∨ (nI 14) = 8) by decide), if_neg (show ¬ ((nI 14) = 9) by decide), if_neg (show ¬ ((nI 14) = 10) by decide), if_neg (show ¬ ((nI 14) = 11) by decide), if_neg (show ¬ ((nI 14) = 12) by decide), if_pos (show (nI 14) = 14 by decide)]
theorem mayK_15 (k9 v9 : Int32) : mayM (nI 15) k9 v9 = (inL v9.toInt64 0 15) := by
  unfold mayM
  rw [if_neg (show ¬ ((nI 15) = 1) by decide), if_neg (show ¬ ((nI 15) = 2) by decide), if_neg (show ¬ ((nI 15) = 3 ∨ (nI 15) = 13) by decide), if_neg (show ¬ ((nI 15) = 4) by decide), if_neg (show ¬ ((nI 15) = 5) by decide), if_neg (show ¬ ((nI 15) = 6) by decide), if_neg (show ¬ ((nI 15) = 7 ∨ (nI 15) = 8) by decide), if_neg (show ¬ ((nI 15) = 9) by decide), if_neg (show ¬ ((nI 15) = 10) by decide), if_neg (show ¬ ((nI 15) = 11) by decide), if_neg (show ¬ ((nI 15) = 12) by decide), if_neg (show ¬ ((nI 15) = 14) by decide), if_pos (show (nI 15) = 15 by decide)]
theorem mayK_16 (k9 v9 : Int32) : mayM (nI 16) k9 v9 = (if k9 = 0 then (inL v9.toInt64 0 3) else (inL v9.toInt64 0 1)) := by
  unfold mayM
  rw [if_neg (show ¬ ((nI 16) = 1) by decide), if_neg (show ¬ ((nI 16) = 2) by decide), if_neg (show ¬ ((nI 16) = 3 ∨ (nI 16) = 13) by decide), if_neg (show ¬ ((nI 16) = 4) by decide), if_neg (show ¬ ((nI 16) = 5) by decide), if_neg (show ¬ ((nI 16) = 6) by decide), if_neg (show ¬ ((nI 16) = 7 ∨ (nI 16) = 8) by decide), if_neg (show ¬ ((nI 16) = 9) by decide), if_neg (show ¬ ((nI 16) = 10) by decide), if_neg (show ¬ ((nI 16) = 11) by decide), if_neg (show ¬ ((nI 16) = 12) by decide), if_neg (show ¬ ((nI 16) = 14) by decide), if_neg (show ¬ ((nI 16) = 15) by decide), if_pos (show (nI 16) = 16 by decide)]
theorem mayK_17 (k9 v9 : Int32) : mayM (nI 17) k9 v9 = (if k9 = 0 then (inL v9.toInt64 0 2) else (if k9 = 1 then (inL v9.toInt64 0 1048576) else (inL v9.toInt64 0 4096))) := by
  unfold mayM
  rw [if_neg (show ¬ ((nI 17) = 1) by decide), if_neg (show ¬ ((nI 17) = 2) by decide), if_neg (show ¬ ((nI 17) = 3 ∨ (nI 17) = 13) by decide), if_neg (show ¬ ((nI 17) = 4) by decide), if_neg (show ¬ ((nI 17) = 5) by decide), if_neg (show ¬ ((nI 17) = 6) by decide), if_neg (show ¬ ((nI 17) = 7 ∨ (nI 17) = 8) by decide), if_neg (show ¬ ((nI 17) = 9) by decide), if_neg (show ¬ ((nI 17) = 10) by decide), if_neg (show ¬ ((nI 17) = 11) by decide), if_neg (show ¬ ((nI 17) = 12) by decide), if_neg (show ¬ ((nI 17) = 14) by decide), if_neg (show ¬ ((nI 17) = 15) by decide), if_neg (show ¬ ((nI 17) = 16) by decide), if_pos (show (nI 17) = 17 by decide)]
theorem mayK_18 (k9 v9 : Int32) : mayM (nI 18) k9 v9 = (if k9 = 4 then 1 else (if k9 = 0 then (if (inL v9.toInt64 0 2) = 0 then 0 else 1) else (if k9 = 3 then (if (inL v9.toInt64 0 2) = 0 then 0 else 1) else (if k9 = 1 then (if (inL v9.toInt64 0 1048576) = 0 then 0 else 1) else (if (inL v9.toInt64 0 4096) = 0 then 0 else 1))))) := by
  unfold mayM
  rw [if_neg (show ¬ ((nI 18) = 1) by decide), if_neg (show ¬ ((nI 18) = 2) by decide), if_neg (show ¬ ((nI 18) = 3 ∨ (nI 18) = 13) by decide), if_neg (show ¬ ((nI 18) = 4) by decide), if_neg (show ¬ ((nI 18) = 5) by decide), if_neg (show ¬ ((nI 18) = 6) by decide), if_neg (show ¬ ((nI 18) = 7 ∨ (nI 18) = 8) by decide), if_neg (show ¬ ((nI 18) = 9) by decide), if_neg (show ¬ ((nI 18) = 10) by decide), if_neg (show ¬ ((nI 18) = 11) by decide), if_neg (show ¬ ((nI 18) = 12) by decide), if_neg (show ¬ ((nI 18) = 14) by decide), if_neg (show ¬ ((nI 18) = 15) by decide), if_neg (show ¬ ((nI 18) = 16) by decide), if_neg (show ¬ ((nI 18) = 17) by decide), if_pos (show (nI 18) = 18 by decide)]
theorem mayK_19 (k9 v9 : Int32) : mayM (nI 19) k9 v9 = (if k9 = 0 then (inL v9.toInt64 0 7) else (inL v9.toInt64 0 1)) := by
  unfold mayM
  rw [if_neg (show ¬ ((nI 19) = 1) by decide), if_neg (show ¬ ((nI 19) = 2) by decide), if_neg (show ¬ ((nI 19) = 3 ∨ (nI 19) = 13) by decide), if_neg (show ¬ ((nI 19) = 4) by decide), if_neg (show ¬ ((nI 19) = 5) by decide), if_neg (show ¬ ((nI 19) = 6) by decide), if_neg (show ¬ ((nI 19) = 7 ∨ (nI 19) = 8) by decide), if_neg (show ¬ ((nI 19) = 9) by decide), if_neg (show ¬ ((nI 19) = 10) by decide), if_neg (show ¬ ((nI 19) = 11) by decide), if_neg (show ¬ ((nI 19) = 12) by decide), if_neg (show ¬ ((nI 19) = 14) by decide), if_neg (show ¬ ((nI 19) = 15) by decide), if_neg (show ¬ ((nI 19) = 16) by decide), if_neg (show ¬ ((nI 19) = 17) by decide), if_neg (show ¬ ((nI 19) = 18) by decide), if_pos (show (nI 19) = 19 by decide)]
theorem mayK_20 (k9 v9 : Int32) : mayM (nI 20) k9 v9 = (isC k9 v9) := by
  unfold mayM
  rw [if_neg (show ¬ ((nI 20) = 1) by decide), if_neg (show ¬ ((nI 20) = 2) by decide), if_neg (show ¬ ((nI 20) = 3 ∨ (nI 20) = 13) by decide), if_neg (show ¬ ((nI 20) = 4) by decide), if_neg (show ¬ ((nI 20) = 5) by decide), if_neg (show ¬ ((nI 20) = 6) by decide), if_neg (show ¬ ((nI 20) = 7 ∨ (nI 20) = 8) by decide), if_neg (show ¬ ((nI 20) = 9) by decide), if_neg (show ¬ ((nI 20) = 10) by decide), if_neg (show ¬ ((nI 20) = 11) by decide), if_neg (show ¬ ((nI 20) = 12) by decide), if_neg (show ¬ ((nI 20) = 14) by decide), if_neg (show ¬ ((nI 20) = 15) by decide), if_neg (show ¬ ((nI 20) = 16) by decide), if_neg (show ¬ ((nI 20) = 17) by decide), if_neg (show ¬ ((nI 20) = 18) by decide), if_neg (show ¬ ((nI 20) = 19) by decide), if_pos (show (nI 20) = 20 by decide)]
theorem mayK_21 (k9 v9 : Int32) : mayM (nI 21) k9 v9 = (if 1 < k9 then 1 else (if k9 = 0 then (if (inL v9.toInt64 0 1048576) = 0 then 0 else 1) else (if (inL v9.toInt64 0 256) = 0 then 0 else 1))) := by
  unfold mayM
  rw [if_neg (show ¬ ((nI 21) = 1) by decide), if_neg (show ¬ ((nI 21) = 2) by decide), if_neg (show ¬ ((nI 21) = 3 ∨ (nI 21) = 13) by decide), if_neg (show ¬ ((nI 21) = 4) by decide), if_neg (show ¬ ((nI 21) = 5) by decide), if_neg (show ¬ ((nI 21) = 6) by decide), if_neg (show ¬ ((nI 21) = 7 ∨ (nI 21) = 8) by decide), if_neg (show ¬ ((nI 21) = 9) by decide), if_neg (show ¬ ((nI 21) = 10) by decide), if_neg (show ¬ ((nI 21) = 11) by decide), if_neg (show ¬ ((nI 21) = 12) by decide), if_neg (show ¬ ((nI 21) = 14) by decide), if_neg (show ¬ ((nI 21) = 15) by decide), if_neg (show ¬ ((nI 21) = 16) by decide), if_neg (show ¬ ((nI 21) = 17) by decide), if_neg (show ¬ ((nI 21) = 18) by decide), if_neg (show ¬ ((nI 21) = 19) by decide), if_neg (show ¬ ((nI 21) = 20) by decide), if_pos (show (nI 21) = 21 by decide)]
theorem mayK_23 (k9 v9 : Int32) : mayM (nI 23) k9 v9 = (inL v9.toInt64 0 1048576) := by
  unfold mayM
  rw [if_neg (show ¬ ((nI 23) = 1) by decide), if_neg (show ¬ ((nI 23) = 2) by decide), if_neg (show ¬ ((nI 23) = 3 ∨ (nI 23) = 13) by decide), if_neg (show ¬ ((nI 23) = 4) by decide), if_neg (show ¬ ((nI 23) = 5) by decide), if_neg (show ¬ ((nI 23) = 6) by decide), if_neg (show ¬ ((nI 23) = 7 ∨ (nI 23) = 8) by decide), if_neg (show ¬ ((nI 23) = 9) by decide), if_neg (show ¬ ((nI 23) = 10) by decide), if_neg (show ¬ ((nI 23) = 11) by decide), if_neg (show ¬ ((nI 23) = 12) by decide), if_neg (show ¬ ((nI 23) = 14) by decide), if_neg (show ¬ ((nI 23) = 15) by decide), if_neg (show ¬ ((nI 23) = 16) by decide), if_neg (show ¬ ((nI 23) = 17) by decide), if_neg (show ¬ ((nI 23) = 18) by decide), if_neg (show ¬ ((nI 23) = 19) by decide), if_neg (show ¬ ((nI 23) = 20) by decide), if_neg (show ¬ ((nI 23) = 21) by decide), if_pos (show (nI 23) = 23 by decide)]
theorem mayK_24 (k9 v9 : Int32) : mayM (nI 24) k9 v9 = (inL v9.toInt64 0 3) := by
  unfold mayM
  rw [if_neg (show ¬ ((nI 24) = 1) by decide), if_neg (show ¬ ((nI 24) = 2) by decide), if_neg (show ¬ ((nI 24) = 3 ∨ (nI 24) = 13) by decide), if_neg (show ¬ ((nI 24) = 4) by decide), if_neg (show ¬ ((nI 24) = 5) by decide), if_neg (show ¬ ((nI 24) = 6) by decide), if_neg (show ¬ ((nI 24) = 7 ∨ (nI 24) = 8) by decide), if_neg (show ¬ ((nI 24) = 9) by decide), if_neg (show ¬ ((nI 24) = 10) by decide), if_neg (show ¬ ((nI 24) = 11) by decide), if_neg (show ¬ ((nI 24) = 12) by decide), if_neg (show ¬ ((nI 24) = 14) by decide), if_neg (show ¬ ((nI 24) = 15) by decide), if_neg (show ¬ ((nI 24) = 16) by decide), if_neg (show ¬ ((nI 24) = 17) by decide), if_neg (show ¬ ((nI 24) = 18) by decide), if_neg (show ¬ ((nI 24) = 19) by decide), if_neg (show ¬ ((nI 24) = 20) by decide), if_neg (show ¬ ((nI 24) = 21) by decide), if_neg (show ¬ ((nI 24) = 23) by decide), if_pos (show (nI 24) = 24 by decide)]
theorem mayK_25 (k9 v9 : Int32) : mayM (nI 25) k9 v9 = (if 0 < k9 then 1 else (if (inL v9.toInt64 0 3) = 0 then 0 else 1)) := by
  unfold mayM
  rw [if_neg (show ¬ ((nI 25) = 1) by decide), if_neg (show ¬ ((nI 25) = 2) by decide), if_neg (show ¬ ((nI 25) = 3 ∨ (nI 25) = 13) by decide), if_neg (show ¬ ((nI 25) = 4) by decide), if_neg (show ¬ ((nI 25) = 5) by decide), if_neg (show ¬ ((nI 25) = 6) by decide), if_neg (show ¬ ((nI 25) = 7 ∨ (nI 25) = 8) by decide), if_neg (show ¬ ((nI 25) = 9) by decide), if_neg (show ¬ ((nI 25) = 10) by decide), if_neg (show ¬ ((nI 25) = 11) by decide), if_neg (show ¬ ((nI 25) = 12) by decide), if_neg (show ¬ ((nI 25) = 14) by decide), if_neg (show ¬ ((nI 25) = 15) by decide), if_neg (show ¬ ((nI 25) = 16) by decide), if_neg (show ¬ ((nI 25) = 17) by decide), if_neg (show ¬ ((nI 25) = 18) by decide), if_neg (show ¬ ((nI 25) = 19) by decide), if_neg (show ¬ ((nI 25) = 20) by decide), if_neg (show ¬ ((nI 25) = 21) by decide), if_neg (show ¬ ((nI 25) = 23) by decide), if_neg (show ¬ ((nI 25) = 24) by decide)]
theorem mb_1_0 (v : Int32) : myB (nI 1) (nI 0) v = 0 ↔ mayM (nI 1) (nI 0) v = 0 := mb_in (lo := 0) (hi := 7) (lo' := 0) (hi' := 7) (by decide +kernel) (by decide +kernel) (by decide) (by decide) ((mayK_1 _ _).trans rfl)
theorem mb_1_1 (v : Int32) : myB (nI 1) (nI 1) v = 0 ↔ mayM (nI 1) (nI 1) v = 0 := mb_one (by decide +kernel) (by decide +kernel) ((mayK_1 _ _).trans rfl)
theorem mb_1_2 (v : Int32) : myB (nI 1) (nI 2) v = 0 ↔ mayM (nI 1) (nI 2) v = 0 := mb_if (lo := 0) (hi := 16777215) (lo' := 0) (hi' := 16777215) (by decide +kernel) (by decide +kernel) (by decide) (by decide) ((mayK_1 _ _).trans rfl)
theorem mb_1_3 (v : Int32) : myB (nI 1) (nI 3) v = 0 ↔ mayM (nI 1) (nI 3) v = 0 := mb_if (lo := 0) (hi := 255) (lo' := 0) (hi' := 255) (by decide +kernel) (by decide +kernel) (by decide) (by decide) ((mayK_1 _ _).trans rfl)
theorem mb_2_0 (v : Int32) : myB (nI 2) (nI 0) v = 0 ↔ mayM (nI 2) (nI 0) v = 0 := mb_in (lo := (-1023)) (hi := 1023) (lo' := (-1023)) (hi' := 1023) (by decide +kernel) (by decide +kernel) (by decide) (by decide) ((mayK_2 _ _).trans rfl)
theorem mb_2_1 (v : Int32) : myB (nI 2) (nI 1) v = 0 ↔ mayM (nI 2) (nI 1) v = 0 := mb_in (lo := (-1023)) (hi := 1023) (lo' := (-1023)) (hi' := 1023) (by decide +kernel) (by decide +kernel) (by decide) (by decide) ((mayK_2 _ _).trans rfl)
theorem mb_2_2 (v : Int32) : myB (nI 2) (nI 2) v = 0 ↔ mayM (nI 2) (nI 2) v = 0 := mb_in (lo := 1) (hi := 1024) (lo' := 1) (hi' := 1024) (by decide +kernel) (by decide +kernel) (by decide) (by decide) ((mayK_2 _ _).trans rfl)
theorem mb_2_3 (v : Int32) : myB (nI 2) (nI 3) v = 0 ↔ mayM (nI 2) (nI 3) v = 0 := mb_in (lo := 1) (hi := 1024) (lo' := 1) (hi' := 1024) (by decide +kernel) (by decide +kernel) (by decide) (by decide) ((mayK_2 _ _).trans rfl)
theorem mb_2_4 (v : Int32) : myB (nI 2) (nI 4) v = 0 ↔ mayM (nI 2) (nI 4) v = 0 := mb_in (lo := 0) (hi := 16777215) (lo' := 0) (hi' := 16777215) (by decide +kernel) (by decide +kernel) (by decide) (by decide) ((mayK_2 _ _).trans rfl)
theorem mb_2_5 (v : Int32) : myB (nI 2) (nI 5) v = 0 ↔ mayM (nI 2) (nI 5) v = 0 := mb_in (lo := 0) (hi := 16777215) (lo' := 0) (hi' := 16777215) (by decide +kernel) (by decide +kernel) (by decide) (by decide) ((mayK_2 _ _).trans rfl)
theorem mb_3_0 (v : Int32) : myB (nI 3) (nI 0) v = 0 ↔ mayM (nI 3) (nI 0) v = 0 := mb_one (by decide +kernel) (by decide +kernel) ((mayK_3 _ _).trans rfl)
theorem mb_3_1 (v : Int32) : myB (nI 3) (nI 1) v = 0 ↔ mayM (nI 3) (nI 1) v = 0 := mb_one (by decide +kernel) (by decide +kernel) ((mayK_3 _ _).trans rfl)
theorem mb_3_2 (v : Int32) : myB (nI 3) (nI 2) v = 0 ↔ mayM (nI 3) (nI 2) v = 0 := mb_one (by decide +kernel) (by decide +kernel) ((mayK_3 _ _).trans rfl)
theorem mb_3_3 (v : Int32) : myB (nI 3) (nI 3) v = 0 ↔ mayM (nI 3) (nI 3) v = 0 := mb_one (by decide +kernel) (by decide +kernel) ((mayK_3 _ _).trans rfl)
theorem mb_4_0 (v : Int32) : myB (nI 4) (nI 0) v = 0 ↔ mayM (nI 4) (nI 0) v = 0 := mb_in (lo := 0) (hi := 7) (lo' := 0) (hi' := 7) (by decide +kernel) (by decide +kernel) (by decide) (by decide) ((mayK_4 _ _).trans rfl)
theorem mb_4_1 (v : Int32) : myB (nI 4) (nI 1) v = 0 ↔ mayM (nI 4) (nI 1) v = 0 := mb_in (lo := 0) (hi := 1048576) (lo' := 0) (hi' := 1048576) (by decide +kernel) (by decide +kernel) (by decide) (by decide) ((mayK_4 _ _).trans rfl)
theorem mb_4_2 (v : Int32) : myB (nI 4) (nI 2) v = 0 ↔ mayM (nI 4) (nI 2) v = 0 := mb_in (lo := 0) (hi := 1024) (lo' := 0) (hi' := 1024) (by decide +kernel) (by decide +kernel) (by decide) (by decide) ((mayK_4 _ _).trans rfl)
theorem mb_4_3 (v : Int32) : myB (nI 4) (nI 3) v = 0 ↔ mayM (nI 4) (nI 3) v = 0 := mb_in (lo := 0) (hi := 4) (lo' := 0) (hi' := 4) (by decide +kernel) (by decide +kernel) (by decide) (by decide) ((mayK_4 _ _).trans rfl)
theorem mb_4_4 (v : Int32) : myB (nI 4) (nI 4) v = 0 ↔ mayM (nI 4) (nI 4) v = 0 := mb_in (lo := 0) (hi := 3) (lo' := 0) (hi' := 3) (by decide +kernel) (by decide +kernel) (by decide) (by decide) ((mayK_4 _ _).trans rfl)
theorem mb_5_0 (v : Int32) : myB (nI 5) (nI 0) v = 0 ↔ mayM (nI 5) (nI 0) v = 0 := mb_if (lo := 0) (hi := 31) (lo' := 0) (hi' := 31) (by decide +kernel) (by decide +kernel) (by decide) (by decide) ((mayK_5 _ _).trans rfl)
theorem mb_5_1 (v : Int32) : myB (nI 5) (nI 1) v = 0 ↔ mayM (nI 5) (nI 1) v = 0 := mb_one (by decide +kernel) (by decide +kernel) ((mayK_5 _ _).trans rfl)
theorem mb_5_2 (v : Int32) : myB (nI 5) (nI 2) v = 0 ↔ mayM (nI 5) (nI 2) v = 0 := mb_one (by decide +kernel) (by decide +kernel) ((mayK_5 _ _).trans rfl)
theorem mb_5_3 (v : Int32) : myB (nI 5) (nI 3) v = 0 ↔ mayM (nI 5) (nI 3) v = 0 := mb_one (by decide +kernel) (by decide +kernel) ((mayK_5 _ _).trans rfl)
theorem mb_5_4 (v : Int32) : myB (nI 5) (nI 4) v = 0 ↔ mayM (nI 5) (nI 4) v = 0 := mb_one (by decide +kernel) (by decide +kernel) ((mayK_5 _ _).trans rfl)
theorem mb_6_0 (v : Int32) : myB (nI 6) (nI 0) v = 0 ↔ mayM (nI 6) (nI 0) v = 0 := mb_in (lo := 0) (hi := 31) (lo' := 0) (hi' := 31) (by decide +kernel) (by decide +kernel) (by decide) (by decide) ((mayK_6 _ _).trans rfl)
theorem mb_6_1 (v : Int32) : myB (nI 6) (nI 1) v = 0 ↔ mayM (nI 6) (nI 1) v = 0 := mb_in (lo := 0) (hi := 32) (lo' := 0) (hi' := 32) (by decide +kernel) (by decide +kernel) (by decide) (by decide) ((mayK_6 _ _).trans rfl)
theorem mb_6_2 (v : Int32) : myB (nI 6) (nI 2) v = 0 ↔ mayM (nI 6) (nI 2) v = 0 := mb_in (lo := 0) (hi := 1048576) (lo' := 0) (hi' := 1048576) (by decide +kernel) (by decide +kernel) (by decide) (by decide) ((mayK_6 _ _).trans rfl)
theorem mb_7_0 (v : Int32) : myB (nI 7) (nI 0) v = 0 ↔ mayM (nI 7) (nI 0) v = 0 := mb_in (lo := 0) (hi := 1048576) (lo' := 0) (hi' := 1048576) (by decide +kernel) (by decide +kernel) (by decide) (by decide) ((mayK_7 _ _).trans rfl)
theorem mb_7_1 (v : Int32) : myB (nI 7) (nI 1) v = 0 ↔ mayM (nI 7) (nI 1) v = 0 := mb_in (lo := 1) (hi := 256) (lo' := 1) (hi' := 256) (by decide +kernel) (by decide +kernel) (by decide) (by decide) ((mayK_7 _ _).trans rfl)
theorem mb_8_0 (v : Int32) : myB (nI 8) (nI 0) v = 0 ↔ mayM (nI 8) (nI 0) v = 0 := mb_in (lo := 0) (hi := 1048576) (lo' := 0) (hi' := 1048576) (by decide +kernel) (by decide +kernel) (by decide) (by decide) ((mayK_8 _ _).trans rfl)
theorem mb_8_1 (v : Int32) : myB (nI 8) (nI 1) v = 0 ↔ mayM (nI 8) (nI 1) v = 0 := mb_in (lo := 1) (hi := 256) (lo' := 1) (hi' := 256) (by decide +kernel) (by decide +kernel) (by decide) (by decide) ((mayK_8 _ _).trans rfl)
theorem mb_9_0 (v : Int32) : myB (nI 9) (nI 0) v = 0 ↔ mayM (nI 9) (nI 0) v = 0 := mb_in (lo := 0) (hi := 3) (lo' := 0) (hi' := 3) (by decide +kernel) (by decide +kernel) (by decide) (by decide) ((mayK_9 _ _).trans rfl)
theorem mb_9_1 (v : Int32) : myB (nI 9) (nI 1) v = 0 ↔ mayM (nI 9) (nI 1) v = 0 := mb_in (lo := 0) (hi := 1048576) (lo' := 0) (hi' := 1048576) (by decide +kernel) (by decide +kernel) (by decide) (by decide) ((mayK_9 _ _).trans rfl)
theorem mb_9_2 (v : Int32) : myB (nI 9) (nI 2) v = 0 ↔ mayM (nI 9) (nI 2) v = 0 := mb_in (lo := 0) (hi := 10) (lo' := 0) (hi' := 10) (by decide +kernel) (by decide +kernel) (by decide) (by decide) ((mayK_9 _ _).trans rfl)
theorem mb_9_3 (v : Int32) : myB (nI 9) (nI 3) v = 0 ↔ mayM (nI 9) (nI 3) v = 0 := mb_in (lo := 0) (hi := 10) (lo' := 0) (hi' := 10) (by decide +kernel) (by decide +kernel) (by decide) (by decide) ((mayK_9 _ _).trans rfl)
theorem mb_9_4 (v : Int32) : myB (nI 9) (nI 4) v = 0 ↔ mayM (nI 9) (nI 4) v = 0 := mb_in (lo := 1) (hi := 11) (lo' := 1) (hi' := 11) (by decide +kernel) (by decide +kernel) (by decide) (by decide) ((mayK_9 _ _).trans rfl)
theorem mb_9_5 (v : Int32) : myB (nI 9) (nI 5) v = 0 ↔ mayM (nI 9) (nI 5) v = 0 := mb_in (lo := 0) (hi := 7) (lo' := 0) (hi' := 7) (by decide +kernel) (by decide +kernel) (by decide) (by decide) ((mayK_9 _ _).trans rfl)
theorem mb_10_0 (v : Int32) : myB (nI 10) (nI 0) v = 0 ↔ mayM (nI 10) (nI 0) v = 0 := mb_in (lo := (-1)) (hi := 7) (lo' := (-1)) (hi' := 7) (by decide +kernel) (by decide +kernel) (by decide) (by decide) ((mayK_10 _ _).trans rfl)
theorem mb_10_1 (v : Int32) : myB (nI 10) (nI 1) v = 0 ↔ mayM (nI 10) (nI 1) v = 0 := mb_in (lo := 0) (hi := 1) (lo' := 0) (hi' := 1) (by decide +kernel) (by decide +kernel) (by decide) (by decide) ((mayK_10 _ _).trans rfl)
theorem mb_11_0 (v : Int32) : myB (nI 11) (nI 0) v = 0 ↔ mayM (nI 11) (nI 0) v = 0 := mb_in (lo := 0) (hi := 1) (lo' := 0) (hi' := 1) (by decide +kernel) (by decide +kernel) (by decide) (by decide) ((mayK_11 _ _).trans rfl)
theorem mb_11_1 (v : Int32) : myB (nI 11) (nI 1) v = 0 ↔ mayM (nI 11) (nI 1) v = 0 := mb_in (lo := (-1)) (hi := 7) (lo' := (-1)) (hi' := 7) (by decide +kernel) (by decide +kernel) (by decide) (by decide) ((mayK_11 _ _).trans rfl)
theorem mb_11_2 (v : Int32) : myB (nI 11) (nI 2) v = 0 ↔ mayM (nI 11) (nI 2) v = 0 := mb_in (lo := 0) (hi := 255) (lo' := 0) (hi' := 255) (by decide +kernel) (by decide +kernel) (by decide) (by decide) ((mayK_11 _ _).trans rfl)
theorem mb_11_3 (v : Int32) : myB (nI 11) (nI 3) v = 0 ↔ mayM (nI 11) (nI 3) v = 0 := mb_in (lo := 0) (hi := 255) (lo' := 0) (hi' := 255) (by decide +kernel) (by decide +kernel) (by decide) (by decide) ((mayK_11 _ _).trans rfl)
theorem mb_11_4 (v : Int32) : myB (nI 11) (nI 4) v = 0 ↔ mayM (nI 11) (nI 4) v = 0 := mb_in (lo := 0) (hi := 255) (lo' := 0) (hi' := 255) (by decide +kernel) (by decide +kernel) (by decide) (by decide) ((mayK_11 _ _).trans rfl)
theorem mb_11_5 (v : Int32) : myB (nI 11) (nI 5) v = 0 ↔ mayM (nI 11) (nI 5) v = 0 := mb_in (lo := 0) (hi := 7) (lo' := 0) (hi' := 7) (by decide +kernel) (by decide +kernel) (by decide) (by decide) ((mayK_11 _ _).trans rfl)
theorem mb_11_6 (v : Int32) : myB (nI 11) (nI 6) v = 0 ↔ mayM (nI 11) (nI 6) v = 0 := mb_in (lo := 0) (hi := 7) (lo' := 0) (hi' := 7) (by decide +kernel) (by decide +kernel) (by decide) (by decide) ((mayK_11 _ _).trans rfl)
theorem mb_11_7 (v : Int32) : myB (nI 11) (nI 7) v = 0 ↔ mayM (nI 11) (nI 7) v = 0 := mb_in (lo := 0) (hi := 7) (lo' := 0) (hi' := 7) (by decide +kernel) (by decide +kernel) (by decide) (by decide) ((mayK_11 _ _).trans rfl)
theorem mb_12_0 (v : Int32) : myB (nI 12) (nI 0) v = 0 ↔ mayM (nI 12) (nI 0) v = 0 := mb_in (lo := 0) (hi := 14) (lo' := 0) (hi' := 14) (by decide +kernel) (by decide +kernel) (by decide) (by decide) ((mayK_12 _ _).trans rfl)
theorem mb_12_1 (v : Int32) : myB (nI 12) (nI 1) v = 0 ↔ mayM (nI 12) (nI 1) v = 0 := mb_in (lo := 0) (hi := 14) (lo' := 0) (hi' := 14) (by decide +kernel) (by decide +kernel) (by decide) (by decide) ((mayK_12 _ _).trans rfl)
theorem mb_12_2 (v : Int32) : myB (nI 12) (nI 2) v = 0 ↔ mayM (nI 12) (nI 2) v = 0 := mb_in (lo := 0) (hi := 14) (lo' := 0) (hi' := 14) (by decide +kernel) (by decide +kernel) (by decide) (by decide) ((mayK_12 _ _).trans rfl)
theorem mb_12_3 (v : Int32) : myB (nI 12) (nI 3) v = 0 ↔ mayM (nI 12) (nI 3) v = 0 := mb_in (lo := 0) (hi := 14) (lo' := 0) (hi' := 14) (by decide +kernel) (by decide +kernel) (by decide) (by decide) ((mayK_12 _ _).trans rfl)
theorem mb_12_4 (v : Int32) : myB (nI 12) (nI 4) v = 0 ↔ mayM (nI 12) (nI 4) v = 0 := mb_in (lo := (-1)) (hi := 4) (lo' := (-1)) (hi' := 4) (by decide +kernel) (by decide +kernel) (by decide) (by decide) ((mayK_12 _ _).trans rfl)
theorem mb_12_5 (v : Int32) : myB (nI 12) (nI 5) v = 0 ↔ mayM (nI 12) (nI 5) v = 0 := mb_in (lo := 0) (hi := 4) (lo' := 0) (hi' := 4) (by decide +kernel) (by decide +kernel) (by decide) (by decide) ((mayK_12 _ _).trans rfl)
theorem mb_13_0 (v : Int32) : myB (nI 13) (nI 0) v = 0 ↔ mayM (nI 13) (nI 0) v = 0 := mb_one (by decide +kernel) (by decide +kernel) ((mayK_13 _ _).trans rfl)
theorem mb_14_0 (v : Int32) : myB (nI 14) (nI 0) v = 0 ↔ mayM (nI 14) (nI 0) v = 0 := mb_in (lo := (-1)) (hi := 15) (lo' := (-1)) (hi' := 15) (by decide +kernel) (by decide +kernel) (by decide) (by decide) ((mayK_14 _ _).trans rfl)
theorem mb_15_0 (v : Int32) : myB (nI 15) (nI 0) v = 0 ↔ mayM (nI 15) (nI 0) v = 0 := mb_in (lo := 0) (hi := 15) (lo' := 0) (hi' := 15) (by decide +kernel) (by decide +kernel) (by decide) (by decide) ((mayK_15 _ _).trans rfl)
theorem mb_16_0 (v : Int32) : myB (nI 16) (nI 0) v = 0 ↔ mayM (nI 16) (nI 0) v = 0 := mb_in (lo := 0) (hi := 3) (lo' := 0) (hi' := 3) (by decide +kernel) (by decide +kernel) (by decide) (by decide) ((mayK_16 _ _).trans rfl)
theorem mb_16_1 (v : Int32) : myB (nI 16) (nI 1) v = 0 ↔ mayM (nI 16) (nI 1) v = 0 := mb_in (lo := 0) (hi := 1) (lo' := 0) (hi' := 1) (by decide +kernel) (by decide +kernel) (by decide) (by decide) ((mayK_16 _ _).trans rfl)
theorem mb_17_0 (v : Int32) : myB (nI 17) (nI 0) v = 0 ↔ mayM (nI 17) (nI 0) v = 0 := mb_in (lo := 0) (hi := 2) (lo' := 0) (hi' := 2) (by decide +kernel) (by decide +kernel) (by decide) (by decide) ((mayK_17 _ _).trans rfl)
theorem mb_17_1 (v : Int32) : myB (nI 17) (nI 1) v = 0 ↔ mayM (nI 17) (nI 1) v = 0 := mb_in (lo := 0) (hi := 1048576) (lo' := 0) (hi' := 1048576) (by decide +kernel) (by decide +kernel) (by decide) (by decide) ((mayK_17 _ _).trans rfl)
theorem mb_17_2 (v : Int32) : myB (nI 17) (nI 2) v = 0 ↔ mayM (nI 17) (nI 2) v = 0 := mb_in (lo := 0) (hi := 4096) (lo' := 0) (hi' := 4096) (by decide +kernel) (by decide +kernel) (by decide) (by decide) ((mayK_17 _ _).trans rfl)
theorem mb_18_0 (v : Int32) : myB (nI 18) (nI 0) v = 0 ↔ mayM (nI 18) (nI 0) v = 0 := mb_if (lo := 0) (hi := 2) (lo' := 0) (hi' := 2) (by decide +kernel) (by decide +kernel) (by decide) (by decide) ((mayK_18 _ _).trans rfl)
theorem mb_18_1 (v : Int32) : myB (nI 18) (nI 1) v = 0 ↔ mayM (nI 18) (nI 1) v = 0 := mb_if (lo := 0) (hi := 1048576) (lo' := 0) (hi' := 1048576) (by decide +kernel) (by decide +kernel) (by decide) (by decide) ((mayK_18 _ _).trans rfl)
theorem mb_18_2 (v : Int32) : myB (nI 18) (nI 2) v = 0 ↔ mayM (nI 18) (nI 2) v = 0 := mb_if (lo := 0) (hi := 4096) (lo' := 0) (hi' := 4096) (by decide +kernel) (by decide +kernel) (by decide) (by decide) ((mayK_18 _ _).trans rfl)
theorem mb_18_3 (v : Int32) : myB (nI 18) (nI 3) v = 0 ↔ mayM (nI 18) (nI 3) v = 0 := mb_if (lo := 0) (hi := 2) (lo' := 0) (hi' := 2) (by decide +kernel) (by decide +kernel) (by decide) (by decide) ((mayK_18 _ _).trans rfl)
theorem mb_18_4 (v : Int32) : myB (nI 18) (nI 4) v = 0 ↔ mayM (nI 18) (nI 4) v = 0 := mb_one (by decide +kernel) (by decide +kernel) ((mayK_18 _ _).trans rfl)
theorem mb_19_0 (v : Int32) : myB (nI 19) (nI 0) v = 0 ↔ mayM (nI 19) (nI 0) v = 0 := mb_in (lo := 0) (hi := 7) (lo' := 0) (hi' := 7) (by decide +kernel) (by decide +kernel) (by decide) (by decide) ((mayK_19 _ _).trans rfl)
theorem mb_19_1 (v : Int32) : myB (nI 19) (nI 1) v = 0 ↔ mayM (nI 19) (nI 1) v = 0 := mb_in (lo := 0) (hi := 1) (lo' := 0) (hi' := 1) (by decide +kernel) (by decide +kernel) (by decide) (by decide) ((mayK_19 _ _).trans rfl)
theorem mb_20_0 (v : Int32) : myB (nI 20) (nI 0) v = 0 ↔ mayM (nI 20) (nI 0) v = 0 := mb_in (lo := 0) (hi := 127) (lo' := 0) (hi' := 127) (by decide +kernel) (by decide +kernel) (by decide) (by decide) ((mayK_20 _ _).trans rfl)
theorem mb_20_1 (v : Int32) : myB (nI 20) (nI 1) v = 0 ↔ mayM (nI 20) (nI 1) v = 0 := mb_in (lo := 0) (hi := 127) (lo' := 0) (hi' := 127) (by decide +kernel) (by decide +kernel) (by decide) (by decide) ((mayK_20 _ _).trans rfl)
theorem mb_20_2 (v : Int32) : myB (nI 20) (nI 2) v = 0 ↔ mayM (nI 20) (nI 2) v = 0 := mb_in (lo := 1) (hi := 128) (lo' := 1) (hi' := 128) (by decide +kernel) (by decide +kernel) (by decide) (by decide) ((mayK_20 _ _).trans rfl)
theorem mb_20_3 (v : Int32) : myB (nI 20) (nI 3) v = 0 ↔ mayM (nI 20) (nI 3) v = 0 := mb_in (lo := 1) (hi := 128) (lo' := 1) (hi' := 128) (by decide +kernel) (by decide +kernel) (by decide) (by decide) ((mayK_20 _ _).trans rfl)
theorem mb_20_4 (v : Int32) : myB (nI 20) (nI 4) v = 0 ↔ mayM (nI 20) (nI 4) v = 0 := mb_in (lo := 0) (hi := 1048576) (lo' := 0) (hi' := 1048576) (by decide +kernel) (by decide +kernel) (by decide) (by decide) ((mayK_20 _ _).trans rfl)
theorem mb_20_5 (v : Int32) : myB (nI 20) (nI 5) v = 0 ↔ mayM (nI 20) (nI 5) v = 0 := mb_in (lo := 0) (hi := 2) (lo' := 0) (hi' := 2) (by decide +kernel) (by decide +kernel) (by decide) (by decide) ((mayK_20 _ _).trans rfl)
theorem mb_21_0 (v : Int32) : myB (nI 21) (nI 0) v = 0 ↔ mayM (nI 21) (nI 0) v = 0 := mb_if (lo := 0) (hi := 1048576) (lo' := 0) (hi' := 1048576) (by decide +kernel) (by decide +kernel) (by decide) (by decide) ((mayK_21 _ _).trans rfl)
theorem mb_21_1 (v : Int32) : myB (nI 21) (nI 1) v = 0 ↔ mayM (nI 21) (nI 1) v = 0 := mb_if (lo := 0) (hi := 256) (lo' := 0) (hi' := 256) (by decide +kernel) (by decide +kernel) (by decide) (by decide) ((mayK_21 _ _).trans rfl)
theorem mb_23_0 (v : Int32) : myB (nI 23) (nI 0) v = 0 ↔ mayM (nI 23) (nI 0) v = 0 := mb_in (lo := 0) (hi := 1048576) (lo' := 0) (hi' := 1048576) (by decide +kernel) (by decide +kernel) (by decide) (by decide) ((mayK_23 _ _).trans rfl)
theorem mb_24_0 (v : Int32) : myB (nI 24) (nI 0) v = 0 ↔ mayM (nI 24) (nI 0) v = 0 := mb_in (lo := 0) (hi := 3) (lo' := 0) (hi' := 3) (by decide +kernel) (by decide +kernel) (by decide) (by decide) ((mayK_24 _ _).trans rfl)
theorem mb_24_1 (v : Int32) : myB (nI 24) (nI 1) v = 0 ↔ mayM (nI 24) (nI 1) v = 0 := mb_in (lo := 0) (hi := 3) (lo' := 0) (hi' := 3) (by decide +kernel) (by decide +kernel) (by decide) (by decide) ((mayK_24 _ _).trans rfl)
theorem mb_24_2 (v : Int32) : myB (nI 24) (nI 2) v = 0 ↔ mayM (nI 24) (nI 2) v = 0 := mb_in (lo := 0) (hi := 3) (lo' := 0) (hi' := 3) (by decide +kernel) (by decide +kernel) (by decide) (by decide) ((mayK_24 _ _).trans rfl)
theorem mb_24_3 (v : Int32) : myB (nI 24) (nI 3) v = 0 ↔ mayM (nI 24) (nI 3) v = 0 := mb_in (lo := 0) (hi := 3) (lo' := 0) (hi' := 3) (by decide +kernel) (by decide +kernel) (by decide) (by decide) ((mayK_24 _ _).trans rfl)
theorem mb_25_0 (v : Int32) : myB (nI 25) (nI 0) v = 0 ↔ mayM (nI 25) (nI 0) v = 0 := mb_if (lo := 0) (hi := 3) (lo' := 0) (hi' := 3) (by decide +kernel) (by decide +kernel) (by decide) (by decide) ((mayK_25 _ _).trans rfl)
theorem mb_25_1 (v : Int32) : myB (nI 25) (nI 1) v = 0 ↔ mayM (nI 25) (nI 1) v = 0 := mb_one (by decide +kernel) (by decide +kernel) ((mayK_25 _ _).trans rfl)
theorem mb_25_2 (v : Int32) : myB (nI 25) (nI 2) v = 0 ↔ mayM (nI 25) (nI 2) v = 0 := mb_one (by decide +kernel) (by decide +kernel) ((mayK_25 _ _).trans rfl)
theorem mb_25_3 (v : Int32) : myB (nI 25) (nI 3) v = 0 ↔ mayM (nI 25) (nI 3) v = 0 := mb_one (by decide +kernel) (by decide +kernel) ((mayK_25 _ _).trans rfl)
theorem mb_25_4 (v : Int32) : myB (nI 25) (nI 4) v = 0 ↔ mayM (nI 25) (nI 4) v = 0 := mb_one (by decide +kernel) (by decide +kernel) ((mayK_25 _ _).trans rfl)
theorem mb_all {q j : Nat} (hq : q < 26) (hj : j < fN q) (v : Int32) : myB (nI q) (nI j) v = 0 ↔ mayM (nI q) (nI j) v = 0 := by
  rcases (show q = 0 ∨ q = 1 ∨ q = 2 ∨ q = 3 ∨ q = 4 ∨ q = 5 ∨ q = 6 ∨ q = 7 ∨ q = 8 ∨ q = 9 ∨ q = 10 ∨ q = 11 ∨ q = 12 ∨ q = 13 ∨ q = 14 ∨ q = 15 ∨ q = 16 ∨ q = 17 ∨ q = 18 ∨ q = 19 ∨ q = 20 ∨ q = 21 ∨ q = 22 ∨ q = 23 ∨ q = 24 ∨ q = 25 by omega) with rfl | rfl | rfl | rfl | rfl | rfl | rfl | rfl | rfl | rfl | rfl | rfl | rfl | rfl | rfl | rfl | rfl | rfl | rfl | rfl | rfl | rfl | rfl | rfl | rfl | rfl
  · have hj : j < 0 := hj
    exact absurd hj (Nat.not_lt_zero j)
  · have hj : j < 4 := hj
    rcases (show j = 0 ∨ j = 1 ∨ j = 2 ∨ j = 3 by omega) with rfl | rfl | rfl | rfl
    · exact mb_1_0 v
    · exact mb_1_1 v
    · exact mb_1_2 v
    · exact mb_1_3 v
  · have hj : j < 6 := hj
    rcases (show j = 0 ∨ j = 1 ∨ j = 2 ∨ j = 3 ∨ j = 4 ∨ j = 5 by omega) with rfl | rfl | rfl | rfl | rfl | rfl
    · exact mb_2_0 v
    · exact mb_2_1 v
    · exact mb_2_2 v
    · exact mb_2_3 v
    · exact mb_2_4 v
    · exact mb_2_5 v
  · have hj : j < 4 := hj
    rcases (show j = 0 ∨ j = 1 ∨ j = 2 ∨ j = 3 by omega) with rfl | rfl | rfl | rfl
    · exact mb_3_0 v
    · exact mb_3_1 v
    · exact mb_3_2 v
    · exact mb_3_3 v
  · have hj : j < 5 := hj
    rcases (show j = 0 ∨ j = 1 ∨ j = 2 ∨ j = 3 ∨ j = 4 by omega) with rfl | rfl | rfl | rfl | rfl
    · exact mb_4_0 v
    · exact mb_4_1 v
    · exact mb_4_2 v
    · exact mb_4_3 v
    · exact mb_4_4 v
  · have hj : j < 5 := hj
    rcases (show j = 0 ∨ j = 1 ∨ j = 2 ∨ j = 3 ∨ j = 4 by omega) with rfl | rfl | rfl | rfl | rfl
    · exact mb_5_0 v
    · exact mb_5_1 v
    · exact mb_5_2 v
    · exact mb_5_3 v
    · exact mb_5_4 v
  · have hj : j < 3 := hj
    rcases (show j = 0 ∨ j = 1 ∨ j = 2 by omega) with rfl | rfl | rfl
    · exact mb_6_0 v
    · exact mb_6_1 v
    · exact mb_6_2 v
  · have hj : j < 2 := hj
    rcases (show j = 0 ∨ j = 1 by omega) with rfl | rfl
    · exact mb_7_0 v
    · exact mb_7_1 v
  · have hj : j < 2 := hj
    rcases (show j = 0 ∨ j = 1 by omega) with rfl | rfl
    · exact mb_8_0 v
    · exact mb_8_1 v
  · have hj : j < 6 := hj
    rcases (show j = 0 ∨ j = 1 ∨ j = 2 ∨ j = 3 ∨ j = 4 ∨ j = 5 by omega) with rfl | rfl | rfl | rfl | rfl | rfl
    · exact mb_9_0 v
    · exact mb_9_1 v
    · exact mb_9_2 v
    · exact mb_9_3 v
    · exact mb_9_4 v
    · exact mb_9_5 v
  · have hj : j < 2 := hj
    rcases (show j = 0 ∨ j = 1 by omega) with rfl | rfl
    · exact mb_10_0 v
    · exact mb_10_1 v
  · have hj : j < 8 := hj
    rcases (show j = 0 ∨ j = 1 ∨ j = 2 ∨ j = 3 ∨ j = 4 ∨ j = 5 ∨ j = 6 ∨ j = 7 by omega) with rfl | rfl | rfl | rfl | rfl | rfl | rfl | rfl
    · exact mb_11_0 v
    · exact mb_11_1 v
    · exact mb_11_2 v
    · exact mb_11_3 v
    · exact mb_11_4 v
    · exact mb_11_5 v
    · exact mb_11_6 v
    · exact mb_11_7 v
  · have hj : j < 6 := hj
    rcases (show j = 0 ∨ j = 1 ∨ j = 2 ∨ j = 3 ∨ j = 4 ∨ j = 5 by omega) with rfl | rfl | rfl | rfl | rfl | rfl
    · exact mb_12_0 v
    · exact mb_12_1 v
    · exact mb_12_2 v
    · exact mb_12_3 v
    · exact mb_12_4 v
    · exact mb_12_5 v
  · have hj : j < 1 := hj
    rcases (show j = 0 by omega) with rfl
    · exact mb_13_0 v
  · have hj : j < 1 := hj
    rcases (show j = 0 by omega) with rfl
    · exact mb_14_0 v
  · have hj : j < 1 := hj
    rcases (show j = 0 by omega) with rfl
    · exact mb_15_0 v
  · have hj : j < 2 := hj
    rcases (show j = 0 ∨ j = 1 by omega) with rfl | rfl
    · exact mb_16_0 v
    · exact mb_16_1 v
  · have hj : j < 3 := hj
    rcases (show j = 0 ∨ j = 1 ∨ j = 2 by omega) with rfl | rfl | rfl
    · exact mb_17_0 v
    · exact mb_17_1 v
    · exact mb_17_2 v
  · have hj : j < 5 := hj
    rcases (show j = 0 ∨ j = 1 ∨ j = 2 ∨ j = 3 ∨ j = 4 by omega) with rfl | rfl | rfl | rfl | rfl
    · exact mb_18_0 v
    · exact mb_18_1 v
    · exact mb_18_2 v
    · exact mb_18_3 v
    · exact mb_18_4 v
  · have hj : j < 2 := hj
    rcases (show j = 0 ∨ j = 1 by omega) with rfl | rfl
    · exact mb_19_0 v
    · exact mb_19_1 v
  · have hj : j < 6 := hj
    rcases (show j = 0 ∨ j = 1 ∨ j = 2 ∨ j = 3 ∨ j = 4 ∨ j = 5 by omega) with rfl | rfl | rfl | rfl | rfl | rfl
    · exact mb_20_0 v
    · exact mb_20_1 v
    · exact mb_20_2 v
    · exact mb_20_3 v
    · exact mb_20_4 v
    · exact mb_20_5 v
  · have hj : j < 2 := hj
    rcases (show j = 0 ∨ j = 1 by omega) with rfl | rfl
    · exact mb_21_0 v
    · exact mb_21_1 v
  · have hj : j < 0 := hj
    exact absurd hj (Nat.not_lt_zero j)
  · have hj : j < 1 := hj
    rcases (show j = 0 by omega) with rfl
    · exact mb_23_0 v
  · have hj : j < 4 := hj
    rcases (show j = 0 ∨ j = 1 ∨ j = 2 ∨ j = 3 by omega) with rfl | rfl | rfl | rfl
    · exact mb_24_0 v
    · exact mb_24_1 v
    · exact mb_24_2 v
    · exact mb_24_3 v
  · have hj : j < 5 := hj
    rcases (show j = 0 ∨ j = 1 ∨ j = 2 ∨ j = 3 ∨ j = 4 by omega) with rfl | rfl | rfl | rfl | rfl
    · exact mb_25_0 v
    · exact mb_25_1 v
    · exact mb_25_2 v
    · exact mb_25_3 v
    · exact mb_25_4 v
