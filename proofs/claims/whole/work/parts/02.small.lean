section
theorem mb_lt_t {a b : Nat} (h : a < b) (hb : b < 2 ^ 31) : (nI a < nI b) = True := eq_true (nI_lt h hb)
theorem mb_lt_f {a b : Nat} (h : b ≤ a) (hb : a < 2 ^ 31) : (nI a < nI b) = False := eq_false (nI_nlt h hb)
theorem mb_le_t {a b : Nat} (h : a ≤ b) (hb : b < 2 ^ 31) : (nI a ≤ nI b) = True := eq_true (nI_le h hb)
theorem mb_le_f {a b : Nat} (h : b < a) (hb : a < 2 ^ 31) : (nI a ≤ nI b) = False := eq_false (nI_ge h hb)
theorem mb_ne {a b : Nat} (h : a ≠ b) (ha : a < 2 ^ 31) (hb : b < 2 ^ 31) : (nI a = nI b) = False := eq_false (fun e => h ((nI_eq ha hb).mp e))
theorem mb_lt0 {a : Nat} (h : a < 2 ^ 31) : (nI a < 0) = False := eq_false (nI_pos h)
theorem mb_le0 {a : Nat} (h : a < 2 ^ 31) : (0 ≤ nI a) = True := eq_true (nI_pos' h)
theorem mb_m1 {a : Nat} (h : a < 2 ^ 31) : (nI a = -1) = False := eq_false (mb_n1 h)
theorem mb_m1l {a : Nat} (h : a < 2 ^ 31) : (-1 ≤ nI a) = True := eq_true (Int32.le_trans (by decide) (nI_pos' h))
theorem mb_m1g {a : Nat} (h : a < 2 ^ 31) : (nI a < -1) = False := eq_false (fun z => nI_pos h (Int32.lt_trans z (by decide)))
theorem mb_m1n {a : Nat} (h : a < 2 ^ 31) : (nI a = -2) = False := eq_false (fun e => nI_pos h (by rw [e]; decide))
theorem mb_x2 (a : Nat) : nI a * 2 = nI (a * 2) := pk_mul a 2
theorem mb_x4 (a : Nat) : nI a * 4 = nI (a * 4) := pk_mul a 4
theorem mb_x32 (a : Nat) : nI a * 32 = nI (a * 32) := pk_mul a 32
theorem mb_lt_4 {a : Nat} (h : a < 4) : (nI a < 4) = True := eq_true (nI_lt (b := 4) h (by decide))
theorem mb_le_4 {a : Nat} (h : a < 4) : (4 ≤ nI a) = False := eq_false (nI_ge (b := 4) h (by decide))
theorem mb_ge_4 {a : Nat} (h : 4 ≤ a) (ha : a < 2 ^ 31) : (4 ≤ nI a) = True := eq_true (nI_le (a := 4) h ha)
theorem mb_gt_4 {a : Nat} (h : 4 ≤ a) (ha : a < 2 ^ 31) : (nI a < 4) = False := eq_false (nI_nlt (b := 4) h ha)
theorem mb_le_3 {a : Nat} (h : a < 4) : (nI a ≤ 3) = True := eq_true (nI_le (b := 3) (by omega) (by decide))
theorem mb_gt_3 {a : Nat} (h : a < 4) : (3 < nI a) = False := eq_false (nI_nlt (a := 3) (by omega) (by decide))
theorem mb_le_7 {a : Nat} (h : a < 8) : (nI a ≤ 7) = True := eq_true (nI_le (b := 7) (by omega) (by decide))
theorem mb_gt_7 {a : Nat} (h : a < 8) : (7 < nI a) = False := eq_false (nI_nlt (a := 7) (by omega) (by decide))
theorem mb_lt_32 {a : Nat} (h : a < 32) : (nI a < 32) = True := eq_true (nI_lt (b := 32) h (by decide))
theorem mb_ge_32 {a : Nat} (h : a < 32) : (32 ≤ nI a) = False := eq_false (nI_ge (b := 32) h (by decide))
theorem mb_lt_128 {a : Nat} (h : a < 128) : (nI a < 128) = True := eq_true (nI_lt (b := 128) h (by decide))
theorem mb_ge_128 {a : Nat} (h : a < 128) : (128 ≤ nI a) = False := eq_false (nI_ge (b := 128) h (by decide))
theorem mb_ge_1 {a : Nat} (h : 1 ≤ a) (ha : a < 2 ^ 31) : (1 ≤ nI a) = True := eq_true (nI_le (a := 1) h ha)
theorem mb_lt_1 {a : Nat} (h : 1 ≤ a) (ha : a < 2 ^ 31) : (nI a < 1) = False := eq_false (nI_nlt (b := 1) h ha)
theorem mb_ge_1f {a : Nat} (h : a < 1) : (1 ≤ nI a) = False := eq_false (nI_ge (b := 1) h (by decide))
theorem mb_lt_1t {a : Nat} (h : a < 1) : (nI a < 1) = True := eq_true (nI_lt (b := 1) h (by decide))
/-- an index: below 0, beyond n, or within -/
theorem mb_ix (x : Int32) {n : Nat} (hn : n < 2 ^ 31) : (x < 0 ∧ ¬ 0 ≤ x) ∨ (¬ x < 0 ∧ 0 ≤ x ∧ nI n ≤ x ∧ ¬ x < nI n) ∨ ∃ j : Nat, j < n ∧ x = nI j := by
  rcases pk_ix x hn with h | h | h
  · exact Or.inl ⟨h, Int32.not_le.mpr h⟩
  · have h0 : 0 ≤ x := Int32.le_trans (nI_pos' hn) h
    exact Or.inr (Or.inl ⟨Int32.not_lt.mpr h0, h0, h, Int32.not_lt.mpr h⟩)
  · exact Or.inr (Or.inr h)
end
