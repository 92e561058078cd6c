section
theorem i_vc (xs : Nat → Int32) (L : Nat) (hL : L ≤ 260) : wpL_law (fun r => r = 1) L xs := by
  obtain ⟨v0, g0⟩ := ml_cell L xs hL 0 (by omega)
  obtain ⟨v1, g1⟩ := ml_cell L xs hL 1 (by omega)
  obtain ⟨n, p, I, hi⟩ := ml_init v0 v1
  unfold wpL_law
  refine g0 _ ?_
  refine g1 _ ?_
  refine ⟨15, 645, by omega, by omega, ?_⟩
  refine hi _ ?_
  refine And.intro (by omega) (And.intro (by omega) ?_)
  refine g0 _ ?_
  refine g1 _ ?_
  refine ⟨15, 645, by omega, by omega, ?_⟩
  refine hi _ ?_
  by_cases h5 : L ≤ 5
  · refine br_t (nI_le (b := 5) h5 (by decide)) (nm_r (show (3 : Int32) + 0 = nI 3 from by decide) ?_)
    exact ⟨4, ml_58 (post := fun r => r = 1) hL 3 (by omega) rfl 3 0 1 0 _ _ _ _ _ _ _ _ _ _ _ _ _ _ _ I (by omega) (by omega) 4 (by omega)⟩
  · have a0 : (3 : Int32) + ((Int32.ofNat L) - 5) / 4 = nI (3 + (L - 5) / 4) := by
      rw [show (Int32.ofNat L) - 5 = nI (L - 5) from pk_sub (b := 5) (by omega), show nI (L - 5) / 4 = nI ((L - 5) / 4) from pk_div (d := 4) (by omega) (by omega) (by omega)]
      exact nI_add 3 ((L - 5) / 4)
    refine br_f (nI_ge (b := L) (a := 5) (by omega) (by omega)) (And.intro (by decide) (nm_r a0 ?_))
    exact ⟨101, ml_58 (post := fun r => r = 1) hL (3 + (L - 5) / 4) (by omega) rfl 100 0 1 0 _ _ _ _ _ _ _ _ _ _ _ _ _ _ _ I (by omega) (by omega) 101 (by omega)⟩
end
