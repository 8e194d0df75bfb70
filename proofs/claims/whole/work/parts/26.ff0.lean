theorem swT {x : Int32} (h0 : 0 ≤ x.toInt) {n : Nat} (h : x.toInt < n) (hn : n < 2 ^ 31) : ∃ j : Nat, j < n ∧ x = nI j := by
  refine ⟨x.toInt.toNat, by omega, Int32.toInt_inj.mp ?_⟩
  rw [nI_toInt (by omega)]
  omega
theorem swOut3 {y : Int32} (h0 : ¬ y = nI 0) (h1 : ¬ y = nI 1) (h2 : ¬ y = nI 2) : y.toInt < 0 ∨ 2 < y.toInt := by
  rcases Int.lt_or_le y.toInt 0 with h | h
  · exact Or.inl h
  · rcases Int.lt_or_le 2 y.toInt with g | g
    · exact Or.inr g
    · obtain ⟨j, hj, rfl⟩ := swT (n := 3) h (by omega) (by omega)
      rcases (show j = 0 ∨ j = 1 ∨ j = 2 by omega) with rfl | rfl | rfl
      · exact absurd rfl h0
      · exact absurd rfl h1
      · exact absurd rfl h2
theorem swOut6 {y : Int32} (h0 : ¬ y = nI 0) (h1 : ¬ y = nI 1) (h2 : ¬ y = nI 2) (h3 : ¬ y = nI 3) (h4 : ¬ y = nI 4) (h5 : ¬ y = nI 5) : y.toInt < 0 ∨ 5 < y.toInt := by
  rcases Int.lt_or_le y.toInt 0 with h | h
  · exact Or.inl h
  · rcases Int.lt_or_le 5 y.toInt with g | g
    · exact Or.inr g
    · obtain ⟨j, hj, rfl⟩ := swT (n := 6) h (by omega) (by omega)
      rcases (show j = 0 ∨ j = 1 ∨ j = 2 ∨ j = 3 ∨ j = 4 ∨ j = 5 by omega) with rfl | rfl | rfl | rfl | rfl | rfl
      · exact absurd rfl h0
      · exact absurd rfl h1
      · exact absurd rfl h2
      · exact absurd rfl h3
      · exact absurd rfl h4
      · exact absurd rfl h5
