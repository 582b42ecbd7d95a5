/-- the first i PEOPLE have had their DAY -/
def hp (z : Nat → Nat) (i : Nat) : Nat → Nat := fun x => if 16 ≤ x ∧ x < 16 + 6 * i then dz 0 z x else z x
theorem hp_in {z : Nat → Nat} {i x : Nat} (h : 16 ≤ x) (h2 : x < 16 + 6 * i) : hp z i x = dz 0 z x := if_pos ⟨h, h2⟩
theorem hp_out {z : Nat → Nat} {i x : Nat} (h : x < 16 ∨ 16 + 6 * i ≤ x) : hp z i x = z x := if_neg (by omega)
theorem hp_suc {z y : Nat → Nat} (hz : VL z) {i : Nat} (hi : i < z 3) (h1 : ∀ x, ¬ x = 18 + 6 * i → ¬ x = 20 + 6 * i → ¬ x = 21 + 6 * i → y x = hp z i x) (h2 : y (18 + 6 * i) = dz 0 z (18 + 6 * i)) (h3 : y (20 + 6 * i) = dz 0 z (20 + 6 * i)) (h4 : y (21 + 6 * i) = dz 0 z (21 + 6 * i)) : ∀ x, y x = hp z (i + 1) x := by
  have v2 := hz.2.2.1
  intro x
  by_cases a : x = 18 + 6 * i
  · rw [a, h2, hp_in (by omega) (by omega)]
  by_cases b : x = 20 + 6 * i
  · rw [b, h3, hp_in (by omega) (by omega)]
  by_cases c : x = 21 + 6 * i
  · rw [c, h4, hp_in (by omega) (by omega)]
  rw [h1 x a b c]
  by_cases d : 16 ≤ x ∧ x < 16 + 6 * i
  · rw [hp_in d.1 d.2, hp_in d.1 (by omega)]
  · rw [hp_out (by omega)]
    by_cases e : x < 16 ∨ 16 + 6 * (i + 1) ≤ x
    · rw [hp_out e]
    · rw [hp_in (by omega) (by omega), dz_c (by omega) v2 (by omega) (by omega) (by omega)]
