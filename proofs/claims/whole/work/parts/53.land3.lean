theorem bit_off : ∀ a, a < 128 → ∀ i, i < 7 → a / 2 ^ i % 2 = 1 → (nI a &&& ((1 <<< (nI i &&& 31)) ^^^ -1)) = nI (a - 2 ^ i) := by decide +kernel
theorem lvz_off {z : Nat → Nat} {i v : Nat} (h : z (21 + 6 * i) = 0) (hv : ¬ v = 0) : ∀ k, i < k → lvz z k = lvz (un z (21 + 6 * i) v) k + 2 ^ i
  | 0, hk => absurd hk (by omega)
  | k + 1, hk => by
    show lvz z k + _ = lvz (un z (21 + 6 * i) v) k + _ + 2 ^ i
    by_cases e : i = k
    · subst e
      rw [un_s, if_pos h, if_neg hv, lvz_cg (z := z) (y := un z (21 + 6 * i) v) i (fun q hq => (un_n _ _ (by omega)).symm), Nat.add_zero]
    · rw [lvz_off h hv k (by omega), un_n (j := 21 + 6 * k) _ _ (by omega)]
      omega
theorem LR_die {μ : Mm} {p : Nat} {z : Nat → Nat} {i n : Nat} (h : LR μ p z) (h2 : z 2 ≤ 5) (h3 : z 3 ≤ 7) (hi : i < z 3) (h0 : z (21 + 6 * i) = 0) : LR (up (up μ p 6 ((μ p 6) &&& ((1 <<< (nI i &&& 31)) ^^^ -1))) (p + 8) i (nI n)) p (un z (21 + 6 * i) (n + 1)) := by
  obtain ⟨r0, r1, r2, r3, r4, r5, r6, r7, r8⟩ := h
  have lo : ∀ a, a < 16 → un z (21 + 6 * i) (n + 1) a = z a := fun a ha => un_n _ _ (by omega)
  have off := lvz_off (i := i) (v := n + 1) h0 (by omega) (z 3) hi
  have lt := lvz_lt z (z 3)
  have p7 : 2 ^ z 3 ≤ 2 ^ 7 := Nat.pow_le_pow_right (by decide) h3
  have bit := lvz_bit z (z 3) i hi
  rw [if_pos h0] at bit
  have e6 : (μ p 6 &&& ((1 <<< (nI i &&& 31)) ^^^ -1)) = nI (lvz (un z (21 + 6 * i) (n + 1)) (z 3)) := by
    rw [r6, bit_off _ (by omega) i (by omega) bit, off, Nat.add_sub_cancel]
  rw [e6]
  have cell : ∀ a, a ≠ p → a ≠ p + 8 → (up (up μ p 6 (nI (lvz (un z (21 + 6 * i) (n + 1)) (z 3)))) (p + 8) i (nI n)) a = μ a := fun a h1 h2 => by rw [up_eq, upc_n _ _ h2, up_eq, upc_n _ _ h1]
  have hp : (up (up μ p 6 (nI (lvz (un z (21 + 6 * i) (n + 1)) (z 3)))) (p + 8) i (nI n)) p = upd (μ p) 6 (nI (lvz (un z (21 + 6 * i) (n + 1)) (z 3))) := by rw [up_eq, upc_n _ _ (by omega), up_eq, upc_s]
  have h8 : (up (up μ p 6 (nI (lvz (un z (21 + 6 * i) (n + 1)) (z 3)))) (p + 8) i (nI n)) (p + 8) = upd (μ (p + 8)) i (nI n) := by rw [up_eq, upc_s, up_eq, upc_n _ _ (by omega)]
  unfold LR
  rw [lo 0 (by decide), lo 1 (by decide), lo 2 (by decide), lo 3 (by decide), lo 4 (by decide), lo 5 (by decide), hp, h8, cell (p + 1) (by omega) (by omega), cell (p + 2) (by omega) (by omega), cell (p + 3) (by omega) (by omega), cell (p + 4) (by omega) (by omega), cell (p + 5) (by omega) (by omega), cell (p + 6) (by omega) (by omega), cell (p + 7) (by omega) (by omega)]
  refine ⟨r0, r1, r2, r3, r4, r5, rfl, fun t ht => ?_, fun a ha => ?_⟩
  · rw [lo _ (by omega), lo _ (by omega)]
    exact r7 t ht
  · obtain ⟨q0, q1, q2, q3, q4, q5⟩ := r8 a ha
    rw [un_n (j := 16 + 6 * a) _ _ (by omega), un_n (j := 17 + 6 * a) _ _ (by omega), un_n (j := 18 + 6 * a) _ _ (by omega), un_n (j := 19 + 6 * a) _ _ (by omega), un_n (j := 20 + 6 * a) _ _ (by omega)]
    refine ⟨q0, q1, q2, q3, q4, ?_⟩
    by_cases e : a = i
    · subst e
      rw [upd_s, un_s]
      rfl
    · rw [upd_n _ _ e, un_n _ _ (by omega)]
      exact q5
