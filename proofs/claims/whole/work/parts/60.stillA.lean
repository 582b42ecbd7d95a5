/-! ===== still: the sums ===== -/
def wy (o s p : Nat) : Nat → Nat
  | 0 => 1
  | t + 1 => wy o s p t * (if o / 2 ^ t % 2 = 0 then 1 else if s / 2 ^ t % 2 = 1 then p else 10 - p)
def be (o p : Nat) : Nat → Nat
  | 0 => 0
  | s + 1 => be o p s + (if s &&& o = s then wy o s p 5 else 0)
def ab (o p b l0 l1 : Nat) : Nat → Nat
  | 0 => 0
  | s + 1 => ab o p b l0 l1 s + (if s &&& o = s then (if (if s / 2 ^ b % 2 = 1 then l1 else l0) = 0 then 0 else wy o s p 5) else 0)
def cs (p l0 l1 : Nat) : Nat := (if l0 = 0 then 0 else 10 - p) + (if l1 = 0 then 0 else p)
theorem wy_up {o s p T : Nat} (h : o < 2 ^ T) : ∀ k, wy o s p (T + k) = wy o s p T
  | 0 => rfl
  | k + 1 => by
    show wy o s p (T + k) * (if o / 2 ^ (T + k) % 2 = 0 then 1 else if s / 2 ^ (T + k) % 2 = 1 then p else 10 - p) = _
    have hd : o / 2 ^ (T + k) = 0 := Nat.div_eq_of_lt (Nat.lt_of_lt_of_le h (Nat.pow_le_pow_right (by decide) (Nat.le_add_right T k)))
    rw [wy_up h k, hd, if_pos (by decide), Nat.mul_one]
theorem wy_5 {o s p T : Nat} (h : o < 2 ^ T) (hT : T ≤ 5) : wy o s p T = wy o s p 5 := by
  have := wy_up (s := s) (p := p) h (5 - T)
  rw [show T + (5 - T) = 5 by omega] at this
  exact this.symm
theorem wy_le {o s p : Nat} (hp : p ≤ 10) : ∀ t, wy o s p t ≤ 10 ^ t
  | 0 => Nat.le_refl _
  | t + 1 => by
    show wy o s p t * _ ≤ 10 ^ (t + 1)
    rw [Nat.pow_succ]
    refine Nat.mul_le_mul (wy_le hp t) ?_
    split
    · decide
    · split <;> omega
theorem be_le {o p : Nat} (hp : p ≤ 10) : ∀ s, be o p s ≤ s * 100000
  | 0 => Nat.le_refl _
  | s + 1 => by
    have h2 : wy o s p 5 ≤ 100000 := Nat.le_trans (wy_le hp 5) (by decide)
    show be o p s + (if s &&& o = s then wy o s p 5 else 0) ≤ (s + 1) * 100000
    rw [Nat.succ_mul]
    refine Nat.add_le_add (be_le hp s) ?_
    split
    · exact h2
    · exact Nat.zero_le _
theorem ab_le {o p b l0 l1 : Nat} (hp : p ≤ 10) : ∀ s, ab o p b l0 l1 s ≤ s * 100000
  | 0 => Nat.le_refl _
  | s + 1 => by
    have h2 : wy o s p 5 ≤ 100000 := Nat.le_trans (wy_le hp 5) (by decide)
    show ab o p b l0 l1 s + (if s &&& o = s then (if (if s / 2 ^ b % 2 = 1 then l1 else l0) = 0 then 0 else wy o s p 5) else 0) ≤ (s + 1) * 100000
    rw [Nat.succ_mul]
    refine Nat.add_le_add (ab_le hp s) ?_
    generalize (if s / 2 ^ b % 2 = 1 then l1 else l0) = c
    split
    · split
      · exact Nat.zero_le _
      · exact h2
    · exact Nat.zero_le _
def stT (o p b l0 l1 : Nat) : Bool := ab o p b l0 l1 (o + 1) * 10 == be o p (o + 1) * cs p l0 l1 && Nat.blt 0 (be o p (o + 1))
theorem st_fin : ∀ o, o < 32 → ∀ p, p < 11 → ∀ b, b < 5 → (∀ l, l < 2 → stT o p b l l = true) ∧ (o / 2 ^ b % 2 = 1 → stT o p b 0 1 = true ∧ stT o p b 1 0 = true) := by decide +kernel
theorem co_fin : ∀ c, c < 11 → Nat.Coprime (c / Nat.gcd c 10) (10 / Nat.gcd c 10) := by decide
theorem co_mul : ∀ c, c < 11 → c / Nat.gcd c 10 * Nat.gcd c 10 = c ∧ 10 / Nat.gcd c 10 * Nat.gcd c 10 = 10 ∧ 0 < Nat.gcd c 10 ∧ 0 < 10 / Nat.gcd c 10 := by decide
theorem st_gcd {A B c : Nat} (hc : c < 11) (hB : 0 < B) (h : A * 10 = B * c) : 0 < Nat.gcd A B ∧ A / Nat.gcd A B = c / Nat.gcd c 10 ∧ B / Nat.gcd A B = 10 / Nat.gcd c 10 := by
  obtain ⟨m1, m2, m3, m4⟩ := co_mul c hc
  have co := co_fin c hc
  generalize Nat.gcd c 10 = g at *
  generalize hu : c / g = u at *
  generalize hv : 10 / g = v at *
  have h2 : A * v = B * u := by
    have : A * v * g = B * u * g := by rw [Nat.mul_assoc, Nat.mul_assoc, m2, m1, h]
    exact Nat.eq_of_mul_eq_mul_right m3 this
  obtain ⟨k, rfl⟩ : v ∣ B := by
    have : v ∣ B * u := ⟨A, by rw [← h2, Nat.mul_comm]⟩
    exact co.symm.dvd_of_dvd_mul_right this
  have h3 : A = u * k := by
    have : A * v = u * k * v := by rw [h2, Nat.mul_comm v k, Nat.mul_assoc, Nat.mul_comm v u, ← Nat.mul_assoc, Nat.mul_comm k u]
    exact Nat.eq_of_mul_eq_mul_right m4 this
  subst h3
  have hk : 0 < k := Nat.pos_of_mul_pos_left hB
  have hg : Nat.gcd (u * k) (v * k) = k := by rw [Nat.gcd_mul_right, co, Nat.one_mul]
  rw [hg]
  exact ⟨hk, Nat.mul_div_cancel _ hk, Nat.mul_div_cancel _ hk⟩
theorem st_all {o p b l0 l1 : Nat} (ho : o < 32) (hp : p ≤ 10) (hb : b < 5) (h0 : l0 ≤ 1) (h1 : l1 ≤ 1) (he : o / 2 ^ b % 2 = 0 → l0 = l1) : 0 < Nat.gcd (ab o p b l0 l1 (o + 1)) (be o p (o + 1)) ∧ ab o p b l0 l1 (o + 1) / Nat.gcd (ab o p b l0 l1 (o + 1)) (be o p (o + 1)) = cs p l0 l1 / Nat.gcd (cs p l0 l1) 10 ∧ be o p (o + 1) / Nat.gcd (ab o p b l0 l1 (o + 1)) (be o p (o + 1)) = 10 / Nat.gcd (cs p l0 l1) 10 := by
  have hc : cs p l0 l1 < 11 := by
    unfold cs
    split <;> split <;> omega
  have ht : stT o p b l0 l1 = true := by
    obtain ⟨f1, f2⟩ := st_fin o ho p (by omega) b hb
    by_cases e : l0 = l1
    · subst e
      exact f1 l0 (by omega)
    · have e1 : o / 2 ^ b % 2 = 1 := by
        rcases Nat.mod_two_eq_zero_or_one (o / 2 ^ b) with h | h
        · exact absurd (he h) e
        · exact h
      rcases (show (l0 = 0 ∧ l1 = 1) ∨ (l0 = 1 ∧ l1 = 0) by omega) with ⟨rfl, rfl⟩ | ⟨rfl, rfl⟩
      · exact (f2 e1).1
      · exact (f2 e1).2
  unfold stT at ht
  rw [Bool.and_eq_true] at ht
  obtain ⟨t1, t2⟩ := ht
  exact st_gcd hc (Nat.le_of_ble_eq_true t2) (eq_of_beq t1)
