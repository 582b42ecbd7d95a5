/-! ===== keepDays: the least cost ===== -/
/-- he stands at a, d DAYS from now, kept in no more -/
def st (φ : Nat → Nat) (d a : Nat) : Nat → Nat := un (un (un (un φ 3 ((φ 3 + d * φ 4) % φ 0)) 2 (φ 2 + d)) 6 a) 8 0
def fl (φ : Nat → Nat) (d a : Nat) : Nat := lF (st φ d a)
def fp (φ : Nat → Nat) (d a : Nat) : Nat := pF (st φ d a)
def kq (φ : Nat → Nat) (d a : Nat) : Nat := lF (un (st φ d a) 8 1)
/-- behind how many DAYS he dies, when he lives and is at a, d DAYS from now, and T tells the DAYS to come -/
def kb (φ : Nat → Nat) : Nat → Nat → Nat → Nat → Nat
  | 0, _, _, _ => 61
  | m + 1, d, a, T => if T % 2 = 1 then (if kq φ d a = 0 then d + 1 else kb φ m (d + 1) a (T / 2)) else (if fl φ d a = 0 then d + 1 else kb φ m (d + 1) (fp φ d a) (T / 2))
theorem lF_or (φ : Nat → Nat) : lF φ = 0 ∨ lF φ = φ 9 := by
  unfold lF
  split
  · exact Or.inl rfl
  · exact Or.inr rfl
theorem st_t {φ : Nat → Nat} {d : Nat} : ((φ 3 + d * φ 4) % φ 0 + φ 4) % φ 0 = (φ 3 + (d + 1) * φ 4) % φ 0 := by
  rw [Nat.mod_add_mod, Nat.add_assoc, Nat.succ_mul]
theorem st_free {φ : Nat → Nat} {d a : Nat} (h : ¬ fl φ d a = 0) : ∀ j, j < 10 → dayF (st φ d a) j = st φ (d + 1) (fp φ d a) j := by
  refine ten rfl rfl ?_ ?_ rfl rfl rfl rfl rfl ?_
  · show φ 2 + d + 1 = φ 2 + (d + 1)
    omega
  · show ((φ 3 + d * φ 4) % φ 0 + φ 4) % φ 0 = (φ 3 + (d + 1) * φ 4) % φ 0
    exact st_t
  · show lF (st φ d a) = φ 9
    rcases lF_or (st φ d a) with e | e
    · exact absurd e h
    · exact e
theorem kp_a {φ : Nat → Nat} {d a : Nat} : pF (un (st φ d a) 8 1) = a := by
  unfold pF
  rw [if_neg (fun c => by have : (1 : Nat) = 0 := c.2; omega)]
  rfl
theorem st_kept {φ : Nat → Nat} {d a : Nat} (h : ¬ kq φ d a = 0) : ∀ j, j < 10 → dayF (un (st φ d a) 8 1) j = st φ (d + 1) a j := by
  refine ten rfl rfl ?_ ?_ rfl rfl ?_ rfl rfl ?_
  · show φ 2 + d + 1 = φ 2 + (d + 1)
    omega
  · show ((φ 3 + d * φ 4) % φ 0 + φ 4) % φ 0 = (φ 3 + (d + 1) * φ 4) % φ 0
    exact st_t
  · exact kp_a
  · show lF (un (st φ d a) 8 1) = φ 9
    rcases lF_or (un (st φ d a) 8 1) with e | e
    · exact absurd e h
    · exact e
theorem VF_st {φ : Nat → Nat} {d a : Nat} (h : VF φ) (h2 : φ 2 + d ≤ 2000) (ha : a < φ 0) : VF (st φ d a) := by
  obtain ⟨⟨v0, v0'⟩, v1, v2, v3, v4, v5, v6, v7, v8, v9⟩ := h
  exact ⟨⟨v0, v0'⟩, v1, h2, Nat.mod_lt _ (show 0 < φ 0 by omega), v4, v5, ha, v7, Nat.zero_le _, v9⟩
theorem VF_st1 {φ : Nat → Nat} {d a : Nat} (h : VF φ) (h2 : φ 2 + d ≤ 2000) (ha : a < φ 0) : VF (un (st φ d a) 8 1) := by
  obtain ⟨⟨v0, v0'⟩, v1, v2, v3, v4, v5, v6, v7, v8, v9⟩ := h
  exact ⟨⟨v0, v0'⟩, v1, h2, Nat.mod_lt _ (show 0 < φ 0 by omega), v4, v5, ha, v7, show 1 ≤ 60 by decide, v9⟩
theorem fp_lt {φ : Nat → Nat} {d a : Nat} (h0 : 0 < φ 0) (ha : a < φ 0) : fp φ d a < φ 0 := by
  unfold fp pF
  split
  · exact gF_lt (φ := un (st φ d a) 3 (tF (st φ d a))) h0 ha
  · exact ha
theorem fl_le {φ : Nat → Nat} {d a : Nat} (h : φ 9 ≤ 1) : fl φ d a ≤ 1 := by
  rcases lF_or (st φ d a) with e | e
  · unfold fl
    omega
  · have : st φ d a 9 = φ 9 := rfl
    unfold fl
    omega
theorem kq_le {φ : Nat → Nat} {d a : Nat} (h : φ 9 ≤ 1) : kq φ d a ≤ 1 := by
  rcases lF_or (un (st φ d a) 8 1) with e | e
  · unfold kq
    omega
  · have : un (st φ d a) 8 1 9 = φ 9 := rfl
    unfold kq
    omega
theorem dyF_cg : ∀ m k {φ ψ : Nat → Nat}, (∀ j, j < 10 → φ j = ψ j) → dyF m k φ = dyF m k ψ
  | 0, _, _, _, _ => rfl
  | m + 1, k, φ, ψ, h => by
    show (if φ 9 = 0 then k else dyF m (k + 1) (dayF φ)) = (if ψ 9 = 0 then k else dyF m (k + 1) (dayF ψ))
    rw [h 9 (by decide), dyF_cg m (k + 1) (dayF_cg h)]
/-- the class's look behind the last of the DAYS that can be chosen -/
theorem kb_tail {φ : Nat → Nat} (h9 : ¬ φ 9 = 0) : ∀ m k c a, k + c + m ≤ 60 → kb φ m (k + c) a 0 = (if dyF (m + 1) k (st φ (k + c) a) = 61 then 61 else dyF (m + 1) k (st φ (k + c) a) + c) ∧ dyF (m + 1) k (st φ (k + c) a) ≤ 61
  | 0, k, c, a, h => by
    have e : dyF (0 + 1) k (st φ (k + c) a) = 61 := if_neg h9
    rw [e, if_pos rfl]
    exact ⟨rfl, Nat.le_refl _⟩
  | m + 1, k, c, a, h => by
    have e : dyF (m + 1 + 1) k (st φ (k + c) a) = dyF (m + 1) (k + 1) (dayF (st φ (k + c) a)) := if_neg h9
    rw [e]
    show (if 0 % 2 = 1 then _ else (if fl φ (k + c) a = 0 then k + c + 1 else kb φ m (k + c + 1) (fp φ (k + c) a) 0)) = _ ∧ _
    rw [if_neg (by decide)]
    by_cases hf : fl φ (k + c) a = 0
    · have e2 : dyF (m + 1) (k + 1) (dayF (st φ (k + c) a)) = k + 1 := if_pos (show lF (st φ (k + c) a) = 0 from hf)
      rw [if_pos hf, e2, if_neg (by omega)]
      omega
    · have ih := kb_tail h9 m (k + 1) c (fp φ (k + c) a) (by omega)
      rw [show k + 1 + c = k + c + 1 by omega] at ih
      rw [if_neg hf, dyF_cg (m + 1) (k + 1) (st_free hf)]
      exact ih
theorem kb_ge {φ : Nat → Nat} : ∀ m d a T, d + m ≤ 60 → d + 1 ≤ kb φ m d a T ∧ kb φ m d a T ≤ 61
  | 0, d, _, _, h => ⟨show d + 1 ≤ 61 by omega, Nat.le_refl _⟩
  | m + 1, d, a, T, h => by
    have i1 := kb_ge (φ := φ) m (d + 1) a (T / 2) (by omega)
    have i2 := kb_ge (φ := φ) m (d + 1) (fp φ d a) (T / 2) (by omega)
    show d + 1 ≤ (if T % 2 = 1 then (if kq φ d a = 0 then d + 1 else kb φ m (d + 1) a (T / 2)) else (if fl φ d a = 0 then d + 1 else kb φ m (d + 1) (fp φ d a) (T / 2))) ∧ (if T % 2 = 1 then (if kq φ d a = 0 then d + 1 else kb φ m (d + 1) a (T / 2)) else (if fl φ d a = 0 then d + 1 else kb φ m (d + 1) (fp φ d a) (T / 2))) ≤ 61
    split
    · split <;> omega
    · split <;> omega
/-- the class's tables -/
def vm (c l k y : Nat) : Nat := if k = 0 then c else if l = 0 then c else if y < c then y else c
def kV (φ : Nat → Nat) : Nat → Nat → Nat → Nat → Nat
  | 0, d, a, _ => (61 - kb φ (60 - d) d a 0) * 65536
  | e + 1, d, a, k => vm (if fl φ d a = 0 then (60 - d) * 65536 else kV φ e (d + 1) (fp φ d a) k) (kq φ d a) k (kV φ e (d + 1) a (k - 1) + 4096 + 2 ^ d)
def pw (d T : Nat) : Nat := 2 ^ d * T
def kC (φ : Nat → Nat) (d a T : Nat) : Nat := (61 - kb φ (60 - d) d a T) * 65536 + bs T 12 * 4096 + pw d T
theorem vm_le (c l k y : Nat) : vm c l k y ≤ c := by
  unfold vm
  split
  · exact Nat.le_refl _
  · split
    · exact Nat.le_refl _
    · split <;> omega
theorem kV_le {φ : Nat → Nat} : ∀ e d a k, kV φ e d a k ≤ 61 * 65536
  | 0, d, a, k => by
    show (61 - kb φ (60 - d) d a 0) * 65536 ≤ 61 * 65536
    exact Nat.mul_le_mul_right _ (by omega)
  | e + 1, d, a, k => by
    refine Nat.le_trans (vm_le _ _ _ _) ?_
    split
    · exact Nat.mul_le_mul_right _ (by omega)
    · exact kV_le e (d + 1) (fp φ d a) k
theorem bs_s (s : Nat) : ∀ k, bs s (k + 1) = s % 2 + bs (s / 2) k
  | 0 => by
    show 0 + s / 2 ^ 0 % 2 = s % 2 + 0
    rw [Nat.pow_zero, Nat.div_one]
    omega
  | k + 1 => by
    show bs s (k + 1) + s / 2 ^ (k + 1) % 2 = s % 2 + (bs (s / 2) k + s / 2 / 2 ^ k % 2)
    rw [bs_s s k, Nat.div_div_eq_div_mul, Nat.pow_succ, Nat.mul_comm (2 ^ k) 2]
    omega
theorem bs_h {T : Nat} (h : T < 4096) : bs T 12 = T % 2 + bs (T / 2) 12 := by
  have e : bs (T / 2) 12 = bs (T / 2) 11 + T / 2 / 2 ^ 11 % 2 := rfl
  rw [bs_s T 11, e, show T / 2 / 2 ^ 11 = 0 from Nat.div_eq_of_lt (by omega)]
  rfl
theorem kb_1 {φ : Nat → Nat} {d a T : Nat} (hd : d < 60) (h : T % 2 = 1) : kb φ (60 - d) d a T = if kq φ d a = 0 then d + 1 else kb φ (60 - (d + 1)) (d + 1) a (T / 2) := by
  rw [show 60 - d = 60 - (d + 1) + 1 by omega]
  exact if_pos h
theorem kb_0 {φ : Nat → Nat} {d a T : Nat} (hd : d < 60) (h : ¬ T % 2 = 1) : kb φ (60 - d) d a T = if fl φ d a = 0 then d + 1 else kb φ (60 - (d + 1)) (d + 1) (fp φ d a) (T / 2) := by
  rw [show 60 - d = 60 - (d + 1) + 1 by omega]
  exact if_neg h
theorem pw_1 {d T : Nat} (h : T % 2 = 1) : pw d T = pw (d + 1) (T / 2) + 2 ^ d := by
  show 2 ^ d * T = 2 ^ (d + 1) * (T / 2) + 2 ^ d
  have : T = 2 * (T / 2) + 1 := by omega
  rw [Nat.pow_succ, Nat.mul_assoc, ← Nat.mul_succ]
  exact congrArg _ this
theorem pw_0 {d T : Nat} (h : ¬ T % 2 = 1) : pw d T = pw (d + 1) (T / 2) := by
  show 2 ^ d * T = 2 ^ (d + 1) * (T / 2)
  have : T = 2 * (T / 2) := by omega
  rw [Nat.pow_succ, Nat.mul_assoc]
  exact congrArg _ this
theorem kV_lb {φ : Nat → Nat} : ∀ e d a k T, d + e ≤ 12 → T < 2 ^ e → bs T 12 ≤ k → kV φ e d a k ≤ kC φ d a T
  | 0, d, a, k, T, hd, hT, hb => by
    obtain rfl : T = 0 := by
      rw [Nat.pow_zero] at hT
      omega
    show (61 - kb φ (60 - d) d a 0) * 65536 ≤ (61 - kb φ (60 - d) d a 0) * 65536 + _ + _
    omega
  | e + 1, d, a, k, T, hd, hT, hb => by
    have p12 : 2 ^ (e + 1) ≤ 2 ^ 12 := Nat.pow_le_pow_right (by decide) (by omega)
    have hT2 : T / 2 < 2 ^ e := by
      rw [Nat.pow_succ] at hT
      omega
    have hh := bs_h (T := T) (by omega)
    have g0 := (kb_ge (φ := φ) (60 - (d + 1)) (d + 1) (fp φ d a) 0 (by omega)).1
    have L0 := kV_lb (φ := φ) e (d + 1) (fp φ d a) k 0 (by omega) (Nat.two_pow_pos e) (Nat.zero_le _)
    have L1 := kV_lb (φ := φ) e (d + 1) (fp φ d a) k (T / 2) (by omega) hT2 (by omega)
    have L2 := fun h => kV_lb (φ := φ) e (d + 1) a (k - 1) (T / 2) (by omega) hT2 h
    show vm (if fl φ d a = 0 then (60 - d) * 65536 else kV φ e (d + 1) (fp φ d a) k) (kq φ d a) k (kV φ e (d + 1) a (k - 1) + 4096 + 2 ^ d) ≤ _
    unfold kC at *
    rw [show bs 0 12 = 0 from rfl, show pw (d + 1) 0 = 0 from rfl] at L0
    have hd12 : d < 12 := by omega
    clear p12 hT hT2 hd
    generalize kV φ e (d + 1) (fp φ d a) k = V1 at *
    generalize kV φ e (d + 1) a (k - 1) = V2 at *
    generalize kb φ (60 - (d + 1)) (d + 1) (fp φ d a) 0 = b0 at *
    by_cases h : T % 2 = 1
    · rw [kb_1 (by omega) h, pw_1 h, hh]
      have L2' := L2 (by omega)
      generalize kb φ (60 - (d + 1)) (d + 1) a (T / 2) = b2 at *
      generalize kb φ (60 - (d + 1)) (d + 1) (fp φ d a) (T / 2) = b1 at *
      generalize bs (T / 2) 12 = B at *
      generalize pw (d + 1) (T / 2) = P at *
      generalize 2 ^ d = D at *
      by_cases hk : kq φ d a = 0
      · rw [if_pos hk]
        refine Nat.le_trans (vm_le _ _ _ _) ?_
        by_cases hf : fl φ d a = 0
        · rw [if_pos hf]
          omega
        · rw [if_neg hf]
          rw [Nat.zero_mul, Nat.add_zero] at L0
          have hb0 : 61 - b0 ≤ 61 - (d + 1) := by omega
          exact Nat.le_trans L0 (Nat.le_trans (Nat.mul_le_mul_right 65536 hb0) (Nat.le_trans (Nat.le_add_right _ _) (Nat.le_add_right _ _)))
      · rw [if_neg hk]
        generalize (if fl φ d a = 0 then (60 - d) * 65536 else V1) = c
        have : vm c (kq φ d a) k (V2 + 4096 + D) ≤ V2 + 4096 + D := by
          unfold vm
          rw [if_neg (by omega), if_neg hk]
          by_cases q : V2 + 4096 + D < c
          · rw [if_pos q]
            exact Nat.le_refl _
          · rw [if_neg q]
            omega
        omega
    · rw [kb_0 (by omega) h, pw_0 h, hh]
      generalize kb φ (60 - (d + 1)) (d + 1) (fp φ d a) (T / 2) = b1 at *
      generalize bs (T / 2) 12 = B at *
      generalize pw (d + 1) (T / 2) = P at *
      refine Nat.le_trans (vm_le _ _ _ _) ?_
      by_cases hf : fl φ d a = 0
      · rw [if_pos hf, if_pos hf]
        omega
      · rw [if_neg hf, if_neg hf]
        exact Nat.le_trans L1 (Nat.add_le_add_right (Nat.add_le_add_left (Nat.mul_le_mul_right 4096 (Nat.le_add_left _ _)) _) _)
theorem kV_ex {φ : Nat → Nat} : ∀ e d a k, d + e ≤ 12 → ∃ T, T < 2 ^ e ∧ bs T 12 ≤ k ∧ kV φ e d a k = kC φ d a T
  | 0, d, a, k, hd => ⟨0, by decide, Nat.zero_le _, by
    show (61 - kb φ (60 - d) d a 0) * 65536 = (61 - kb φ (60 - d) d a 0) * 65536 + 0 * 4096 + 0
    omega⟩
  | e + 1, d, a, k, hd => by
    have p12 : 2 ^ (e + 1) ≤ 2 ^ 12 := Nat.pow_le_pow_right (by decide) (by omega)
    have pe : 2 ^ (e + 1) = 2 * 2 ^ e := by rw [Nat.pow_succ, Nat.mul_comm]
    have A : ∃ T, T < 2 ^ (e + 1) ∧ bs T 12 ≤ k ∧ (if fl φ d a = 0 then (60 - d) * 65536 else kV φ e (d + 1) (fp φ d a) k) = kC φ d a T := by
      by_cases hf : fl φ d a = 0
      · refine ⟨0, Nat.two_pow_pos _, Nat.zero_le _, ?_⟩
        unfold kC
        rw [if_pos hf, kb_0 (by omega) (by decide), if_pos hf, show bs 0 12 = 0 from rfl, show pw d 0 = 0 from rfl]
        omega
      · obtain ⟨T, h1, h2, h3⟩ := kV_ex (φ := φ) e (d + 1) (fp φ d a) k (by omega)
        have hm : ¬ (2 * T) % 2 = 1 := by omega
        have hq : 2 * T / 2 = T := by omega
        have hh := bs_h (T := 2 * T) (by omega)
        rw [hq] at hh
        refine ⟨2 * T, by omega, by omega, ?_⟩
        rw [if_neg hf, h3]
        unfold kC
        rw [kb_0 (by omega) hm, if_neg hf, pw_0 hm, hh, hq]
        omega
    show ∃ T, T < 2 ^ (e + 1) ∧ bs T 12 ≤ k ∧ vm (if fl φ d a = 0 then (60 - d) * 65536 else kV φ e (d + 1) (fp φ d a) k) (kq φ d a) k (kV φ e (d + 1) a (k - 1) + 4096 + 2 ^ d) = kC φ d a T
    unfold vm
    by_cases hk0 : k = 0
    · rw [if_pos hk0]
      exact A
    · rw [if_neg hk0]
      by_cases hk : kq φ d a = 0
      · rw [if_pos hk]
        exact A
      · rw [if_neg hk]
        by_cases hy : kV φ e (d + 1) a (k - 1) + 4096 + 2 ^ d < (if fl φ d a = 0 then (60 - d) * 65536 else kV φ e (d + 1) (fp φ d a) k)
        · rw [if_pos hy]
          obtain ⟨T, h1, h2, h3⟩ := kV_ex (φ := φ) e (d + 1) a (k - 1) (by omega)
          have hm : (2 * T + 1) % 2 = 1 := by omega
          have hq : (2 * T + 1) / 2 = T := by omega
          have hh := bs_h (T := 2 * T + 1) (by omega)
          rw [hq] at hh
          refine ⟨2 * T + 1, by omega, by omega, ?_⟩
          rw [h3]
          unfold kC
          rw [kb_1 (by omega) hm, if_neg hk, pw_1 hm, hh, hq, hm]
          omega
        · rw [if_neg hy]
          exact A
