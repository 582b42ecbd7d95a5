/-! ===== a Land becomes another; ACTS are remembered ===== -/
theorem cpy_0 {f g : Nat → Int32} {n t : Nat} (h : t < n) : va_cpy f g 0 0 n t = f t := by
  show (if 0 ≤ t ∧ t < 0 + n then f (0 + (t - 0)) else g t) = f t
  rw [if_pos (by omega)]
  congr 1
  omega
def bk (μ : Mm) (p q : Nat) : Mm := (cpc (cpc (cpc (cpc (cpc (cpc (cpc (cpc (up (up (up (up (up (up (up μ p 0 (μ q 0)) p 1 (μ q 1)) p 2 (μ q 2)) p 3 (μ q 3)) p 4 (μ q 4)) p 5 (μ q 5)) p 6 (μ q 6)) (q + 1) 0 (p + 1) 0 5) (q + 2) 0 (p + 2) 0 5) (q + 3) 0 (p + 3) 0 7) (q + 4) 0 (p + 4) 0 7) (q + 5) 0 (p + 5) 0 7) (q + 6) 0 (p + 6) 0 7) (q + 7) 0 (p + 7) 0 7) (q + 8) 0 (p + 8) 0 7)
theorem bk_fr {μ : Mm} {p q a : Nat} (ha : a < p ∨ p + 8 < a) : bk μ p q a = μ a := by
  unfold bk
  simp (disch := omega) only [cpc_eq, up_eq, upc_n]
theorem bk_LR {μ : Mm} {p q : Nat} {z : Nat → Nat} (hd : p + 8 < q ∨ q + 8 < p) (h : LR μ q z) (h2 : z 2 ≤ 5) (h3 : z 3 ≤ 7) : LR (bk μ p q) p z := by
  obtain ⟨r0, r1, r2, r3, r4, r5, r6, r7, r8⟩ := h
  have hp : bk μ p q p = upd (upd (upd (upd (upd (upd (upd (μ p) 0 (μ q 0)) 1 (μ q 1)) 2 (μ q 2)) 3 (μ q 3)) 4 (μ q 4)) 5 (μ q 5)) 6 (μ q 6) := by
    clear r7 r8
    unfold bk
    simp (disch := omega) only [cpc_eq, up_eq, upc_s, upc_n]
  have e1 : ∃ g, bk μ p q (p + 1) = va_cpy (μ (q + 1)) g 0 0 5 := by
    clear r7 r8
    unfold bk
    simp (disch := omega) only [cpc_eq, up_eq, upc_s, upc_n]
    exact ⟨_, rfl⟩
  obtain ⟨g1, e1⟩ := e1
  have e2 : ∃ g, bk μ p q (p + 2) = va_cpy (μ (q + 2)) g 0 0 5 := by
    clear r7 r8
    unfold bk
    simp (disch := omega) only [cpc_eq, up_eq, upc_s, upc_n]
    exact ⟨_, rfl⟩
  obtain ⟨g2, e2⟩ := e2
  have e3 : ∃ g, bk μ p q (p + 3) = va_cpy (μ (q + 3)) g 0 0 7 := by
    clear r7 r8
    unfold bk
    simp (disch := omega) only [cpc_eq, up_eq, upc_s, upc_n]
    exact ⟨_, rfl⟩
  obtain ⟨g3, e3⟩ := e3
  have e4 : ∃ g, bk μ p q (p + 4) = va_cpy (μ (q + 4)) g 0 0 7 := by
    clear r7 r8
    unfold bk
    simp (disch := omega) only [cpc_eq, up_eq, upc_s, upc_n]
    exact ⟨_, rfl⟩
  obtain ⟨g4, e4⟩ := e4
  have e5 : ∃ g, bk μ p q (p + 5) = va_cpy (μ (q + 5)) g 0 0 7 := by
    clear r7 r8
    unfold bk
    simp (disch := omega) only [cpc_eq, up_eq, upc_s, upc_n]
    exact ⟨_, rfl⟩
  obtain ⟨g5, e5⟩ := e5
  have e6 : ∃ g, bk μ p q (p + 6) = va_cpy (μ (q + 6)) g 0 0 7 := by
    clear r7 r8
    unfold bk
    simp (disch := omega) only [cpc_eq, up_eq, upc_s, upc_n]
    exact ⟨_, rfl⟩
  obtain ⟨g6, e6⟩ := e6
  have e7 : ∃ g, bk μ p q (p + 7) = va_cpy (μ (q + 7)) g 0 0 7 := by
    clear r7 r8
    unfold bk
    simp (disch := omega) only [cpc_eq, up_eq, upc_s, upc_n]
    exact ⟨_, rfl⟩
  obtain ⟨g7, e7⟩ := e7
  have e8 : ∃ g, bk μ p q (p + 8) = va_cpy (μ (q + 8)) g 0 0 7 := by
    clear r7 r8
    unfold bk
    simp (disch := omega) only [cpc_eq, up_eq, upc_s, upc_n]
    exact ⟨_, rfl⟩
  obtain ⟨g8, e8⟩ := e8
  unfold LR
  rw [hp, e1, e2, e3, e4, e5, e6, e7, e8]
  refine ⟨r0, r1, r2, r3, r4, r5, r6, fun t ht => ?_, fun t ht => ?_⟩
  · rw [cpy_0 (by omega), cpy_0 (by omega)]
    exact r7 t ht
  · rw [cpy_0 (by omega), cpy_0 (by omega), cpy_0 (by omega), cpy_0 (by omega), cpy_0 (by omega), cpy_0 (by omega)]
    exact r8 t ht
theorem tg_l {p j : Nat} (h : lo p = 0) : tg p j = p + j - 6 := by
  unfold tg
  rw [h]
  rfl
theorem s_become {d : Nat} {μ : Mm} {K : Mm → Prop} {p q : Nat} {z : Nat → Nat} (hp : p < 291) (lp : lo p = 0) (hq : q < 291) (lq : lo q = 0) (hd : p + 8 < q ∨ q + 8 < p) (h : LR μ q z) (h2 : z 2 ≤ 5) (h3 : z 3 ≤ 7) (k : ∀ μ', LR μ' p z → (∀ a, a < p ∨ p + 8 < a → μ' a = μ a) → K μ') : cV (cM (d + 1)) 27 [.ref p, .ref q] μ K := by
  obtain ⟨-, obp, lap, -, -⟩ := land_lay p hp lp
  obtain ⟨-, obq, laq, -, -⟩ := land_lay q hq lq
  have tp : ∀ i, i < 8 → tg p (7 + i) = p + 1 + i := fun i hi => by rw [tg_l lp]; omega
  have tq : ∀ i, i < 8 → tg q (7 + i) = q + 1 + i := fun i hi => by rw [tg_l lq]; omega
  have p7 : tg p 7 = p + 1 := tp 0 (by decide)
  have p8 : tg p 8 = p + 2 := tp 1 (by decide)
  have p9 : tg p 9 = p + 3 := tp 2 (by decide)
  have p10 : tg p 10 = p + 4 := tp 3 (by decide)
  have p11 : tg p 11 = p + 5 := tp 4 (by decide)
  have p12 : tg p 12 = p + 6 := tp 5 (by decide)
  have p13 : tg p 13 = p + 7 := tp 6 (by decide)
  have p14 : tg p 14 = p + 8 := tp 7 (by decide)
  have q7 : tg q 7 = q + 1 := tq 0 (by decide)
  have q8 : tg q 8 = q + 2 := tq 1 (by decide)
  have q9 : tg q 9 = q + 3 := tq 2 (by decide)
  have q10 : tg q 10 = q + 4 := tq 3 (by decide)
  have q11 : tg q 11 = q + 5 := tq 4 (by decide)
  have q12 : tg q 12 = q + 6 := tq 5 (by decide)
  have q13 : tg q 13 = q + 7 := tq 6 (by decide)
  have q14 : tg q 14 = q + 8 := tq 7 (by decide)
  have kp1 : ak (p + 1) = 1 := (lap 0 (by decide)).1
  have kp2 : ak (p + 2) = 1 := (lap 1 (by decide)).1
  have kp3 : ak (p + 3) = 1 := (lap 2 (by decide)).1
  have kp4 : ak (p + 4) = 1 := (lap 3 (by decide)).1
  have kp5 : ak (p + 5) = 1 := (lap 4 (by decide)).1
  have kp6 : ak (p + 6) = 1 := (lap 5 (by decide)).1
  have kp7 : ak (p + 7) = 1 := (lap 6 (by decide)).1
  have kp8 : ak (p + 8) = 1 := (lap 7 (by decide)).1
  have kq1 : ak (q + 1) = 1 := (laq 0 (by decide)).1
  have kq2 : ak (q + 2) = 1 := (laq 1 (by decide)).1
  have kq3 : ak (q + 3) = 1 := (laq 2 (by decide)).1
  have kq4 : ak (q + 4) = 1 := (laq 3 (by decide)).1
  have kq5 : ak (q + 5) = 1 := (laq 4 (by decide)).1
  have kq6 : ak (q + 6) = 1 := (laq 5 (by decide)).1
  have kq7 : ak (q + 7) = 1 := (laq 6 (by decide)).1
  have kq8 : ak (q + 8) = 1 := (laq 7 (by decide)).1
  have ap1 : al (p + 1) = 5 := (lap 0 (by decide)).2.1
  have ap2 : al (p + 2) = 5 := (lap 1 (by decide)).2.1
  have ap3 : al (p + 3) = 7 := (lap 2 (by decide)).2.1
  have ap4 : al (p + 4) = 7 := (lap 3 (by decide)).2.1
  have ap5 : al (p + 5) = 7 := (lap 4 (by decide)).2.1
  have ap6 : al (p + 6) = 7 := (lap 5 (by decide)).2.1
  have ap7 : al (p + 7) = 7 := (lap 6 (by decide)).2.1
  have ap8 : al (p + 8) = 7 := (lap 7 (by decide)).2.1
  have aq1 : al (q + 1) = 5 := (laq 0 (by decide)).2.1
  have aq2 : al (q + 2) = 5 := (laq 1 (by decide)).2.1
  have aq3 : al (q + 3) = 7 := (laq 2 (by decide)).2.1
  have aq4 : al (q + 4) = 7 := (laq 3 (by decide)).2.1
  have aq5 : al (q + 5) = 7 := (laq 4 (by decide)).2.1
  have aq6 : al (q + 6) = 7 := (laq 5 (by decide)).2.1
  have aq7 : al (q + 7) = 7 := (laq 6 (by decide)).2.1
  have aq8 : al (q + 8) = 7 := (laq 7 (by decide)).2.1
  have b4 : Nat.beq 4 4 = true := rfl
  have b1 : Nat.beq 1 1 = true := rfl
  have b0 : Nat.ble 0 4 = true := rfl
  have c0 : (0 : Int32).toNatClampNeg = 0 := rfl
  have c5 : (5 : Int32).toNatClampNeg = 5 := rfl
  have c7 : (7 : Int32).toNatClampNeg = 7 := rfl
  have n0 : ¬ (0 : Int32) < 0 := by decide
  have n5 : ¬ (5 : Int32) < 0 := by decide
  have n7 : ¬ (7 : Int32) < 0 := by decide
  have le5 : (0 + 5 ≤ 5) = True := by simp
  have le7 : (0 + 7 ≤ 7) = True := by simp
  have u : ∀ (ν : Mm) (j : Nat) (v : Int32), (up ν p j v) q = ν q := fun ν j v => by rw [up_eq]; exact upc_n _ _ (by omega)
  refine e_X4_become ?_
  simp only [obp, obq, p7, p8, p9, p10, p11, p12, p13, p14, q7, q8, q9, q10, q11, q12, q13, q14, kp1, kp2, kp3, kp4, kp5, kp6, kp7, kp8, kq1, kq2, kq3, kq4, kq5, kq6, kq7, kq8, ap1, ap2, ap3, ap4, ap5, ap6, ap7, ap8, aq1, aq2, aq3, aq4, aq5, aq6, aq7, aq8, b4, b1, b0, c0, c5, c7, n0, n5, n7, le5, le7, Bool.and_self, cond_true, not_false_eq_true, true_and, u]
  exact k (bk μ p q) (bk_LR hd h h2 h3) (fun a ha => bk_fr ha)
