/-! ===== keepDays: the reference's search ===== -/
/-- c is the best of the sets below s -/
def kI (φ : Nat → Nat) (a M s c : Nat) : Prop := c < s ∧ bs c 12 ≤ M ∧ ∀ T, T < s → bs T 12 ≤ M → kC φ 0 a c ≤ kC φ 0 a T
theorem kC_0 {φ : Nat → Nat} {a T : Nat} : kC φ 0 a T = (61 - kb φ 60 0 a T) * 65536 + bs T 12 * 4096 + T := by
  unfold kC pw
  rw [Nat.pow_zero, Nat.one_mul]
theorem s_keepL {d : Nat} {μ : Mm} {K : Int32 → Mm → Prop} {n M q : Nat} {w : Int32} {z : Nat → Nat} (lm : LM (μ 283) z) (hz : VL z) (hq : q < z 3) (h4 : z 4 ≤ 999) (hl : z (21 + 6 * q) = 0) (hn : n ≤ 12) (hM : M ≤ 12)
    (k : ∀ c f, kI (pj z q) (z (18 + 6 * q)) M (2 ^ n) c → (¬ w = 1 → K (orN (kb (pj z q) 60 0 (z (18 + 6 * q)) c)) (upc μ 285 f)) ∧ (w = 1 → K (nI c) (upc μ 285 f))) :
    ∀ r s f (B L : Int32), s + r = 2 ^ n → ((s = 0 ∧ B = -1000000) ∨ (∃ c, kI (pj z q) (z (18 + 6 * q)) M s c ∧ B = nI c ∧ L = nI (kb (pj z q) 60 0 (z (18 + 6 * q)) c))) → jX8_keepDays (d + 5) K 75 [some (.ref 279), some (.int (nI q)), some (.int (nI n)), some (.int (nI M)), some (.int w), some (.int B), some (.int L), some (.int (nI s)), none, none] [] (upc μ 285 f) := by
  obtain ⟨v0, v1, v2, v3, v4, v5, v6, v7, v8⟩ := id hz
  obtain ⟨w1, w2, w3, w4, w5, w6⟩ := v8 q hq
  have t1 := (v7 _ w2).1
  have p12 : 2 ^ n ≤ 2 ^ 12 := Nat.pow_le_pow_right (by decide) hn
  have pP : 0 < 2 ^ n := Nat.two_pow_pos n
  have sh : (1 : Int32) <<< (nI n &&& 31) = nI (2 ^ n) := sh_1 (by omega)
  have has : as8 (pj z q) (st (pj z q) 0 (z (18 + 6 * q))) := by
    have := ten (P := fun j => j ≠ 8 → pj z q j = st (pj z q) 0 (z (18 + 6 * q)) j) (fun _ => rfl) (fun _ => rfl) (fun _ => rfl) (fun _ => ?_) (fun _ => rfl) (fun _ => rfl) (fun _ => rfl) (fun _ => rfl) (fun h => absurd rfl h) (fun _ => rfl)
    · exact this
    · show z (6 + 2 * z (17 + 6 * q)) = (z (6 + 2 * z (17 + 6 * q)) + 0 * pj z q 4) % z 0
      rw [Nat.zero_mul, Nat.add_zero, Nat.mod_eq_of_lt t1]
  have h9 : pj z q 9 = 1 := if_pos hl
  generalize ha0 : z (18 + 6 * q) = a0 at *
  intro r
  induction r with
  | zero =>
    intro s f B L hs hi
    obtain rfl : s = 2 ^ n := by omega
    obtain ⟨c, hc, rfl, rfl⟩ : ∃ c, kI (pj z q) a0 M (2 ^ n) c ∧ B = nI c ∧ L = nI (kb (pj z q) 60 0 a0 c) := by
      rcases hi with ⟨h, _⟩ | h
      · omega
      · exact h
    have kk := k c f hc
    have bl := (kb_ge (φ := pj z q) 60 0 a0 c (by decide)).2
    refine k_X8_keepDays_75 ?_
    rw [sh, show (nI (kb (pj z q) 60 0 a0 c) ≤ 60) = (kb (pj z q) 60 0 a0 c ≤ 60) from propext (nI_leI (b := 60) (by omega) (by omega))]
    refine br_t (nI_le (Nat.le_refl _) (by omega)) (nr_c (fun c1 => ?_) kk.2)
    have k1 := kk.1 c1
    unfold orN at k1
    refine br_c (fun c2 => ?_) (fun c2 => ?_)
    · rw [if_neg (by omega)] at k1
      exact k1
    · rw [if_pos (by omega)] at k1
      exact k1
  | succ r ih =>
    intro s f B L hs hi
    have s12 : s < 4096 := by omega
    have bl := kb_ge (φ := pj z q) 60 0 a0 s (by decide)
    have bb := bs_le s 12
    -- it is better, or not
    have yes : (∀ T, T < s + 1 → bs T 12 ≤ M → kC (pj z q) 0 a0 s ≤ kC (pj z q) 0 a0 T) → bs s 12 ≤ M → ∀ f, jX8_keepDays (d + 5) K 160 [some (.ref 279), some (.int (nI q)), some (.int (nI n)), some (.int (nI M)), some (.int w), some (.int B), some (.int L), some (.int (nI s)), some (.int (nI (kb (pj z q) 60 0 a0 s))), none] [.int 1] (upc μ 285 f) := by
      intro h1 h2 f
      refine k_X8_keepDays_160 (br_f (by decide) (br_f (by decide) ?_))
      rw [n_suc]
      exact ih (s + 1) f _ _ (by omega) (Or.inr ⟨s, ⟨by omega, h2, h1⟩, rfl, rfl⟩)
    have no : (∃ c, kI (pj z q) a0 M s c ∧ B = nI c ∧ L = nI (kb (pj z q) 60 0 a0 c) ∧ kC (pj z q) 0 a0 c ≤ kC (pj z q) 0 a0 s) → ∀ f, jX8_keepDays (d + 5) K 160 [some (.ref 279), some (.int (nI q)), some (.int (nI n)), some (.int (nI M)), some (.int w), some (.int B), some (.int L), some (.int (nI s)), some (.int (nI (kb (pj z q) 60 0 a0 s))), none] [.int 0] (upc μ 285 f) := by
      rintro ⟨c, hc, rfl, rfl, hle⟩ f
      refine k_X8_keepDays_160 (br_t rfl (br_t rfl ?_))
      rw [n_suc]
      refine ih (s + 1) f _ _ (by omega) (Or.inr ⟨c, ⟨by have := hc.1; omega, hc.2.1, fun T hT hb => ?_⟩, rfl, rfl⟩)
      by_cases e : T = s
      · rw [e]
        exact hle
      · exact hc.2.2 T (by omega) hb
    have body : ∀ (f : Nat → Int32) (X : Int32), X = nI (kb (pj z q) 60 0 a0 s) → bs s 12 ≤ M → ((B = -1000000 → jX8_keepDays (d + 5) K 160 [some (.ref 279), some (.int (nI q)), some (.int (nI n)), some (.int (nI M)), some (.int w), some (.int B), some (.int L), some (.int (nI s)), some (.int X), none] [.int 1] (upc μ 285 f)) ∧ (¬ B = -1000000 → ((L < X → jX8_keepDays (d + 5) K 160 [some (.ref 279), some (.int (nI q)), some (.int (nI n)), some (.int (nI M)), some (.int w), some (.int B), some (.int L), some (.int (nI s)), some (.int X), none] [.int 1] (upc μ 285 f)) ∧ (¬ L < X → ((¬ X = L → jX8_keepDays (d + 5) K 160 [some (.ref 279), some (.int (nI q)), some (.int (nI n)), some (.int (nI M)), some (.int w), some (.int B), some (.int L), some (.int (nI s)), some (.int X), none] [.int 0] (upc μ 285 f)) ∧ (X = L → (cI (cM (d + 5)) 140 [.int (nI s)] (upc μ 285 f) (fun x144 μ144 => (cI (cM (d + 5)) 140 [.int B] μ144 (fun x149 μ149 => ((x149 ≤ x144 → jX8_keepDays (d + 5) K 160 [some (.ref 279), some (.int (nI q)), some (.int (nI n)), some (.int (nI M)), some (.int w), some (.int B), some (.int L), some (.int (nI s)), some (.int X), none] [.int 0] μ149) ∧ (¬ x149 ≤ x144 → jX8_keepDays (d + 5) K 160 [some (.ref 279), some (.int (nI q)), some (.int (nI n)), some (.int (nI M)), some (.int w), some (.int B), some (.int L), some (.int (nI s)), some (.int X), none] [.int 1] μ149)))))))))))) := by
      intro f X hX hb
      subst hX
      rcases hi with ⟨rfl, rfl⟩ | ⟨c, hc, hB, hL⟩
      · refine br_t rfl (yes (fun T hT _ => ?_) hb f)
        obtain rfl : T = 0 := by omega
        exact Nat.le_refl _
      · have cl := hc.1
        have bc := bs_le c 12
        have kc := kb_ge (φ := pj z q) 60 0 a0 c (by decide)
        have tr : kC (pj z q) 0 a0 s ≤ kC (pj z q) 0 a0 c → ∀ T, T < s + 1 → bs T 12 ≤ M → kC (pj z q) 0 a0 s ≤ kC (pj z q) 0 a0 T := by
          intro h T hT hbT
          by_cases e : T = s
          · rw [e]
            exact Nat.le_refl _
          · exact Nat.le_trans h (hc.2.2 T (by omega) hbT)
        have nB : ¬ B = -1000000 := by
          rw [hB]
          exact nI_nn (by omega)
        have e1 : (L < nI (kb (pj z q) 60 0 a0 s)) = (kb (pj z q) 60 0 a0 c < kb (pj z q) 60 0 a0 s) := by
          rw [hL]
          exact propext (nI_ltI (by omega) (by omega))
        have e2 : (nI (kb (pj z q) 60 0 a0 s) = L) = (kb (pj z q) 60 0 a0 s = kb (pj z q) 60 0 a0 c) := by
          rw [hL]
          exact propext (nI_eq (by omega) (by omega))
        rw [e1, e2]
        have yes' := fun h => yes (tr h) hb
        have no' := fun h => no ⟨c, hc, hB, hL, h⟩
        rw [kC_0, kC_0] at yes' no'
        refine br_f nB (br_c (fun h1 => yes' ?_ f) (fun h1 => nr_c (fun h2 => no' ?_ f) (fun h2 => s_bits (by omega) ?_)))
        · omega
        · omega
        · rw [hB]
          refine s_bits (by omega) ?_
          rw [← hB, nI_leI (by omega) (by omega)]
          exact br_c (fun h3 => no' (by omega) f) (fun h3 => yes' (by omega) f)
    refine k_X8_keepDays_75 ?_
    rw [sh]
    refine br_f (by rw [nI_leI (by omega) (by omega)]; omega) (s_bits (by omega) ?_)
    rw [nI_ltI (by omega) (by omega)]
    refine br_c (fun hb => ?_) (fun hb => ?_)
    · rw [n_suc]
      refine ih (s + 1) f B L (by omega) ?_
      rcases hi with ⟨rfl, _⟩ | ⟨c, hc, hB, hL⟩
      · rw [show bs 0 12 = 0 from rfl] at hb
        omega
      · refine Or.inr ⟨c, ⟨by have := hc.1; omega, hc.2.1, fun T hT hbT => hc.2.2 T ?_ hbT⟩, hB, hL⟩
        by_cases e : T = s
        · rw [e] at hbT
          omega
        · omega
    · refine s_layThen (z := z) lm (fun f1 hf1 => ?_)
      rw [upc_upc]
      refine e_X8_diesKept (s_diesKept (d := d) (φ := pj z q) s12 h9 60 0 a0 z f1 (by decide) hf1 hz (by omega) hq hl has (fun f2 => ?_))
      rw [Nat.pow_zero, Nat.div_one]
      rcases orN_n bl.2 with ⟨e, e2⟩ | ⟨e, e2, _⟩
      · rw [e2]
        refine nr_t rfl (body f2 61 ?_ (by omega))
        rw [e]
        rfl
      · rw [e2]
        rw [e2] at e
        exact nr_f e (body f2 _ rfl (by omega))
theorem s_keepM {d : Nat} {μ : Mm} {K : Int32 → Mm → Prop} {n M q : Nat} {w : Int32} {z : Nat → Nat} (lm : LM (μ 283) z) (hz : VL z) (hq : q < z 3) (h4 : z 4 ≤ 999) (hl : z (21 + 6 * q) = 0) (hn : n ≤ 12) (hM : M ≤ 12)
    (k0 : ¬ w = 1 → ∀ f, K (orN (61 - kV (pj z q) n 0 (z (18 + 6 * q)) M / 65536)) (upc μ 285 f)) (k1 : w = 1 → ∀ f, K (nI (kV (pj z q) n 0 (z (18 + 6 * q)) M % 4096)) (upc μ 285 f)) :
    jX8_keepDays (d + 5) K 75 [some (.ref 279), some (.int (nI q)), some (.int (nI n)), some (.int (nI M)), some (.int w), some (.int (-1000000)), some (.int 0), some (.int 0), none, none] [] μ := by
  have := s_keepL (d := d) (μ := μ) (K := K) (w := w) lm hz hq h4 hl hn hM (fun c f hc => ?_) (2 ^ n) 0 (μ 285) (-1000000) 0 (by omega) (Or.inl ⟨rfl, rfl⟩)
  · rw [upc_id] at this
    exact this
  · have p12 : 2 ^ n ≤ 2 ^ 12 := Nat.pow_le_pow_right (by decide) hn
    have l1 := kV_lb (φ := pj z q) n 0 (z (18 + 6 * q)) M c (by omega) hc.1 hc.2.1
    obtain ⟨T, t1, t2, t3⟩ := kV_ex (φ := pj z q) n 0 (z (18 + 6 * q)) M (by omega)
    have l2 := hc.2.2 T t1 t2
    have e : kV (pj z q) n 0 (z (18 + 6 * q)) M = kC (pj z q) 0 (z (18 + 6 * q)) c := by omega
    rw [e, kC_0] at k0 k1
    have bl := kb_ge (φ := pj z q) 60 0 (z (18 + 6 * q)) c (by decide)
    have bc := bs_le c 12
    have cl := hc.1
    generalize kb (pj z q) 60 0 (z (18 + 6 * q)) c = b at *
    generalize bs c 12 = B at *
    have e1 : 61 - ((61 - b) * 65536 + B * 4096 + c) / 65536 = b := by omega
    have e2 : ((61 - b) * 65536 + B * 4096 + c) % 4096 = c := by omega
    rw [e1] at k0
    rw [e2] at k1
    exact nr_c (fun h => k0 h f) (fun h => k1 h f)
