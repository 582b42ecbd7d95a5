/-! ===== namesakes ===== -/
def nk (z : Nat → Nat) (a b : Nat) : Prop := z (21 + 6 * a) = 0 ∧ z (21 + 6 * b) = 0 ∧ z (17 + 6 * a) = z (17 + 6 * b)
def nB (z : Nat → Nat) (a b : Nat) : Nat := if z (21 + 6 * a) = 0 ∧ z (21 + 6 * b) = 0 ∧ z (17 + 6 * a) = z (17 + 6 * b) then 1 else 0
theorem nB_1 {z : Nat → Nat} {a b : Nat} (h : nk z a b) : ¬ nB z a b = 0 := by
  have e : nB z a b = 1 := if_pos h
  rw [e]
  decide
theorem nB_0 {z : Nat → Nat} {a b : Nat} (h : ¬ nk z a b) : nB z a b = 0 := if_neg h
/-- what comes of a's pairs with the last m, and of all behind -/
def RI (z : Nat → Nat) (a : Nat) (s : Nat × Int32) : Nat → Nat × Int32
  | 0 => s
  | m + 1 => if nB z a (z 3 - 1 - m) = 0 then RI z a s m else ((RI z a s m).1 + 1, nI (10 * a + (z 3 - 1 - m)))
def RO (z : Nat → Nat) : Nat → Nat × Int32
  | 0 => (0, -1000000)
  | m + 1 => RI z (z 3 - 1 - m) (RO z m) m
theorem RI_le {z : Nat → Nat} {a : Nat} {s : Nat × Int32} : ∀ m, (RI z a s m).1 ≤ s.1 + m
  | 0 => Nat.le_refl _
  | m + 1 => by
    have := RI_le (z := z) (a := a) (s := s) m
    show (if _ then _ else _ : Nat × Int32).1 ≤ _
    split
    · omega
    · show (RI z a s m).1 + 1 ≤ _
      omega
theorem RO_le {z : Nat → Nat} : ∀ m, (RO z m).1 ≤ 7 * m ∨ 7 < m
  | 0 => Or.inl (Nat.le_refl _)
  | m + 1 => by
    have h1 := RO_le (z := z) m
    have h2 := RI_le (z := z) (a := z 3 - 1 - m) (s := RO z m) m
    show (RI z (z 3 - 1 - m) (RO z m) m).1 ≤ _ ∨ _
    omega
theorem s_same {d : Nat} {μ : Mm} {K : Int32 → Mm → Prop} {z : Nat → Nat} {a b : Nat} (lr : LR μ 16 z) (hz : VL z) (ha : a < z 3) (hb : b < z 3) (k1 : nk z a b → K 1 μ) (k0 : ¬ nk z a b → K 0 μ) : cI (cM (d + 2)) 25 [.ref 16, .int (nI a), .int (nI b)] μ K := by
  obtain ⟨v0, v1, v2, v3, v4, v5, v6, v7, v8⟩ := hz
  have r6 := lr.2.2.2.2.2.2.1
  have na := (lr.2.2.2.2.2.2.2.2 a ha).2.1
  have nb := (lr.2.2.2.2.2.2.2.2 b hb).2.1
  have wa := (v8 a ha).2.1
  have wb := (v8 b hb).2.1
  have ca : μ 20 (nI a).toNatClampNeg = nI (z (17 + 6 * a)) := by rw [nI_clamp (by omega)]; exact na
  have cb : μ 20 (nI b).toNatClampNeg = nI (z (17 + 6 * b)) := by rw [nI_clamp (by omega)]; exact nb
  refine e_X4_areNamesakes_16 (s_isLiving (z := z) (by decide) r6 v3 ha (fun c => br_t rfl ⟨Or.inl rfl, k0 (fun h => c h.1)⟩) (fun c => br_f (by decide) (s_isLiving (z := z) (by decide) r6 v3 hb (fun c2 => br_t rfl ⟨Or.inl rfl, k0 (fun h => c2 h.2.1)⟩) (fun c2 => br_f (by decide) ⟨vp_in_nI (by omega) (by decide), vp_in_nI (by omega) (by decide), ?_⟩))))
  rw [ca, cb, nI_eq (by omega) (by omega)]
  exact nr_c (fun c3 => ⟨Or.inl rfl, k0 (fun h => c3 h.2.2)⟩) (fun c3 => ⟨Or.inr rfl, k1 ⟨c, c2, c3⟩⟩)
theorem n_pred {i : Nat} (h : 1 ≤ i) : nI i + -1 = nI (i - 1) := by
  obtain ⟨j, rfl⟩ : ∃ j, i = j + 1 := ⟨i - 1, by omega⟩
  rw [← n_suc, show j + 1 - 1 = j by omega, Int32.add_assoc, show (1 : Int32) + -1 = 0 from rfl, Int32.add_zero]
theorem s_nkM {d : Nat} {μ : Mm} {K : Int32 → Mm → Prop} {z : Nat → Nat} {w : Int32} (lm : LM (μ 283) z) (hz : VL z) (a : Nat) (s : Nat × Int32) (ha : a < z 3) (hs : s.1 ≤ 100) (k : jX8_namesakes (d + 2) K 43 [some (.ref 279), some (.int w), some (.int (nI (RI z a s (z 3 - 1 - a)).1)), some (.int (RI z a s (z 3 - 1 - a)).2), some (.int (nI a + -1)), none, none] [] μ) : ∀ m b, b + 1 + m = z 3 → a ≤ b → jX8_namesakes (d + 2) K 58 [some (.ref 279), some (.int w), some (.int (nI (RI z a s m).1)), some (.int (RI z a s m).2), some (.int (nI a)), some (.int (nI b)), none] [] μ := by
  obtain ⟨v0, v1, v2, v3, v4, v5, v6, v7, v8⟩ := hz
  have key : ∀ e m b, b = a + e → b + 1 + m = z 3 → jX8_namesakes (d + 2) K 58 [some (.ref 279), some (.int w), some (.int (nI (RI z a s m).1)), some (.int (RI z a s m).2), some (.int (nI a)), some (.int (nI b)), none] [] μ := by
    intro e
    induction e with
    | zero =>
      intro m b hb hm
      obtain rfl : m = z 3 - 1 - a := by omega
      exact k_X8_namesakes_58 (br_t (by rw [nI_leI (by omega) (by omega)]; omega) k)
    | succ e ih =>
      intro m b hb hm
      have i2 := ih (m + 1) (b - 1) (by omega) (by omega)
      have er : RI z a s (m + 1) = if nB z a (z 3 - 1 - m) = 0 then RI z a s m else ((RI z a s m).1 + 1, nI (10 * a + (z 3 - 1 - m))) := rfl
      rw [show z 3 - 1 - m = b by omega] at er
      have wa := v8 a ha
      have wb := v8 b (by omega)
      have no : ¬ nk z a b → jX8_namesakes (d + 2) K 58 [some (.ref 279), some (.int w), some (.int (nI (RI z a s m).1 + 0)), some (.int (RI z a s m).2), some (.int (nI a)), some (.int (nI b + -1)), none] [] μ := by
        intro h
        rw [er, if_pos (nB_0 h)] at i2
        rw [n_pred (by omega), Int32.add_zero]
        exact i2
      have yes : nk z a b → jX8_namesakes (d + 2) K 58 [some (.ref 279), some (.int w), some (.int (nI (RI z a s m).1 + 1)), some (.int (10 * nI a + nI b)), some (.int (nI a)), some (.int (nI b + -1)), none] [] μ := by
        intro h
        rw [er, if_neg (nB_1 h)] at i2
        rw [n_pred (by omega), n_suc, show (10 : Int32) = nI 10 from rfl, pk_mul, nI_add]
        exact i2
      refine k_X8_namesakes_58 (br_f (by rw [nI_leI (by omega) (by omega)]; omega) ?_)
      refine s_lives (Or.inl rfl) lm (by omega) (by omega) (fun c => br_t rfl (br_t rfl (br_t rfl (no (fun h => c h.1))))) (fun c => br_f (by decide) ?_)
      refine s_lives (Or.inl rfl) lm (by omega) (by omega) (fun c2 => br_t rfl (br_t rfl (br_t rfl (no (fun h => c2 h.2.1))))) (fun c2 => br_f (by decide) ?_)
      refine s_of (c := 1) (Or.inl rfl) lm (by omega) (by decide) (s_of (c := 1) (Or.inl rfl) lm (by omega) (by decide) ?_)
      rw [show 16 + 6 * a + 1 = 17 + 6 * a by omega, show 16 + 6 * b + 1 = 17 + 6 * b by omega, nI_eq (by omega) (by omega)]
      exact nr_c (fun c3 => br_t rfl (br_t rfl (no (fun h => c3 h.2.2)))) (fun c3 => br_f (by decide) (br_f (by decide) (yes ⟨c, c2, c3⟩)))
  exact fun m b hm hb => key (b - a) m b (by omega) hm
theorem RO_le2 {z : Nat → Nat} {m : Nat} (h : m ≤ 7) : (RO z m).1 ≤ 49 := by
  have := RO_le (z := z) m
  omega
theorem s_nkM2 {d : Nat} {μ : Mm} {K : Int32 → Mm → Prop} {z : Nat → Nat} {w : Int32} (lm : LM (μ 283) z) (hz : VL z) (k1 : ¬ w = 0 → K (RO z (z 3)).2 μ) (k0 : w = 0 → K (nI (RO z (z 3)).1) μ) : ∀ e m, m + e = z 3 → jX8_namesakes (d + 2) K 43 [some (.ref 279), some (.int w), some (.int (nI (RO z m).1)), some (.int (RO z m).2), some (.int (nI e - 1)), none, none] [] μ := by
  have h3 := hz.2.2.2.1
  intro e
  induction e with
  | zero =>
    intro m hm
    obtain rfl : m = z 3 := by omega
    exact k_X8_namesakes_43 (br_t (by decide) (nr_c k1 k0))
  | succ e ih =>
    intro m hm
    have i2 := ih (m + 1) (by omega)
    have er : RO z (m + 1) = RI z (z 3 - 1 - m) (RO z m) m := rfl
    rw [show z 3 - 1 - m = e by omega] at er
    rw [er] at i2
    refine k_X8_namesakes_43 ?_
    rw [show nI (e + 1) - 1 = nI e from nI_pred e]
    refine br_f (nneg (by omega)) ⟨vp_in_nI (n := 3) (by decide) (by decide), ?_⟩
    rw [show (3 : Int32).toNatClampNeg = 3 from rfl, lm 3 (by decide), show nI (z 3) - 1 = nI (z 3 - 1) from sub_n (b := 1) (by omega)]
    refine s_nkM lm hz e (RO z m) (by omega) (by have := RO_le2 (z := z) (m := m) (by omega); omega) ?_ 0 (z 3 - 1) (by omega) (by omega)
    rw [show z 3 - 1 - e = m by omega, show nI e + -1 = nI e - 1 by rw [Int32.sub_eq_add_neg]]
    exact i2
theorem s_nkC {d : Nat} {μ : Mm} {K : Int32 → Mm → Prop} {z : Nat → Nat} {w : Int32} (lr : LR μ 16 z) (hz : VL z) (a : Nat) (s : Nat × Int32) (ha : a < z 3) (next : ∀ (c : Nat) (f : Int32), c ≤ 7 * (a + 1) → (c = 0 → f = -1000000) → (¬ w = 0 → K (if c = 0 then s.2 else f) μ) → (w = 0 → K (nI (c + s.1)) μ) → jX7_namesakes (d + 3) K 33 [some (.ref 0), some (.int w), some (.int (nI c)), some (.int f), some (.int (nI (a + 1))), none] [] μ) : ∀ m b (c : Nat) (f : Int32), b + m = z 3 → a < b → c + m ≤ 7 * (a + 1) → (c = 0 → f = -1000000) → (¬ w = 0 → K (if c = 0 then (RI z a s m).2 else f) μ) → (w = 0 → K (nI (c + (RI z a s m).1)) μ) → jX7_namesakes (d + 3) K 51 [some (.ref 0), some (.int w), some (.int (nI c)), some (.int f), some (.int (nI a)), some (.int (nI b))] [] μ := by
  have h3 := hz.2.2.2.1
  have r4 := lr.2.2.2.2.1
  intro m
  induction m with
  | zero =>
    intro b c f hb hab hc kf k1 k0
    refine k_X7_namesakes_51 ?_
    rw [r4, n_suc]
    exact br_t (by rw [nI_leI (by omega) (by omega)]; omega) (next c f (by omega) kf k1 k0)
  | succ m ih =>
    intro b c f hb hab hc kf k1 k0
    have er : RI z a s (m + 1) = if nB z a (z 3 - 1 - m) = 0 then RI z a s m else ((RI z a s m).1 + 1, nI (10 * a + (z 3 - 1 - m))) := rfl
    rw [show z 3 - 1 - m = b by omega] at er
    refine k_X7_namesakes_51 ?_
    rw [r4, n_suc, n_suc]
    refine br_f (by rw [nI_leI (by omega) (by omega)]; omega) (s_same lr hz (by omega) (by omega) (fun h => br_f (by decide) ?_) (fun h => br_t rfl ?_))
    · rw [er, if_neg (nB_1 h)] at k1 k0
      have e0 : (nI c = 0) = (c = 0) := propext (nI_eq (b := 0) (by omega) (by omega))
      rw [e0, n_suc c]
      refine nr_c (fun c0 => ih (b + 1) (c + 1) f (by omega) (by omega) (by omega) (fun h => absurd h (by omega)) ?_ ?_) (fun c0 => ?_)
      · rw [if_neg c0] at k1
        rw [if_neg (by omega)]
        exact k1
      · rw [show c + 1 + (RI z a s m).1 = c + ((RI z a s m).1 + 1) by omega]
        exact k0
      · rw [show (10 : Int32) = nI 10 from rfl, pk_mul, nI_add]
        refine ih (b + 1) (c + 1) _ (by omega) (by omega) (by omega) (fun h => absurd h (by omega)) ?_ ?_
        · rw [if_pos c0] at k1
          rw [if_neg (by omega)]
          exact k1
        · rw [show c + 1 + (RI z a s m).1 = c + ((RI z a s m).1 + 1) by omega]
          exact k0
    · rw [er, if_pos (nB_0 h)] at k1 k0
      exact ih (b + 1) c f (by omega) (by omega) (by omega) kf k1 k0
