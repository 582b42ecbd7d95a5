/-! ===== land: TOKENS ===== -/
abbrev dg (b : Nat → Nat) (N i : Nat) : Prop := i < N ∧ 48 ≤ b i ∧ b i ≤ 57
def tk (b : Nat → Nat) (N p : Nat) : Nat := if N ≤ p then 0 else if b p = 44 ∨ b p = 59 ∨ (97 ≤ b p ∧ b p ≤ 122) then b p else if dg b N p then (if dg b N (p + 1) ∧ dg b N (p + 2) then 2 else 1) else 2
def vl (b : Nat → Nat) (N p : Nat) : Nat := if dg b N (p + 1) then 10 * (b p - 48) + (b (p + 1) - 48) else b p - 48
def nt (b : Nat → Nat) (N p : Nat) : Nat := if N ≤ p then p else if dg b N p ∧ dg b N (p + 1) then p + 2 else p + 1
/-- the class's TOKEN begins at p -/
def CS (b : Nat → Nat) (N : Nat) (ν : Mm) (p : Nat) : Prop := ν 5 2 = nI N ∧ (∀ i, i < N → ν 6 i = nI (b i)) ∧ p ≤ N ∧ ν 5 5 = nI p ∧ ν 5 7 = nI (tk b N p) ∧ (¬ tk b N p = 2 → ν 5 6 = nI (nt b N p)) ∧ (tk b N p = 1 → ν 5 8 = nI (vl b N p))
theorem nt_le {b : Nat → Nat} {N p : Nat} (h : p ≤ N) : nt b N p ≤ N := by
  unfold nt
  split
  · exact h
  · split
    · rename_i h2
      have := h2.2.1
      omega
    · omega
theorem vl_le {b : Nat → Nat} {N p : Nat} (h : tk b N p = 1) : vl b N p ≤ 99 := by
  unfold tk at h
  unfold vl
  split at h
  · exact absurd h (by decide)
  · split at h
    · omega
    · split at h
      · rename_i hd
        split
        · rename_i h1
          have := hd.2.2
          have := h1.2.2
          omega
        · have := hd.2.2
          omega
      · exact absurd h (by decide)
theorem tk_le {b : Nat → Nat} {N p : Nat} (hb : ∀ i, i < N → b i < 256) : tk b N p < 256 := by
  unfold tk
  split
  · decide
  · split
    · exact hb p (by omega)
    · split
      · split <;> decide
      · decide
theorem s_fig {d : Nat} {μ : Mm} {K : Int32 → Mm → Prop} {b : Nat → Nat} {N i : Nat} (hN : N ≤ 100) (hb : ∀ i, i < N → b i < 256) (h2 : μ 5 2 = nI N) (h6 : ∀ i, i < N → μ 6 i = nI (b i)) (hi : i < 1000) (k1 : dg b N i → K 1 μ) (k0 : ¬ dg b N i → K 0 μ) : cI (cM (d + 1)) 41 [.ref 5, .int (nI i)] μ K := by
  refine e_X5_isFigure ?_
  rw [h2, nI_leI (by omega) (by omega)]
  refine br_c (fun c => ⟨Or.inl rfl, k0 (fun h => by have := h.1; omega)⟩) (fun c => ⟨vp_in_nI (by omega) (by decide), ?_⟩)
  have hbi := hb i (by omega)
  rw [nI_clamp (by omega), h6 i (by omega), show (48 : Int32) = nI 48 from rfl, nI_ltI (by omega) (by omega), show (57 : Int32) = nI 57 from rfl, nI_ltI (by omega) (by omega)]
  exact br_c (fun c1 => ⟨Or.inl rfl, k0 (fun h => by have := h.2.1; omega)⟩) (fun c1 => ⟨vp_in_nI (by omega) (by decide), br_c (fun c2 => ⟨Or.inl rfl, k0 (fun h => by have := h.2.2; omega)⟩) (fun c2 => ⟨Or.inr rfl, k1 ⟨by omega, by omega, by omega⟩⟩)⟩)
theorem s_look {d : Nat} {ν : Mm} {K : Mm → Prop} {b : Nat → Nat} {N p : Nat} (hN : N ≤ 100) (hb : ∀ i, i < N → b i < 256) (h2 : ν 5 2 = nI N) (h6 : ∀ i, i < N → ν 6 i = nI (b i)) (h5 : ν 5 5 = nI p) (hp : p ≤ N) (k : ∀ x, CS b N (upc ν 5 x) p → (∀ j, j ≠ 6 → j ≠ 7 → j ≠ 8 → x j = ν 5 j) → K (upc ν 5 x)) : cV (cM (d + 2)) 40 [.ref 5] ν K := by
  -- a figure begins here, or no TOKEN
  have fig : p < N → ¬ (b p = 44 ∨ b p = 59 ∨ (97 ≤ b p ∧ b p ≤ 122)) → ∀ y : Nat → Int32, y 2 = nI N → y 5 = nI p → y 6 = nI (p + 1) → y 7 = nI 2 → (∀ j, j ≠ 6 → j ≠ 7 → j ≠ 8 → y j = ν 5 j) → cI (cM (d + 1)) 41 [.ref 5, .int (nI p)] (upc ν 5 y) (fun x85 μ85 => ((¬ x85 = 0 → (cI (cM (d + 1)) 41 [.ref 5, .int (μ85 5 6)] (up μ85 5 8 ((nI (b p)) - 48)) (fun x105 μ105 => ((x105 = 0 → (cI (cM (d + 1)) 41 [.ref 5, .int (μ105 5 6)] μ105 (fun x151 μ151 => ((x151 = 0 → K (up μ151 5 7 1)) ∧ (¬ x151 = 0 → K (up μ151 5 7 2)))))) ∧ (¬ x105 = 0 → (vp_in (μ105 5 6) 100 ∧ (cI (cM (d + 1)) 41 [.ref 5, .int ((μ105 5 6) + 1)] (up (up μ105 5 8 (((10 * (μ105 5 8)) + (μ105 6 ((μ105 5 6)).toNatClampNeg)) - 48)) 5 6 ((μ105 5 6) + 1)) (fun x151 μ151 => ((x151 = 0 → K (up μ151 5 7 1)) ∧ (¬ x151 = 0 → K (up μ151 5 7 2))))))))))) ∧ (x85 = 0 → K μ85))) := by
    intro hpN hc y y2 y5 y6 y7 yj
    have t6 : ∀ (x : Nat → Int32) i, i < N → (upc ν 5 x) 6 i = nI (b i) := fun x i hi => h6 i hi
    refine s_fig hN hb (show (upc ν 5 y) 5 2 = nI N from y2) (t6 y) (by omega) (fun hd => nr_f (by decide) ?_) (fun hd => nr_t rfl ?_)
    · have hd1 := hd.2.1
      have hd2 := hd.2.2
      rw [show (upc ν 5 y) 5 6 = nI (p + 1) from y6, show nI (b p) - 48 = nI (b p - 48) from sub_n (b := 48) hd1, up_upc]
      have tk' : tk b N p = if dg b N (p + 1) ∧ dg b N (p + 2) then 2 else 1 := by
        unfold tk
        rw [if_neg (by omega), if_neg hc, if_pos hd]
      refine s_fig hN hb (show (upc ν 5 (upd y 8 (nI (b p - 48)))) 5 2 = nI N from y2) (t6 _) (by omega) (fun e1 => br_f (by decide) ?_) (fun e1 => br_t rfl ?_)
      · have e1a := e1.1
        have e11 := e1.2.1
        have e12 := e1.2.2
        rw [show (upc ν 5 (upd y 8 (nI (b p - 48)))) 5 6 = nI (p + 1) from y6, nI_clamp (by omega), t6 _ (p + 1) e1a, show (upc ν 5 (upd y 8 (nI (b p - 48)))) 5 8 = nI (b p - 48) from rfl, show (10 : Int32) * nI (b p - 48) = nI (10 * (b p - 48)) from pk_mul 10 _, nI_add, show nI (10 * (b p - 48) + b (p + 1)) - 48 = nI (10 * (b p - 48) + b (p + 1) - 48) from sub_n (b := 48) (by omega), up_upc, n_suc, up_upc]
        have ev : vl b N p = 10 * (b p - 48) + b (p + 1) - 48 := by
          unfold vl
          rw [if_pos e1]
          omega
        have en : nt b N p = p + 1 + 1 := by
          unfold nt
          rw [if_neg (by omega), if_pos ⟨hd, e1⟩]
        refine ⟨vp_in_nI (by omega) (by decide), s_fig hN hb (show (upc ν 5 (upd (upd (upd y 8 (nI (b p - 48))) 8 (nI (10 * (b p - 48) + b (p + 1) - 48))) 6 (nI (p + 1 + 1)))) 5 2 = nI N from y2) (t6 _) (by omega) (fun e2 => br_f (by decide) ?_) (fun e2 => br_t rfl ?_)⟩
        · rw [up_upc]
          rw [if_pos ⟨e1, e2⟩] at tk'
          refine k _ ⟨y2, t6 _, hp, y5, ?_, fun h => absurd tk' h, fun h => absurd h (by omega)⟩ (fun j a1 a2 a3 => ?_)
          · rw [tk']
            rfl
          · rw [upd_n _ _ a2, upd_n _ _ a1, upd_n _ _ a3, upd_n _ _ a3]
            exact yj j a1 a2 a3
        · rw [up_upc]
          rw [if_neg (fun h => e2 h.2)] at tk'
          refine k _ ⟨y2, t6 _, hp, y5, ?_, fun _ => ?_, fun _ => ?_⟩ (fun j a1 a2 a3 => ?_)
          · rw [tk']
            rfl
          · rw [en]
            rfl
          · rw [ev]
            rfl
          · rw [upd_n _ _ a2, upd_n _ _ a1, upd_n _ _ a3, upd_n _ _ a3]
            exact yj j a1 a2 a3
      · rw [show (upc ν 5 (upd y 8 (nI (b p - 48)))) 5 6 = nI (p + 1) from y6]
        rw [if_neg (fun h => e1 h.1)] at tk'
        have ev : vl b N p = b p - 48 := by
          unfold vl
          rw [if_neg e1]
        have en : nt b N p = p + 1 := by
          unfold nt
          rw [if_neg (by omega), if_neg (fun h => e1 h.2)]
        refine s_fig hN hb (show (upc ν 5 (upd y 8 (nI (b p - 48)))) 5 2 = nI N from y2) (t6 _) (by omega) (fun e2 => absurd e2 e1) (fun e2 => br_t rfl ?_)
        rw [up_upc]
        refine k _ ⟨y2, t6 _, hp, y5, ?_, fun _ => ?_, fun _ => ?_⟩ (fun j a1 a2 a3 => ?_)
        · rw [tk']
          rfl
        · rw [en]
          exact y6
        · rw [ev]
          rfl
        · rw [upd_n _ _ a2, upd_n _ _ a3]
          exact yj j a1 a2 a3
    · have tk' : tk b N p = 2 := by
        unfold tk
        rw [if_neg (by omega), if_neg hc, if_neg hd]
      refine k y ⟨y2, t6 y, hp, y5, ?_, fun h => absurd tk' h, fun h => absurd h (by omega)⟩ yj
      rw [tk']
      exact y7
  refine e_X5_look ?_
  rw [h5, h2, nI_ltI (by omega) (by omega), n_suc, nI_clamp (by omega), show up ν 5 6 (nI p) = upc ν 5 (upd (ν 5) 6 (nI p)) from rfl, up_upc, up_upc, up_upc, up_upc]
  refine br_c (fun c => ⟨vp_in_nI (by omega) (by decide), ?_⟩) (fun c => ?_)
  · have hbp := hb p (by omega)
    have c1 : (nI (b p) = 44) = (b p = 44) := propext (nI_eq (b := 44) (by omega) (by decide))
    have c2 : (nI (b p) = 59) = (b p = 59) := propext (nI_eq (b := 59) (by omega) (by decide))
    have c3 : (nI (b p) < 97) = (b p < 97) := propext (nI_ltI (b := 97) (by omega) (by decide))
    have c4 : (122 < nI (b p)) = (122 < b p) := propext (nI_ltI (a := 122) (by decide) (by omega))
    rw [h6 p c, c1, c2, c3, c4]
    have one : (b p = 44 ∨ b p = 59 ∨ (97 ≤ b p ∧ b p ≤ 122)) → K (upc ν 5 (upd (upd (upd (upd (ν 5) 6 (nI p)) 7 0) 6 (nI (p + 1))) 7 (nI (b p)))) := by
      intro ho
      have tk' : tk b N p = b p := by
        unfold tk
        rw [if_neg (by omega), if_pos ho]
      have en : nt b N p = p + 1 := by
        unfold nt
        rw [if_neg (by omega), if_neg (fun h => by have := h.1.2.1; have := h.1.2.2; omega)]
      refine k _ ⟨h2, h6, hp, h5, ?_, fun _ => ?_, fun h => by omega⟩ (fun j a1 a2 a3 => ?_)
      · rw [tk']
        rfl
      · rw [en]
        rfl
      · rw [upd_n _ _ a2, upd_n _ _ a1, upd_n _ _ a2, upd_n _ _ a1]
    have fig' := fun ho => fig c ho (upd (upd (upd (upd (ν 5) 6 (nI p)) 7 0) 6 (nI (p + 1))) 7 2) h2 h5 rfl rfl (fun j a1 a2 a3 => by rw [upd_n _ _ a2, upd_n _ _ a1, upd_n _ _ a2, upd_n _ _ a1])
    exact br_c (fun q1 => one (Or.inl q1)) (fun q1 => br_c (fun q2 => one (Or.inr (Or.inl q2))) (fun q2 => br_c (fun q3 => fig' (by omega)) (fun q3 => br_c (fun q4 => fig' (by omega)) (fun q4 => one (by omega)))))
  · have tk' : tk b N p = 0 := by
      unfold tk
      rw [if_pos (by omega)]
    have en : nt b N p = p := by
      unfold nt
      rw [if_pos (by omega)]
    refine k _ ⟨h2, h6, hp, h5, ?_, fun _ => ?_, fun h => by omega⟩ (fun j a1 a2 a3 => ?_)
    · rw [tk']
      rfl
    · rw [en]
      rfl
    · rw [upd_n _ _ a2, upd_n _ _ a1]
