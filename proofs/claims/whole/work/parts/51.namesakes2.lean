theorem s_nkC2 {d : Nat} {μ : Mm} {K : Int32 → Mm → Prop} {z : Nat → Nat} {w : Int32} (lr : LR μ 16 z) (hz : VL z) : ∀ m a, a + m = z 3 → ∀ (c : Nat) (f : Int32), c ≤ 7 * a → (c = 0 → f = -1000000) → (¬ w = 0 → K (if c = 0 then (RO z m).2 else f) μ) → (w = 0 → K (nI (c + (RO z m).1)) μ) → jX7_namesakes (d + 3) K 33 [some (.ref 0), some (.int w), some (.int (nI c)), some (.int f), some (.int (nI a)), none] [] μ := by
  have h3 := hz.2.2.2.1
  have r4 := lr.2.2.2.2.1
  intro m
  induction m with
  | zero =>
    intro a ha c f hc kf k1 k0
    refine k_X7_namesakes_33 ?_
    rw [r4]
    refine br_t (by rw [nI_leI (by omega) (by omega)]; omega) (nr_c (fun w1 => ?_) k0)
    have := k1 w1
    by_cases c0 : c = 0
    · rw [if_pos c0] at this
      rw [kf c0]
      exact this
    · rw [if_neg c0] at this
      exact this
  | succ m ih =>
    intro a ha c f hc kf k1 k0
    have er : RO z (m + 1) = RI z (z 3 - 1 - m) (RO z m) m := rfl
    rw [show z 3 - 1 - m = a by omega] at er
    rw [er] at k1 k0
    refine k_X7_namesakes_33 ?_
    rw [r4, n_suc]
    refine br_f (by rw [nI_leI (by omega) (by omega)]; omega) ?_
    exact s_nkC lr hz a (RO z m) (by omega) (fun c2 f2 hc2 kf2 q1 q0 => ih (a + 1) (by omega) c2 f2 hc2 kf2 q1 q0) m (a + 1) c f (by omega) (by omega) (by omega) kf k1 k0
theorem op_namesakes {μ : Mm} {K : Int32 → Mm → Prop} {y : Int32} (hI : Inv μ) (k : ∀ a μ1, Nx 168 [.ref 279, .int y] a μ1 → K a μ1) : cI (cM 30) 80 [.ref 0, .int y] μ K := by
  obtain ⟨z, hz⟩ := hI.2.2.2.2.1
  obtain ⟨vz, v9, lr, lm⟩ := hz
  have vz' := vz
  obtain ⟨v0, v1, v2, v3, v4, v5, v6, v7, v8⟩ := vz
  have r0 := lr.1
  have r3 := lr.2.2.2.1
  have r4 := lr.2.2.2.2.1
  have r5 := lr.2.2.2.2.2.1
  have r6 := lr.2.2.2.2.2.2.1
  have l0 := lm 0 (by decide)
  have l2 := lm 2 (by decide)
  have l3 := lm 3 (by decide)
  have l5 := lm 5 (by decide)
  refine e_X7_namesakes (s_isThere rfl r0 (by omega) (fun h0 => nr_f (by decide) ?_) (fun h0 => nr_t rfl (k _ _ (fun G g => e_X8_namesakes (s_isThereM (μ := up μ 279 0 0) l0 (by omega) (fun h => absurd h (by omega)) (fun _ => nr_t rfl (g _ (Inv.q hI (fun k hk => by simp (disch := omega) only [up_eq, upc_n]) (fun j hj => by simp (disch := omega) only [up_eq, upc_s, upc_n, upd_n])))))))))
  refine s_out (a := 0) (b := 1) (by decide) (by decide) (fun hy => br_t rfl ?_) (fun hy => br_f (by decide) (k _ _ (fun G g => e_X8_namesakes (s_isThereM (μ := up μ 279 0 0) l0 (by omega) (fun _ => nr_f (by decide) (s_in (a := 0) (b := 1) (by decide) (by decide) rfl rfl (fun h => absurd h hy) (fun _ => nr_t rfl (g _ (Inv.q hI (fun k hk => by simp (disch := omega) only [up_eq, upc_n]) (fun j hj => by simp (disch := omega) only [up_eq, upc_s, upc_n, upd_n])))))) (fun h => absurd h (by omega))))))
  have lmt : LM ((up μ 279 0 0) 283) z := lm
  have mod : ∀ b, (¬ y = 0 → b = (RO z (z 3)).2) → (y = 0 → b = nI (RO z (z 3)).1) → K b μ := by
    intro b b1 b0
    refine k _ _ (fun G g => e_X8_namesakes (s_isThereM (μ := up μ 279 0 0) l0 (by omega) (fun _ => nr_f (by decide) (s_in (a := 0) (b := 1) (by decide) (by decide) rfl rfl (fun _ => nr_f (by decide) ⟨vp_in_nI (n := 3) (by decide) (by decide), ?_⟩) (fun h => absurd hy h))) (fun h => absurd h (by omega))))
    have gg : G b (up μ 279 0 0) := g _ (Inv.q hI (fun k hk => by simp (disch := omega) only [up_eq, upc_n]) (fun j hj => by simp (disch := omega) only [up_eq, upc_s, upc_n, upd_n]))
    rw [show (up μ 279 0 0) 283 (3 : Int32).toNatClampNeg = nI (z 3) from l3]
    exact s_nkM2 lmt vz' (fun h => by rw [← b1 h]; exact gg) (fun h => by rw [← b0 h]; exact gg) (z 3) 0 (by omega)
  exact s_nkC2 lr vz' (z 3) 0 (by omega) 0 (-1000000) (by decide) (fun _ => rfl) (fun h => mod _ (fun _ => rfl) (fun h2 => absurd h2 h)) (fun h => mod _ (fun h2 => absurd h h2) (fun _ => by rw [Nat.zero_add]))
