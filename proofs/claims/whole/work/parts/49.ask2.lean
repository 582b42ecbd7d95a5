theorem s_kindOf {d : Nat} {μ ν : Mm} {z : Nat → Nat} {q n c : Nat} {t : Nat → Int32} {K : Int32 → Mm → Prop} (h : TM μ ν n t) (lm : LM (μ 283) z) (hq : q < 7) (hc : c < 6) (k : K (nI (z (16 + 6 * q + c))) ν) : cI (cM (d + 1)) 131 [.ref 283, .int (nI q), .int (nI c)] ν K :=
  s_of (c := c) (z := z) (Or.inl rfl) (by rw [h.2.2.1 283 (by decide) (by decide)]; exact lm) hq hc k
theorem s_stayM {d : Nat} {μ ν : Mm} {z : Nat → Nat} {q n : Nat} {t : Nat → Int32} {K : Int32 → Mm → Prop} (h : TM μ ν n t) (lm : LM (μ 283) z) (hq : q < 7) (hs : z (16 + 6 * q) = 4 ∨ z (16 + 6 * q) = 5) (hn : n < 10) (k : ∀ ν', TM μ ν' (n + (zL (z (16 + 6 * q))).length) (pl t n (zL (z (16 + 6 * q)))) → K (zA (z (16 + 6 * q)) (nI (z (17 + 6 * q)))) ν') : cI (cM (d + 4)) 179 [.ref 279, .int (nI q)] ν K := by
  refine e_X8_stayerSize (s_kindOf (c := 0) h lm hq (by decide) ?_)
  rw [show 16 + 6 * q + 0 = 16 + 6 * q by omega]
  rcases hs with e | e
  · rw [e] at k ⊢
    exact nr_f (by decide) (br_t rfl (s_began h (by omega) (fun ν1 h1 => s_plain h1 lm hq (by omega) (fun ν2 h2 => br_t rfl (k ν2 h2)))))
  · rw [e] at k ⊢
    exact nr_t rfl (br_f (by decide) (s_began h (by omega) (fun ν0 h0 => s_began h0 (by omega) (fun ν1 h1 => s_plain h1 lm hq (by omega) (fun ν2 h2 => br_f (by decide) (k ν2 h2))))))
theorem s_markM {d : Nat} {μ ν : Mm} {z : Nat → Nat} {q n : Nat} {t : Nat → Int32} {K : Int32 → Mm → Prop} (h : TM μ ν n t) (lm : LM (μ 283) z) (hq : q < 7) (hs : 1 ≤ z (16 + 6 * q) ∧ z (16 + 6 * q) ≤ 5) (hn : n < 8) (k : ∀ ν', TM μ ν' (n + (mL (z (16 + 6 * q))).length) (pl t n (mL (z (16 + 6 * q)))) → K (mA (z (16 + 6 * q)) (nI q) (nI (z (17 + 6 * q))) (nI (z (18 + 6 * q)))) ν') : cI (cM (d + 5)) 180 [.ref 279, .int (nI q)] ν K := by
  refine e_X8_markOf (s_kindOf (c := 0) h lm hq (by decide) ?_)
  have e2 : 16 + 6 * q + 2 = 18 + 6 * q := by omega
  rw [show 16 + 6 * q + 0 = 16 + 6 * q by omega]
  rcases (show z (16 + 6 * q) = 1 ∨ z (16 + 6 * q) = 2 ∨ z (16 + 6 * q) = 3 ∨ z (16 + 6 * q) = 4 ∨ z (16 + 6 * q) = 5 by omega) with e | e | e | e | e
  · rw [e] at k ⊢
    refine br_t (by decide) (br_t rfl (s_began h (by omega) (fun ν1 h1 => s_began h1 (by omega) (fun ν2 h2 => s_kindOf (c := 2) h2 lm hq (by decide) ?_))))
    rw [e2]
    exact nr_t rfl (k ν2 h2)
  · rw [e] at k ⊢
    refine br_t (by decide) (br_f (by decide) (nr_f (by decide) (s_began h (by omega) (fun ν0 h0 => s_began h0 (by omega) (fun ν1 h1 => s_began h1 (by omega) (fun ν2 h2 => s_kindOf (c := 2) h2 lm hq (by decide) ?_))))))
    rw [e2]
    exact nr_f (by decide) (nr_f (by decide) (k ν2 h2))
  · rw [e] at k ⊢
    refine br_t (by decide) (br_f (by decide) (nr_t rfl (s_began h (by omega) (fun ν0 h0 => s_began h0 (by omega) (fun ν1 h1 => s_began h1 (by omega) (fun ν2 h2 => s_kindOf (c := 2) h2 lm hq (by decide) ?_))))))
    rw [e2]
    exact nr_f (by decide) (nr_t rfl (k ν2 h2))
  · have e4 := e
    rw [e] at k ⊢
    refine br_f (by decide) (s_began h (by omega) (fun ν0 h0 => s_began h0 (by omega) (fun ν1 h1 => s_stayM h1 lm hq (Or.inl e4) (by omega) (fun ν2 h2 => ?_))))
    rw [e4] at h2 ⊢
    exact k ν2 h2
  · have e4 := e
    rw [e] at k ⊢
    refine br_f (by decide) (s_began h (by omega) (fun ν0 h0 => s_began h0 (by omega) (fun ν1 h1 => s_stayM h1 lm hq (Or.inr e4) (by omega) (fun ν2 h2 => ?_))))
    rw [e4] at h2 ⊢
    exact k ν2 h2
theorem s_sizeM {d : Nat} {μ ν : Mm} {z : Nat → Nat} {q n : Nat} {t : Nat → Int32} {K : Int32 → Mm → Prop} (h : TM μ ν n t) (lm : LM (μ 283) z) (hq : q < 7) (hs : 1 ≤ z (16 + 6 * q) ∧ z (16 + 6 * q) ≤ 3) (hn : n < 4) (k : ∀ ν', TM μ ν' (n + (gL (z (16 + 6 * q))).length + (mL (z (16 + 6 * q))).length) (pl (pl t n (gL (z (16 + 6 * q)))) (n + (gL (z (16 + 6 * q))).length) (mL (z (16 + 6 * q)))) → K (gA (z (16 + 6 * q)) (nI q) (nI (z (17 + 6 * q))) (nI (z (18 + 6 * q)))) ν') : cI (cM (d + 7)) 181 [.ref 279, .int (nI q)] ν K := by
  refine e_X8_sizeOf (s_kindOf (c := 0) h lm hq (by decide) ?_)
  rw [show 16 + 6 * q + 0 = 16 + 6 * q by omega]
  rcases (show z (16 + 6 * q) = 1 ∨ z (16 + 6 * q) = 2 ∨ z (16 + 6 * q) = 3 by omega) with e | e | e
  · have e4 := e
    rw [e] at k ⊢
    refine br_t (by decide) (nr_f (by decide) (s_began h (by omega) (fun ν1 h1 => s_plain h1 lm hq (by omega) (fun ν2 h2 => s_markM h2 lm hq (by omega) (by omega) (fun ν3 h3 => nr_f (by decide) ?_)))))
    rw [e4] at h3 ⊢
    exact k ν3 h3
  · have e4 := e
    rw [e] at k ⊢
    refine br_t (by decide) (nr_t rfl (s_began h (by omega) (fun ν0 h0 => s_began h0 (by omega) (fun ν1 h1 => s_plain h1 lm hq (by omega) (fun ν2 h2 => s_markM h2 lm hq (by omega) (by omega) (fun ν3 h3 => nr_t rfl ?_))))))
    rw [e4] at h3 ⊢
    exact k ν3 h3
  · have e4 := e
    rw [e] at k ⊢
    refine br_t (by decide) (nr_f (by decide) (s_began h (by omega) (fun ν1 h1 => s_plain h1 lm hq (by omega) (fun ν2 h2 => s_markM h2 lm hq (by omega) (by omega) (fun ν3 h3 => nr_f (by decide) ?_)))))
    rw [e4] at h3 ⊢
    exact k ν3 h3
theorem Inv.x {μ ν ρ : Mm} {z : Nat → Nat} {q n : Nat} {t : Nat → Int32} (hI : Inv μ) (h : TC μ z q ν n t) (h2 : TM ν ρ n t) (hn : n ≤ 16) : Inv ρ := by
  obtain ⟨i1, i2, i3, i4, ⟨y, i5⟩, i6, i7, i8⟩ := hI
  obtain ⟨a1, -, -, -, -, a6, a7⟩ := h
  obtain ⟨b1, b2, b3, b4⟩ := h2
  have f : ∀ k, k ≠ 277 → k ≠ 278 → k ≠ 279 → k ≠ 290 → ρ k = μ k := fun k c1 c2 c3 c4 => by rw [b3 k c3 c4, a7 k c1 c2]
  have g : ∀ k, k ≠ 277 → k ≠ 278 → k ≠ 279 → k ≠ 290 → ∀ j, ρ k j = μ k j := fun k c1 c2 c3 c4 j => by rw [f k c1 c2 c3 c4]
  have s : ∀ j, ¬ j = 0 → ¬ j = 22 → ρ 279 j = μ 279 j := fun j c1 c2 => by rw [b4 j c1 c2, a7 279 (by decide) (by decide)]
  exact ⟨i1.fr (f _ (by omega) (by omega) (by omega) (by omega)) (f _ (by omega) (by omega) (by omega) (by omega)) (f _ (by omega) (by omega) (by omega) (by omega)) (f _ (by omega) (by omega) (by omega) (by omega)) (f _ (by omega) (by omega) (by omega) (by omega)) (f _ (by omega) (by omega) (by omega) (by omega)), i2.fr (f _ (by omega) (by omega) (by omega) (by omega)) (s _ (by decide) (by decide)), i3.fr (g _ (by omega) (by omega) (by omega) (by omega) _) (s _ (by decide) (by decide)) (f _ (by omega) (by omega) (by omega) (by omega)) (f _ (by omega) (by omega) (by omega) (by omega)), i4.fr (g _ (by omega) (by omega) (by omega) (by omega) _) (s _ (by decide) (by decide)), ⟨y, i5.fr (fun k a b => f k (by omega) (by omega) (by omega) (by omega)) (f _ (by omega) (by omega) (by omega) (by omega))⟩, i6.fr (f _ (by omega) (by omega) (by omega) (by omega)) (s _ (by decide) (by decide)) (fun k a b => f k (by omega) (by omega) (by omega) (by omega)) (f _ (by omega) (by omega) (by omega) (by omega)), i7.fr (fun k a b => f k (by omega) (by omega) (by omega) (by omega)) (f _ (by omega) (by omega) (by omega) (by omega)) (f _ (by omega) (by omega) (by omega) (by omega)), ⟨n, hn, by rw [b3 277 (by decide) (by decide)]; exact a1, b1, fun i hi => by rw [b3 278 (by decide) (by decide), a6 i hi, b2 i hi]⟩⟩
theorem op_ask {μ : Mm} {K : Int32 → Mm → Prop} {x y : Int32} (hI : Inv μ) (k : ∀ a μ1, Nx 182 [.ref 279, .int x, .int y] a μ1 → K a μ1) : cI (cM 30) 88 [.ref 0, .int x, .int y] μ K := by
  obtain ⟨z, hz⟩ := hI.2.2.2.2.1
  obtain ⟨vz, v9, lr, lm⟩ := hz
  have vz' := vz
  obtain ⟨v0, v1, v2, v3, v4, v5, v6, v7, v8⟩ := vz
  have r0 := lr.1
  have r3 := lr.2.2.2.1
  have r4 := lr.2.2.2.2.1
  have r5 := lr.2.2.2.2.2.1
  have r6 := lr.2.2.2.2.2.2.1
  have l0 := lm 0 (by decide)
  have l2 := lm 2 (by decide)
  have l3 := lm 3 (by decide)
  have l5 := lm 5 (by decide)
  refine e_X7_ask (s_isPerson r4 (by omega) (fun hx => br_f (by decide) ?_) (fun hx => br_t rfl (k _ _ (fun G g => e_X8_ask (s_isPersonM (μ := up μ 279 0 0) l3 (by omega) (fun h => absurd h hx) (fun _ => br_t rfl (g _ (Inv.q hI (fun k hk => by simp (disch := omega) only [up_eq, upc_n]) (fun j hj => by simp (disch := omega) only [up_eq, upc_s, upc_n, upd_n])))))))))
  refine s_out (a := 0) (b := 1) (by decide) (by decide) (fun hy => br_t rfl ?_) (fun hy => br_f (by decide) (k _ _ (fun G g => e_X8_ask (s_isPersonM (μ := up μ 279 0 0) l3 (by omega) (fun _ => br_f (by decide) (s_in (a := 0) (b := 1) (by decide) (by decide) rfl rfl (fun h => absurd h hy) (fun _ => nr_t rfl (g _ (Inv.q hI (fun k hk => by simp (disch := omega) only [up_eq, upc_n]) (fun j hj => by simp (disch := omega) only [up_eq, upc_s, upc_n, upd_n])))))) (fun h => absurd hx h)))))
  have hy' := hy
  obtain ⟨q, hq, rfl⟩ := hx
  obtain ⟨c, -, hc, rfl⟩ := hy
  obtain ⟨q0, q1, q2, q3, q4, q5⟩ := lr.2.2.2.2.2.2.2.2 q hq
  have w := (v8 q hq).1
  have vp : vp_in (nI q) 7 := vp_in_nI (by omega) (by decide)
  refine e_X1_begin ⟨vp, vp, vp, ?_⟩
  rw [nI_clamp (by omega)]
  have tc : TC μ z q (up (up (up (up (up μ 277 1 0) 277 2 (nI q)) 277 3 (μ 19 q)) 277 4 (μ 20 q)) 277 5 (μ 21 q)) 0 (fun _ => 0) := ⟨rfl, rfl, q0, q1, q2, fun i hi => absurd hi (by omega), fun a ha hb => by simp (disch := omega) only [up_eq, upc_n]⟩
  generalize (up (up (up (up (up μ 277 1 0) 277 2 (nI q)) 277 3 (μ 19 q)) 277 4 (μ 20 q)) 277 5 (μ 21 q)) = ν0 at tc ⊢
  have mod : ∀ (ν : Mm) (m : Nat) (t : Nat → Int32) (b : Int32), TC μ z q ν m t → m ≤ 16 → (∀ (G : Int32 → Mm → Prop) (σ : Mm), TM ν σ 0 (fun _ => 0) → LM (ν 283) z → (∀ ρ, TM ν ρ m t → G b ρ) → ((¬ nI c = 0 → (cI (cM 29) 180 [.ref 279, .int (nI q)] σ G)) ∧ (nI c = 0 → (cI (cM 29) 181 [.ref 279, .int (nI q)] σ G)))) → K b ν := by
    intro ν m t b h hm hh
    have f3 : ν 283 = μ 283 := h.2.2.2.2.2.2 283 (by decide) (by decide)
    have lmν : LM (ν 283) z := by rw [f3]; exact lm
    refine k _ _ (fun G g => e_X8_ask (s_isPersonM (n := z 3) (by show ν 283 3 = _; rw [f3]; exact l3) (by omega) (fun _ => br_f (by decide) (s_in (a := 0) (b := 1) (by decide) (by decide) rfl rfl (fun _ => nr_f (by decide) ?_) (fun h => absurd hy' h))) (fun h => absurd ⟨q, hq, rfl⟩ h)))
    refine hh G _ ⟨rfl, fun i hi => absurd hi (by omega), fun a ha hb => by simp (disch := omega) only [up_eq, upc_n], fun j h0 h22 => ?_⟩ lmν (fun ρ hρ => g ρ (Inv.x hI h hρ hm))
    rw [up_eq, upc_s, upd_n _ _ h22, up_eq, upc_s, upd_n _ _ h0]
  have ml5 : ∀ s, (mL s).length ≤ 5 := by
    intro s
    unfold mL
    split
    · decide
    split
    · decide
    split
    · decide
    split <;> decide
  have gl3 : ∀ s, (gL s).length ≤ 3 := by
    intro s
    unfold gL
    split
    · decide
    split <;> decide
  have zl3 : ∀ s, (zL s).length ≤ 3 := by
    intro s
    unfold zL
    split <;> decide
  have m5 := ml5 (z (16 + 6 * q))
  have g3 := gl3 (z (16 + 6 * q))
  have z3 := zl3 (z (16 + 6 * q))
  rcases (show c = 0 ∨ c = 1 by omega) with rfl | rfl
  · refine nr_t rfl ?_
    by_cases s3 : z (16 + 6 * q) ≤ 3
    · refine s_sizeC tc ⟨w.1, s3⟩ (by omega) (fun ν h => mod ν _ _ _ h (by omega) (fun G σ hσ lmν gg => nr_t rfl (s_sizeM hσ lmν (by omega) ⟨w.1, s3⟩ (by omega) gg)))
    · refine s_sizeC2 tc (by omega) (by omega) (fun ν h => mod ν _ _ _ h (by omega) (fun G σ hσ lmν gg => nr_t rfl (e_X8_sizeOf (s_kindOf (c := 0) hσ lmν (by omega) (by decide) ?_))))
      rw [show 16 + 6 * q + 0 = 16 + 6 * q by omega]
      exact br_f (by rw [show (4 : Int32) = nI 4 from rfl, nI_ltI (by omega) (by omega)]; omega) (s_stayM hσ lmν (by omega) (by omega) (by omega) gg)
  · refine nr_f (by decide) (s_markC tc w (by omega) (fun ν h => mod ν _ _ _ h (by omega) (fun G σ hσ lmν gg => nr_f (by decide) (s_markM hσ lmν (by omega) w (by omega) gg))))
