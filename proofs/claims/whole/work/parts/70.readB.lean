/-! ===== land: the class reads law, thing, person ===== -/
theorem CPo.f {K : Int32 → Mm → Prop} {μ ν' : Mm} {b : Nat → Nat} {N e p : Nat} {z : Nat → Nat} (h : CPo K μ b N (e, p, z)) (he : ¬ e = 0) (hf : FCf μ ν' e p) : K 0 ν' := h.2 he ν' hf
theorem CPo.s {K : Int32 → Mm → Prop} {μ ν' : Mm} {b : Nat → Nat} {N p : Nat} {z : Nat → Nat} (h : CPo K μ b N (0, p, z)) (hc : CS b N ν' p) (hl : LR ν' 7 z) (hf : FCs μ ν') : K 1 ν' := h.1 rfl ν' hc hl hf
theorem c_law {d : Nat} {ν : Mm} {K : Int32 → Mm → Prop} {b : Nat → Nat} {N : Nat} (hN : N ≤ 100) (hb : ∀ i, i < N → b i < 256) (h : CS b N ν 0) (k : CPo K ν b N (pLaw b N)) : cI (cM (d + 5)) 32 [.ref 5] ν K := by
  unfold pLaw sg nm at k
  refine e_X5_readLaw ?_
  generalize hν0 : (up (up (up (up (up ν 7 2 0) 7 3 0) 7 4 0) 7 5 0) 7 6 0) = ν0
  have a0 : ∀ a, a ≠ 7 → ν0 a = ν a := fun a ha => by rw [← hν0, up_eq, upc_n _ _ ha, up_eq, upc_n _ _ ha, up_eq, upc_n _ _ ha, up_eq, upc_n _ _ ha, up_eq, upc_n _ _ ha]
  have a7 : ν0 7 = upd (upd (upd (upd (upd (ν 7) 2 0) 3 0) 4 0) 5 0) 6 0 := by rw [← hν0]; rfl
  refine c_sign (c := 110) hN hb (h.fr (a0 5 (by decide)) (a0 6 (by decide))) (by decide) (by decide) (fun q1 ν1 s1 f1 g1 => br_f (by decide) ?_) (fun q1 ν1 f1 g1 g1' => br_t rfl ⟨Or.inl rfl, ?_⟩)
  rotate_left
  · rw [if_neg q1] at k
    exact k.f (by decide) ⟨fun a h1 h2 => by rw [f1 a h1, a0 a (by omega)], g1, g1'⟩
  rw [if_pos q1] at k
  refine c_num (lo := 2) (hi := 16) (p := nj b N 1 0) hN hb s1 (by decide) (by decide) (fun q2 q3 ν2 s2 f2 g2 v2 => nr_f (by decide) ?_) (fun q2 q3 ν2 f2 g2 g2' => nr_t rfl ⟨Or.inl rfl, ?_⟩) (fun q2 ν2 f2 g2 g2' => nr_t rfl ⟨Or.inl rfl, ?_⟩)
  rotate_left
  · rw [if_pos q2, if_neg q3] at k
    exact k.f (by decide) ⟨fun a h1 h2 => by rw [f2 a h1, f1 a h1, a0 a (by omega)], g2, g2'⟩
  · rw [if_neg q2] at k
    exact k.f (by decide) ⟨fun a h1 h2 => by rw [f2 a h1, f1 a h1, a0 a (by omega)], g2, g2'⟩
  rw [if_pos q2, if_pos q3] at k
  rw [v2]
  refine c_sign (c := 44) (p := nj b N 2 0) hN hb (CS.fr s2 rfl rfl) (by decide) (by decide) (fun q4 ν3 s3 f3 g3 => br_f (by decide) ?_) (fun q4 ν3 f3 g3 g3' => br_t rfl ⟨Or.inl rfl, ?_⟩)
  rotate_left
  · rw [if_neg q4] at k
    exact k.f (by decide) ⟨fun a h1 h2 => by rw [f3 a h1, up_eq, upc_n _ _ (by omega), f2 a h1, f1 a h1, a0 a (by omega)], g3, g3'⟩
  rw [if_pos q4] at k
  refine c_num (lo := 0) (hi := 9) (p := nj b N 3 0) hN hb s3 (by decide) (by decide) (fun q5 q6 ν4 s4 f4 g4 v4 => nr_f (by decide) ?_) (fun q5 q6 ν4 f4 g4 g4' => nr_t rfl ⟨Or.inl rfl, ?_⟩) (fun q5 ν4 f4 g4 g4' => nr_t rfl ⟨Or.inl rfl, ?_⟩)
  rotate_left
  · rw [if_pos q5, if_neg q6] at k
    exact k.f (by decide) ⟨fun a h1 h2 => by rw [f4 a h1, f3 a h1, up_eq, upc_n _ _ (by omega), f2 a h1, f1 a h1, a0 a (by omega)], g4, g4'⟩
  · rw [if_neg q5] at k
    exact k.f (by decide) ⟨fun a h1 h2 => by rw [f4 a h1, f3 a h1, up_eq, upc_n _ _ (by omega), f2 a h1, f1 a h1, a0 a (by omega)], g4, g4'⟩
  rw [if_pos q5, if_pos q6] at k
  rw [v4]
  have w4 : ν4 7 = upd (ν0 7) 0 (nI (vl b N (nj b N 1 0))) := by rw [f4 7 (by decide), f3 7 (by decide), up_eq, upc_s, f2 7 (by decide), f1 7 (by decide)]
  refine c_sign (c := 59) (p := nj b N 4 0) hN hb (CS.fr s4 rfl rfl) (by decide) (by decide) (fun q7 ν5 s5 f5 g5 => ⟨Or.inr rfl, ?_⟩) (fun q7 ν5 f5 g5 g5' => ⟨Or.inl rfl, ?_⟩)
  · rw [if_pos q7] at k
    have w5 : ν5 7 = upd (upd (ν0 7) 0 (nI (vl b N (nj b N 1 0)))) 1 (nI (vl b N (nj b N 3 0))) := by rw [f5 7 (by decide), up_eq, upc_s, w4]
    refine k.s s5 ?_ ⟨fun a h1 h2 => by rw [f5 a h1, up_eq, upc_n _ _ (by omega), f4 a h1, f3 a h1, up_eq, upc_n _ _ (by omega), f2 a h1, f1 a h1, a0 a (by omega)], ?_⟩
    · unfold LR
      rw [w5, a7]
      exact ⟨rfl, rfl, rfl, rfl, rfl, rfl, rfl, fun t ht => absurd ht (Nat.not_lt_zero t), fun q hq => absurd hq (Nat.not_lt_zero q)⟩
    · rw [g5, show (up ν4 7 1 (nI (vl b N (nj b N 3 0)))) 5 3 = ν4 5 3 from rfl, g4, g3, show (up ν2 7 0 (nI (vl b N (nj b N 1 0)))) 5 3 = ν2 5 3 from rfl, g2, g1, a0 5 (by decide)]
  · rw [if_neg q7] at k
    exact k.f (by decide) ⟨fun a h1 h2 => by rw [f5 a h1, up_eq, upc_n _ _ (by omega), f4 a h1, f3 a h1, up_eq, upc_n _ _ (by omega), f2 a h1, f1 a h1, a0 a (by omega)], g5, g5'⟩
theorem LR_addT {ν ν' : Mm} {z : Nat → Nat} {v g : Nat} (h : LR ν 7 z) (h5 : z 2 < 5) (h3 : z 3 ≤ 7) (a7 : ν' 7 = upd (ν 7) 3 (nI (z 2 + 1))) (a8 : ν' 8 = upd (ν 8) (z 2) (nI v)) (a9 : ν' 9 = upd (ν 9) (z 2) (nI g)) (ar : ∀ a, 10 ≤ a → a ≤ 15 → ν' a = ν a) : LR ν' 7 (un (un (un z (6 + 2 * z 2) v) (7 + 2 * z 2) g) 2 (z 2 + 1)) := by
  obtain ⟨r0, r1, r2, r3, r4, r5, r6, r7, r8⟩ := h
  have e : ∀ i, i ≠ 2 → i ≠ 6 + 2 * z 2 → i ≠ 7 + 2 * z 2 → un (un (un z (6 + 2 * z 2) v) (7 + 2 * z 2) g) 2 (z 2 + 1) i = z i := fun i h1 h2 h3 => by rw [un_n _ _ h1, un_n _ _ h3, un_n _ _ h2]
  have lv : lvz (un (un (un z (6 + 2 * z 2) v) (7 + 2 * z 2) g) 2 (z 2 + 1)) (z 3) = lvz z (z 3) := lvz_cg _ (fun a _ => e _ (by omega) (by omega) (by omega))
  unfold LR
  rw [e 0 (by decide) (by omega) (by omega), e 1 (by decide) (by omega) (by omega), e 3 (by decide) (by omega) (by omega), e 4 (by decide) (by omega) (by omega), e 5 (by decide) (by omega) (by omega), un_s, lv, a7, show ν' (7 + 1) = _ from a8, show ν' (7 + 2) = _ from a9, ar (7 + 3) (by decide) (by decide), ar (7 + 4) (by decide) (by decide), ar (7 + 5) (by decide) (by decide), ar (7 + 6) (by decide) (by decide), ar (7 + 7) (by decide) (by decide), ar (7 + 8) (by decide) (by decide)]
  refine ⟨r0, r1, r2, rfl, r4, r5, r6, fun t ht => ?_, fun q hq => ?_⟩
  · by_cases et : t = z 2
    · subst et
      rw [upd_s, upd_s, un_n (j := 6 + 2 * z 2) _ _ (by omega), un_n (j := 6 + 2 * z 2) _ _ (by omega), un_s, un_n (j := 7 + 2 * z 2) _ _ (by omega), un_s]
      exact ⟨rfl, rfl⟩
    · rw [upd_n _ _ et, upd_n _ _ et, e _ (by omega) (by omega) (by omega), e _ (by omega) (by omega) (by omega)]
      exact r7 t (by omega)
  · rw [e _ (by omega) (by omega) (by omega), e _ (by omega) (by omega) (by omega), e _ (by omega) (by omega) (by omega), e _ (by omega) (by omega) (by omega), e _ (by omega) (by omega) (by omega), e _ (by omega) (by omega) (by omega)]
    exact r8 q hq
theorem c_thing {d : Nat} {ν : Mm} {K : Int32 → Mm → Prop} {b : Nat → Nat} {N p : Nat} {z : Nat → Nat} (hN : N ≤ 100) (hb : ∀ i, i < N → b i < 256) (h : CS b N ν p) (lr : LR ν 7 z) (vz : VZ z) (k : CPo K ν b N (pThing b N p z)) : cI (cM (d + 5)) 33 [.ref 5] ν K := by
  unfold pThing sg nm at k
  obtain ⟨⟨z0, z0'⟩, z1, z2, z3, -⟩ := vz
  have r0 := lr.1
  have r3 := lr.2.2.2.1
  have tl := tk_le (p := p) hb
  refine e_X5_readThing ?_
  rw [h.2.2.2.2.1, r3, nI_clamp (by omega), n_suc, show (nI (tk b N p) = 116) = (tk b N p = 116) from propext (nI_eq (b := 116) (by omega) (by decide)), show (nI (z 2) < 5) = (z 2 < 5) from propext (nI_ltI (b := 5) (by omega) (by decide))]
  refine br_c (fun q0 => br_c (fun q1 => ?_) (fun q1 => c_blame (k := 3) h (fun ν' f g g' => ⟨Or.inl rfl, ?_⟩))) (fun q0 => c_blame (k := 1) h (fun ν' f g g' => ⟨Or.inl rfl, ?_⟩))
  rotate_left
  · rw [if_pos q0, if_pos (by omega)] at k
    exact k.f (by decide) ⟨fun a h1 h2 => f a h1, g, g'⟩
  · rw [if_neg q0] at k
    exact k.f (by decide) ⟨fun a h1 h2 => f a h1, g, g'⟩
  rw [if_pos q0, if_neg (by omega)] at k
  refine c_sign (c := 116) hN hb h (by decide) (by decide) (fun _ ν1 s1 f1 g1 => br_f (by decide) ?_) (fun e => absurd q0 e)
  rw [show ν1 7 0 = nI (z 0) by rw [f1 7 (by decide)]; exact r0, show nI (z 0) - 1 = nI (z 0 - 1) from sub_n (b := 1) (by omega)]
  refine c_num (lo := 0) (hi := z 0 - 1) (p := nj b N 1 p) hN hb s1 (by decide) (by omega) (fun q2 q3 ν2 s2 f2 g2 v2 => nr_f (by decide) ⟨vp_in_nI (by omega) (by decide), ?_⟩) (fun q2 q3 ν2 f2 g2 g2' => nr_t rfl ⟨Or.inl rfl, ?_⟩) (fun q2 ν2 f2 g2 g2' => nr_t rfl ⟨Or.inl rfl, ?_⟩)
  rotate_left
  · rw [if_pos q2, if_neg q3] at k
    exact k.f (by decide) ⟨fun a h1 h2 => by rw [f2 a h1, f1 a h1], g2, g2'⟩
  · rw [if_neg q2] at k
    exact k.f (by decide) ⟨fun a h1 h2 => by rw [f2 a h1, f1 a h1], g2, g2'⟩
  rw [if_pos q2, if_pos q3] at k
  rw [v2]
  refine c_sign (c := 44) (p := nj b N 2 p) hN hb (CS.fr s2 rfl rfl) (by decide) (by decide) (fun q4 ν3 s3 f3 g3 => br_f (by decide) ?_) (fun q4 ν3 f3 g3 g3' => br_t rfl ⟨Or.inl rfl, ?_⟩)
  rotate_left
  · rw [if_neg q4] at k
    exact k.f (by decide) ⟨fun a h1 h2 => by rw [f3 a h1, up_eq, upc_n _ _ (by omega), f2 a h1, f1 a h1], g3, g3'⟩
  rw [if_pos q4] at k
  refine c_num (lo := 0) (hi := 15) (p := nj b N 3 p) hN hb s3 (by decide) (by decide) (fun q5 q6 ν4 s4 f4 g4 v4 => nr_f (by decide) ⟨vp_in_nI (by omega) (by decide), ?_⟩) (fun q5 q6 ν4 f4 g4 g4' => nr_t rfl ⟨Or.inl rfl, ?_⟩) (fun q5 ν4 f4 g4 g4' => nr_t rfl ⟨Or.inl rfl, ?_⟩)
  rotate_left
  · rw [if_pos q5, if_neg q6] at k
    exact k.f (by decide) ⟨fun a h1 h2 => by rw [f4 a h1, f3 a h1, up_eq, upc_n _ _ (by omega), f2 a h1, f1 a h1], g4, g4'⟩
  · rw [if_neg q5] at k
    exact k.f (by decide) ⟨fun a h1 h2 => by rw [f4 a h1, f3 a h1, up_eq, upc_n _ _ (by omega), f2 a h1, f1 a h1], g4, g4'⟩
  rw [if_pos q5, if_pos q6] at k
  rw [v4]
  have w4 : ∀ a, a ≠ 5 → a ≠ 8 → ν4 a = ν a := fun a h1 h2 => by rw [f4 a h1, f3 a h1, up_eq, upc_n _ _ h2, f2 a h1, f1 a h1]
  have w48 : ν4 8 = upd (ν 8) (z 2) (nI (vl b N (nj b N 1 p))) := by rw [f4 8 (by decide), f3 8 (by decide), up_eq, upc_s, f2 8 (by decide), f1 8 (by decide)]
  have g4' : ν4 5 3 = ν 5 3 := by rw [g4, g3, show (up ν2 8 (z 2) (nI (vl b N (nj b N 1 p)))) 5 3 = ν2 5 3 from rfl, g2, g1]
  refine c_sign (c := 59) (p := nj b N 4 p) hN hb (CS.fr s4 rfl rfl) (by decide) (by decide) (fun q7 ν5 s5 f5 g5 => ⟨Or.inr rfl, ?_⟩) (fun q7 ν5 f5 g5 g5' => ⟨Or.inl rfl, ?_⟩)
  · rw [if_pos q7] at k
    refine k.s s5 (LR_addT lr q1 z3 ?_ ?_ ?_ (fun a h1 h2 => ?_)) ⟨fun a h1 h2 => ?_, ?_⟩
    · rw [f5 7 (by decide), up_eq, upc_s, up_eq, upc_n _ _ (by decide), w4 7 (by decide) (by decide)]
    · rw [f5 8 (by decide), up_eq, upc_n _ _ (by decide), up_eq, upc_n _ _ (by decide), w48]
    · rw [f5 9 (by decide), up_eq, upc_n _ _ (by decide), up_eq, upc_s, w4 9 (by decide) (by decide)]
    · rw [f5 a (by omega), up_eq, upc_n _ _ (by omega), up_eq, upc_n _ _ (by omega), w4 a (by omega) (by omega)]
    · rw [f5 a h1, up_eq, upc_n _ _ (by omega), up_eq, upc_n _ _ (by omega), w4 a h1 (by omega)]
    · rw [g5]
      exact g4'
  · rw [if_neg q7] at k
    exact k.f (by decide) ⟨fun a h1 h2 => by rw [f5 a h1, up_eq, upc_n _ _ (by omega), up_eq, upc_n _ _ (by omega), w4 a h1 (by omega)], g5, g5'⟩
theorem LR_addP {ν ν' : Mm} {z : Nat → Nat} {s v w x : Nat} (h : LR ν 7 z) (h2 : z 2 ≤ 5) (h3 : z 3 < 7) (h0 : z (20 + 6 * z 3) = 0 ∧ z (21 + 6 * z 3) = 0) (a7 : ν' 7 = upd (upd (ν 7) 6 (ν 7 6 ||| (1 <<< (nI (z 3) &&& 31)))) 4 (nI (z 3 + 1))) (a10 : ν' 10 = upd (ν 10) (z 3) (nI s)) (a11 : ν' 11 = upd (ν 11) (z 3) (nI v)) (a12 : ν' 12 = upd (ν 12) (z 3) (nI w)) (a13 : ν' 13 = upd (ν 13) (z 3) (nI x)) (a14 : ν' 14 = upd (ν 14) (z 3) 0) (a15 : ν' 15 = upd (ν 15) (z 3) (-1000000)) (a8 : ν' 8 = ν 8) (a9 : ν' 9 = ν 9) :
    LR ν' 7 (un (un (un (un (un z (16 + 6 * z 3) s) (17 + 6 * z 3) v) (18 + 6 * z 3) w) (19 + 6 * z 3) x) 3 (z 3 + 1)) := by
  obtain ⟨r0, r1, r2, r3, r4, r5, r6, r7, r8⟩ := h
  generalize hy : un (un (un (un (un z (16 + 6 * z 3) s) (17 + 6 * z 3) v) (18 + 6 * z 3) w) (19 + 6 * z 3) x) 3 (z 3 + 1) = y
  have e : ∀ i, i ≠ 3 → (i < 16 + 6 * z 3 ∨ 20 + 6 * z 3 ≤ i) → y i = z i := fun i h1 h2 => by rw [← hy, un_n _ _ h1, un_n _ _ (by omega), un_n _ _ (by omega), un_n _ _ (by omega), un_n _ _ (by omega)]
  have y3 : y 3 = z 3 + 1 := by rw [← hy, un_s]
  have y16 : y (16 + 6 * z 3) = s := by rw [← hy, un_n _ _ (by omega), un_n _ _ (by omega), un_n _ _ (by omega), un_n _ _ (by omega), un_s]
  have y17 : y (17 + 6 * z 3) = v := by rw [← hy, un_n _ _ (by omega), un_n _ _ (by omega), un_n _ _ (by omega), un_s]
  have y18 : y (18 + 6 * z 3) = w := by rw [← hy, un_n _ _ (by omega), un_n _ _ (by omega), un_s]
  have y19 : y (19 + 6 * z 3) = x := by rw [← hy, un_n _ _ (by omega), un_s]
  have ly : lvz y (z 3 + 1) = lvz z (z 3) + 2 ^ z 3 := by
    show lvz y (z 3) + (if y (21 + 6 * z 3) = 0 then 2 ^ z 3 else 0) = _
    rw [lvz_cg (z := y) (y := z) (z 3) (fun a ha => e _ (by omega) (by omega)), e (21 + 6 * z 3) (by omega) (by omega), if_pos h0.2]
  have lt := lvz_lt z (z 3)
  have lo : ν 7 6 ||| (1 <<< (nI (z 3) &&& 31)) = nI (lvz y (z 3 + 1)) := by
    rw [r6, show (1 : Int32) <<< (nI (z 3) &&& 31) = nI (2 ^ z 3) from sh_1 (by omega), nI_or, or_2 lt, ly]
  rw [lo] at a7
  unfold LR
  rw [e 0 (by decide) (by omega), e 1 (by decide) (by omega), e 2 (by decide) (by omega), e 4 (by decide) (by omega), e 5 (by decide) (by omega), y3, a7, show ν' (7 + 1) = _ from a8, show ν' (7 + 2) = _ from a9, show ν' (7 + 3) = _ from a10, show ν' (7 + 4) = _ from a11, show ν' (7 + 5) = _ from a12, show ν' (7 + 6) = _ from a13, show ν' (7 + 7) = _ from a14, show ν' (7 + 8) = _ from a15]
  refine ⟨r0, r1, r2, r3, rfl, r5, rfl, fun t ht => ?_, fun q hq => ?_⟩
  · rw [e _ (by omega) (by omega), e _ (by omega) (by omega)]
    exact r7 t ht
  · by_cases eq : q = z 3
    · subst eq
      rw [upd_s, upd_s, upd_s, upd_s, upd_s, upd_s, y16, y17, y18, y19, e (20 + 6 * z 3) (by omega) (by omega), e (21 + 6 * z 3) (by omega) (by omega), h0.1, h0.2]
      exact ⟨rfl, rfl, rfl, rfl, rfl, rfl⟩
    · rw [upd_n _ _ eq, upd_n _ _ eq, upd_n _ _ eq, upd_n _ _ eq, upd_n _ _ eq, upd_n _ _ eq, e _ (by omega) (by omega), e _ (by omega) (by omega), e _ (by omega) (by omega), e _ (by omega) (by omega), e _ (by omega) (by omega), e _ (by omega) (by omega)]
      exact r8 q (by omega)
theorem s_sortOf {d : Nat} {μ : Mm} {K : Int32 → Mm → Prop} {t : Nat} (ht : t < 256) (k : K (nI (srt t)) μ) : cI (cM (d + 1)) 35 [.ref 5, .int (nI t)] μ K := by
  unfold srt at k
  have q : ∀ c, c < 256 → ((nI t = nI c) = (t = c)) := fun c hc => propext (nI_eq (by omega) (by omega))
  refine e_X5_sortOf ?_
  rw [show (nI t = 98) = (t = 98) from q 98 (by decide), show (nI t = 107) = (t = 107) from q 107 (by decide), show (nI t = 114) = (t = 114) from q 114 (by decide), show (nI t = 115) = (t = 115) from q 115 (by decide), show (nI t = 119) = (t = 119) from q 119 (by decide)]
  refine br_c (fun c => ?_) (fun c1 => br_c (fun c => ?_) (fun c2 => br_c (fun c => ?_) (fun c3 => br_c (fun c => ?_) (fun c4 => br_c (fun c => ?_) (fun c5 => ?_)))))
  · rw [if_neg (by omega), if_neg (by omega), if_pos c] at k
    exact k
  · rw [if_neg (by omega), if_pos c] at k
    exact k
  · rw [if_neg (by omega), if_neg (by omega), if_neg (by omega), if_neg (by omega), if_pos c] at k
    exact k
  · rw [if_neg (by omega), if_neg (by omega), if_neg (by omega), if_pos c] at k
    exact k
  · rw [if_pos c] at k
    exact k
  · rw [if_neg c5, if_neg c2, if_neg c1, if_neg c4, if_neg c3] at k
    exact k
