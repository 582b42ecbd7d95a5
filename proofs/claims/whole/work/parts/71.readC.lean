/-! ===== land: the class reads a person; the whole tape ===== -/
theorem c_person {d : Nat} {ν : Mm} {K : Int32 → Mm → Prop} {b : Nat → Nat} {N p : Nat} {z : Nat → Nat} (hN : N ≤ 100) (hb : ∀ i, i < N → b i < 256) (h : CS b N ν p) (lr : LR ν 7 z) (vz : VZ z) (h21 : 1 ≤ z 2) (k : CPo K ν b N (pPerson b N p z)) : cI (cM (d + 5)) 34 [.ref 5] ν K := by
  unfold pPerson sg nm at k
  obtain ⟨⟨z0, z0'⟩, z1, z2, z3, z4, z5, -, -, zz⟩ := vz
  have r0 := lr.1
  have r3 := lr.2.2.2.1
  have r4 := lr.2.2.2.2.1
  have tl := tk_le (p := p) hb
  have sl := srt_le (tk b N p)
  refine e_X5_readPerson ?_
  rw [h.2.2.2.2.1, r4, nI_clamp (by omega), n_suc, show (nI (z 3) < 7) = (z 3 < 7) from propext (nI_ltI (b := 7) (by omega) (by decide))]
  refine s_sortOf tl ?_
  rw [show (nI (srt (tk b N p)) = 0) = (srt (tk b N p) = 0) from propext (nI_eq (b := 0) (by omega) (by decide)), h.2.2.2.2.1]
  refine nr_c (fun q0 => br_c (fun q1 => ?_) (fun q1 => c_blame (k := 3) h (fun ν' f g g' => ⟨Or.inl rfl, ?_⟩))) (fun q0 => c_blame (k := 1) h (fun ν' f g g' => ⟨Or.inl rfl, ?_⟩))
  rotate_left
  · rw [if_neg q0, if_pos (by omega)] at k
    exact k.f (by decide) ⟨fun a h1 h2 => f a h1, g, g'⟩
  · rw [if_pos q0] at k
    exact k.f (by decide) ⟨fun a h1 h2 => f a h1, g, g'⟩
  rw [if_neg q0, if_neg (by omega)] at k
  have t2 : tk b N p ≠ 2 := fun e => q0 (by rw [e]; rfl)
  refine c_sign (c := tk b N p) hN hb h t2 tl (fun _ ν1 s1 f1 g1 => br_f (by decide) ?_) (fun e => absurd rfl e)
  rw [show ν1 7 3 = nI (z 2) by rw [f1 7 (by decide)]; exact r3, show nI (z 2) - 1 = nI (z 2 - 1) from sub_n (b := 1) (by omega)]
  refine c_num (lo := 0) (hi := z 2 - 1) (p := nj b N 1 p) hN hb s1 (by decide) (by omega) (fun q2 q3 ν2 s2 f2 g2 v2 => nr_f (by decide) ⟨vp_in_nI (by omega) (by decide), ?_⟩) (fun q2 q3 ν2 f2 g2 g2' => nr_t rfl ⟨Or.inl rfl, ?_⟩) (fun q2 ν2 f2 g2 g2' => nr_t rfl ⟨Or.inl rfl, ?_⟩)
  rotate_left
  · rw [if_pos q2, if_neg q3] at k
    exact k.f (by decide) ⟨fun a h1 h2 => by rw [f2 a h1, f1 a h1], g2, g2'⟩
  · rw [if_neg q2] at k
    exact k.f (by decide) ⟨fun a h1 h2 => by rw [f2 a h1, f1 a h1], g2, g2'⟩
  rw [if_pos q2, if_pos q3] at k
  rw [v2]
  refine c_sign (c := 44) (p := nj b N 2 p) hN hb (CS.fr s2 rfl rfl) (by decide) (by decide) (fun q4 ν3 s3 f3 g3 => br_f (by decide) ?_) (fun q4 ν3 f3 g3 g3' => br_t rfl ⟨Or.inl rfl, ?_⟩)
  rotate_left
  · rw [if_neg q4] at k
    exact k.f (by decide) ⟨fun a h1 h2 => by rw [f3 a h1, up_eq, upc_n _ _ (by omega), f2 a h1, f1 a h1], g3, g3'⟩
  rw [if_pos q4] at k
  have w3 : ∀ a, a ≠ 5 → a ≠ 11 → ν3 a = ν a := fun a h1 h2 => by rw [f3 a h1, up_eq, upc_n _ _ h2, f2 a h1, f1 a h1]
  have w3n : ν3 11 = upd (ν 11) (z 3) (nI (vl b N (nj b N 1 p))) := by rw [f3 11 (by decide), up_eq, upc_s, f2 11 (by decide), f1 11 (by decide)]
  have g3e : ν3 5 3 = ν 5 3 := by rw [g3, show (up ν2 11 (z 3) (nI (vl b N (nj b N 1 p)))) 5 3 = ν2 5 3 from rfl, g2, g1]
  rw [show ν3 7 0 = nI (z 0) by rw [w3 7 (by decide) (by decide)]; exact r0, show nI (z 0) - 1 = nI (z 0 - 1) from sub_n (b := 1) (by omega)]
  refine c_num (lo := 0) (hi := z 0 - 1) (p := nj b N 3 p) hN hb s3 (by decide) (by omega) (fun q5 q6 ν4 s4 f4 g4 v4 => nr_f (by decide) ⟨vp_in_nI (by omega) (by decide), ?_⟩) (fun q5 q6 ν4 f4 g4 g4' => nr_t rfl ⟨Or.inl rfl, ?_⟩) (fun q5 ν4 f4 g4 g4' => nr_t rfl ⟨Or.inl rfl, ?_⟩)
  rotate_left
  · rw [if_pos q5, if_neg q6] at k
    exact k.f (by decide) ⟨fun a h1 h2 => by rw [f4 a h1, w3 a h1 (by omega)], g4, g4'⟩
  · rw [if_neg q5] at k
    exact k.f (by decide) ⟨fun a h1 h2 => by rw [f4 a h1, w3 a h1 (by omega)], g4, g4'⟩
  rw [if_pos q5, if_pos q6] at k
  rw [v4]
  refine c_sign (c := 44) (p := nj b N 4 p) hN hb (CS.fr s4 rfl rfl) (by decide) (by decide) (fun q7 ν5 s5 f5 g5 => br_f (by decide) ?_) (fun q7 ν5 f5 g5 g5' => br_t rfl ⟨Or.inl rfl, ?_⟩)
  rotate_left
  · rw [if_neg q7] at k
    exact k.f (by decide) ⟨fun a h1 h2 => by rw [f5 a h1, up_eq, upc_n _ _ (by omega), f4 a h1, w3 a h1 (by omega)], g5, g5'⟩
  rw [if_pos q7] at k
  have w5 : ∀ a, a ≠ 5 → a ≠ 11 → a ≠ 12 → ν5 a = ν a := fun a h1 h2 h3 => by rw [f5 a h1, up_eq, upc_n _ _ h3, f4 a h1, w3 a h1 h2]
  have w5n : ν5 11 = upd (ν 11) (z 3) (nI (vl b N (nj b N 1 p))) := by rw [f5 11 (by decide), up_eq, upc_n _ _ (by decide), f4 11 (by decide), w3n]
  have w5p : ν5 12 = upd (ν 12) (z 3) (nI (vl b N (nj b N 3 p))) := by rw [f5 12 (by decide), up_eq, upc_s, f4 12 (by decide), w3 12 (by decide) (by decide)]
  have g5e : ν5 5 3 = ν 5 3 := by rw [g5, show (up ν4 12 (z 3) (nI (vl b N (nj b N 3 p)))) 5 3 = ν4 5 3 from rfl, g4, g3e]
  refine c_num (lo := 0) (hi := 9) (p := nj b N 5 p) hN hb s5 (by decide) (by decide) (fun q8 q9 ν6 s6 f6 g6 v6 => nr_f (by decide) ⟨vp_in_nI (by omega) (by decide), vp_in_nI (by omega) (by decide), vp_in_nI (by omega) (by decide), vp_in_nI (by omega) (by decide), ?_⟩) (fun q8 q9 ν6 f6 g6 g6' => nr_t rfl ⟨Or.inl rfl, ?_⟩) (fun q8 ν6 f6 g6 g6' => nr_t rfl ⟨Or.inl rfl, ?_⟩)
  rotate_left
  · rw [if_pos q8, if_neg q9] at k
    exact k.f (by decide) ⟨fun a h1 h2 => by rw [f6 a h1, w5 a h1 (by omega) (by omega)], g6, g6'⟩
  · rw [if_neg q8] at k
    exact k.f (by decide) ⟨fun a h1 h2 => by rw [f6 a h1, w5 a h1 (by omega) (by omega)], g6, g6'⟩
  rw [if_pos q8, if_pos q9] at k
  rw [v6]
  generalize hρ : (up (up (up (up (up (up ν6 13 (z 3) (nI (vl b N (nj b N 5 p)))) 10 (z 3) (nI (srt (tk b N p)))) 14 (z 3) 0) 15 (z 3) (-1000000)) 7 6 ((ν6 7 6) ||| (1 <<< ((nI (z 3)) &&& 31)))) 7 4 (nI (z 3 + 1))) = ρ
  have o : ∀ a, a ≠ 7 → a ≠ 10 → a ≠ 13 → a ≠ 14 → a ≠ 15 → ρ a = ν6 a := fun a h1 h2 h3 h4 h5 => by rw [← hρ, up_eq, upc_n _ _ h1, up_eq, upc_n _ _ h1, up_eq, upc_n _ _ h5, up_eq, upc_n _ _ h4, up_eq, upc_n _ _ h2, up_eq, upc_n _ _ h3]
  have o7 : ρ 7 = upd (upd (ν 7) 6 (ν 7 6 ||| (1 <<< (nI (z 3) &&& 31)))) 4 (nI (z 3 + 1)) := by
    have e7 : ν6 7 = ν 7 := by rw [f6 7 (by decide), w5 7 (by decide) (by decide) (by decide)]
    rw [← hρ, ← e7]
    rfl
  have o10 : ρ 10 = upd (ν 10) (z 3) (nI (srt (tk b N p))) := by
    rw [← hρ, ← show ν6 10 = ν 10 by rw [f6 10 (by decide), w5 10 (by decide) (by decide) (by decide)]]
    rfl
  have o13 : ρ 13 = upd (ν 13) (z 3) (nI (vl b N (nj b N 5 p))) := by
    rw [← hρ, ← show ν6 13 = ν 13 by rw [f6 13 (by decide), w5 13 (by decide) (by decide) (by decide)]]
    rfl
  have o14 : ρ 14 = upd (ν 14) (z 3) 0 := by
    rw [← hρ, ← show ν6 14 = ν 14 by rw [f6 14 (by decide), w5 14 (by decide) (by decide) (by decide)]]
    rfl
  have o15 : ρ 15 = upd (ν 15) (z 3) (-1000000) := by
    rw [← hρ, ← show ν6 15 = ν 15 by rw [f6 15 (by decide), w5 15 (by decide) (by decide) (by decide)]]
    rfl
  refine c_sign (c := 59) (p := nj b N 6 p) hN hb (CS.fr s6 (o 5 (by decide) (by decide) (by decide) (by decide) (by decide)) (o 6 (by decide) (by decide) (by decide) (by decide) (by decide))) (by decide) (by decide) (fun q10 ν7 s7 f7 g7 => ⟨Or.inr rfl, ?_⟩) (fun q10 ν7 f7 g7 g7' => ⟨Or.inl rfl, ?_⟩)
  · rw [if_pos q10] at k
    refine k.s s7 (LR_addP lr z2 q1 (zz (z 3) q1) ?_ ?_ ?_ ?_ ?_ ?_ ?_ ?_ ?_) ⟨fun a h1 h2 => ?_, ?_⟩
    · rw [f7 7 (by decide), o7]
    · rw [f7 10 (by decide), o10]
    · rw [f7 11 (by decide), o 11 (by decide) (by decide) (by decide) (by decide) (by decide), f6 11 (by decide), w5n]
    · rw [f7 12 (by decide), o 12 (by decide) (by decide) (by decide) (by decide) (by decide), f6 12 (by decide), w5p]
    · rw [f7 13 (by decide), o13]
    · rw [f7 14 (by decide), o14]
    · rw [f7 15 (by decide), o15]
    · rw [f7 8 (by decide), o 8 (by decide) (by decide) (by decide) (by decide) (by decide), f6 8 (by decide), w5 8 (by decide) (by decide) (by decide)]
    · rw [f7 9 (by decide), o 9 (by decide) (by decide) (by decide) (by decide) (by decide), f6 9 (by decide), w5 9 (by decide) (by decide) (by decide)]
    · rw [f7 a h1, o a (by omega) (by omega) (by omega) (by omega) (by omega), f6 a h1, w5 a h1 (by omega) (by omega)]
    · rw [g7, o 5 (by decide) (by decide) (by decide) (by decide) (by decide), g6, g5e]
  · rw [if_neg q10] at k
    exact k.f (by decide) ⟨fun a h1 h2 => by rw [f7 a h1, o a (by omega) (by omega) (by omega) (by omega) (by omega), f6 a h1, w5 a h1 (by omega) (by omega)], g7, g7'⟩
/-- what a piece that succeeds leaves -/
theorem pLaw_ok {b : Nat → Nat} {N : Nat} (h : (pLaw b N).1 = 0) : VZ (pLaw b N).2.2 ∧ (pLaw b N).2.2 2 = 0 ∧ (pLaw b N).2.2 3 = 0 := by
  unfold pLaw sg nm at h ⊢
  split at h
  · split at h
    · split at h
      · split at h
        · split at h
          · split at h
            · split at h
              · rename_i q1 q2 q3 q4 q5 q6 q7
                rw [if_pos q1, if_pos q2, if_pos q3, if_pos q4, if_pos q5, if_pos q6, if_pos q7]
                refine ⟨⟨q3, q6.2, Nat.zero_le _, Nat.zero_le _, rfl, rfl, fun t ht => absurd ht (Nat.not_lt_zero t), fun q hq => absurd hq (Nat.not_lt_zero q), fun q hq => ?_⟩, rfl, rfl⟩
                show un (un z00 0 _) 1 _ (20 + 6 * q) = 0 ∧ un (un z00 0 _) 1 _ (21 + 6 * q) = 0
                rw [un_n _ _ (by omega), un_n _ _ (by omega), un_n _ _ (by omega), un_n _ _ (by omega)]
                exact ⟨rfl, rfl⟩
              · exact absurd h (Nat.succ_ne_zero _)
            · exact absurd h (Nat.succ_ne_zero _)
          · exact absurd h (Nat.succ_ne_zero _)
        · exact absurd h (Nat.succ_ne_zero _)
      · exact absurd h (Nat.succ_ne_zero _)
    · exact absurd h (Nat.succ_ne_zero _)
  · exact absurd h (Nat.succ_ne_zero _)
theorem pThing_ok {b : Nat → Nat} {N p : Nat} {z : Nat → Nat} (vz : VZ z) (h : (pThing b N p z).1 = 0) : VZ (pThing b N p z).2.2 ∧ (pThing b N p z).2.2 2 = z 2 + 1 ∧ (pThing b N p z).2.2 3 = z 3 := by
  obtain ⟨⟨z0, z0'⟩, z1, z2, z3, z4, z5, z6, z7, z8⟩ := vz
  unfold pThing sg nm at h ⊢
  split at h
  · split at h
    · exact absurd h (Nat.succ_ne_zero _)
    · split at h
      · split at h
        · split at h
          · split at h
            · split at h
              · split at h
                · rename_i q1 q2 q3 q4 q5 q6 q7 q8
                  rw [if_pos q1, if_neg q2, if_pos q3, if_pos q4, if_pos q5, if_pos q6, if_pos q7, if_pos q8]
                  generalize vl b N (nj b N 1 p) = v at *
                  generalize vl b N (nj b N 3 p) = g at *
                  have e : ∀ i, i ≠ 2 → i ≠ 6 + 2 * z 2 → i ≠ 7 + 2 * z 2 → un (un (un z (6 + 2 * z 2) v) (7 + 2 * z 2) g) 2 (z 2 + 1) i = z i := fun i h1 h2 h3 => by rw [un_n _ _ h1, un_n _ _ h3, un_n _ _ h2]
                  have e2 : un (un (un z (6 + 2 * z 2) v) (7 + 2 * z 2) g) 2 (z 2 + 1) 2 = z 2 + 1 := un_s _ _ _
                  refine ⟨?_, e2, e 3 (by decide) (by omega) (by omega)⟩
                  show VZ (un (un (un z (6 + 2 * z 2) v) (7 + 2 * z 2) g) 2 (z 2 + 1))
                  unfold VZ
                  rw [e2, e 0 (by decide) (by omega) (by omega), e 1 (by decide) (by omega) (by omega), e 3 (by decide) (by omega) (by omega), e 4 (by decide) (by omega) (by omega), e 5 (by decide) (by omega) (by omega)]
                  refine ⟨⟨z0, z0'⟩, z1, by omega, z3, z4, z5, fun t ht => ?_, fun q hq => ?_, fun q hq => ?_⟩
                  · by_cases et : t = z 2
                    · subst et
                      rw [un_n (j := 6 + 2 * z 2) _ _ (by omega), un_n (j := 6 + 2 * z 2) _ _ (by omega), un_s, un_n (j := 7 + 2 * z 2) _ _ (by omega), un_s]
                      omega
                    · rw [e _ (by omega) (by omega) (by omega), e _ (by omega) (by omega) (by omega)]
                      exact z6 t (by omega)
                  · rw [e _ (by omega) (by omega) (by omega), e _ (by omega) (by omega) (by omega), e _ (by omega) (by omega) (by omega), e _ (by omega) (by omega) (by omega)]
                    have := z7 q hq
                    omega
                  · rw [e _ (by omega) (by omega) (by omega), e _ (by omega) (by omega) (by omega)]
                    exact z8 q hq
                · exact absurd h (Nat.succ_ne_zero _)
              · exact absurd h (Nat.succ_ne_zero _)
            · exact absurd h (Nat.succ_ne_zero _)
          · exact absurd h (Nat.succ_ne_zero _)
        · exact absurd h (Nat.succ_ne_zero _)
      · exact absurd h (Nat.succ_ne_zero _)
  · exact absurd h (Nat.succ_ne_zero _)
theorem sg_ok {b : Nat → Nat} {N c p : Nat} {z : Nat → Nat} {f : Rr} (h : (sg b N c p z f).1 = 0) : sg b N c p z f = f := by
  unfold sg at h ⊢
  by_cases q : tk b N p = c
  · rw [if_pos q]
  · rw [if_neg q] at h
    exact absurd h (Nat.succ_ne_zero _)
theorem nm_ok {b : Nat → Nat} {N lo hi p : Nat} {z : Nat → Nat} {f : Rr} (h : (nm b N lo hi p z f).1 = 0) : nm b N lo hi p z f = f ∧ lo ≤ vl b N p ∧ vl b N p ≤ hi := by
  unfold nm at h ⊢
  by_cases q : tk b N p = 1
  · rw [if_pos q] at h ⊢
    by_cases q2 : lo ≤ vl b N p ∧ vl b N p ≤ hi
    · rw [if_pos q2]
      exact ⟨rfl, q2⟩
    · rw [if_neg q2] at h
      exact absurd h (Nat.succ_ne_zero _)
  · rw [if_neg q] at h
    exact absurd h (Nat.succ_ne_zero _)
theorem pPerson_ok {b : Nat → Nat} {N p : Nat} {z : Nat → Nat} (vz : VZ z) (h21 : 1 ≤ z 2) (h : (pPerson b N p z).1 = 0) : VZ (pPerson b N p z).2.2 ∧ (pPerson b N p z).2.2 3 = z 3 + 1 ∧ (pPerson b N p z).2.2 2 = z 2 := by
  obtain ⟨⟨z0, z0'⟩, z1, z2, z3, z4, z5, z6, z7, z8⟩ := vz
  have sl := srt_le (tk b N p)
  unfold pPerson at h ⊢
  by_cases q1 : srt (tk b N p) = 0
  · rw [if_pos q1] at h
    exact absurd h (Nat.succ_ne_zero _)
  rw [if_neg q1] at h ⊢
  by_cases q2 : z 3 = 7
  · rw [if_pos q2] at h
    exact absurd h (Nat.succ_ne_zero _)
  rw [if_neg q2] at h ⊢
  obtain ⟨e1, q3⟩ := nm_ok h
  rw [e1] at h ⊢
  have e2 := sg_ok h
  rw [e2] at h ⊢
  obtain ⟨e3, q4⟩ := nm_ok h
  rw [e3] at h ⊢
  have e4 := sg_ok h
  rw [e4] at h ⊢
  obtain ⟨e5, q5⟩ := nm_ok h
  rw [e5] at h ⊢
  have e6 := sg_ok h
  rw [e6]
  clear e1 e2 e3 e4 e5 e6 h
  generalize vl b N (nj b N 1 p) = v at *
  generalize vl b N (nj b N 3 p) = w at *
  generalize vl b N (nj b N 5 p) = x at *
  generalize srt (tk b N p) = s at *
  show VZ (un (un (un (un (un z (16 + 6 * z 3) s) (17 + 6 * z 3) v) (18 + 6 * z 3) w) (19 + 6 * z 3) x) 3 (z 3 + 1)) ∧ (un (un (un (un (un z (16 + 6 * z 3) s) (17 + 6 * z 3) v) (18 + 6 * z 3) w) (19 + 6 * z 3) x) 3 (z 3 + 1)) 3 = z 3 + 1 ∧ (un (un (un (un (un z (16 + 6 * z 3) s) (17 + 6 * z 3) v) (18 + 6 * z 3) w) (19 + 6 * z 3) x) 3 (z 3 + 1)) 2 = z 2
  generalize hy : un (un (un (un (un z (16 + 6 * z 3) s) (17 + 6 * z 3) v) (18 + 6 * z 3) w) (19 + 6 * z 3) x) 3 (z 3 + 1) = y
  have e : ∀ i, i ≠ 3 → (i < 16 + 6 * z 3 ∨ 20 + 6 * z 3 ≤ i) → y i = z i := fun i h1 h2 => by rw [← hy, un_n _ _ h1, un_n _ _ (by omega), un_n _ _ (by omega), un_n _ _ (by omega), un_n _ _ (by omega)]
  have y3 : y 3 = z 3 + 1 := by rw [← hy, un_s]
  have y16 : y (16 + 6 * z 3) = s := by rw [← hy, un_n _ _ (by omega), un_n _ _ (by omega), un_n _ _ (by omega), un_n _ _ (by omega), un_s]
  have y17 : y (17 + 6 * z 3) = v := by rw [← hy, un_n _ _ (by omega), un_n _ _ (by omega), un_n _ _ (by omega), un_s]
  have y18 : y (18 + 6 * z 3) = w := by rw [← hy, un_n _ _ (by omega), un_n _ _ (by omega), un_s]
  have y19 : y (19 + 6 * z 3) = x := by rw [← hy, un_n _ _ (by omega), un_s]
  refine ⟨?_, y3, e 2 (by decide) (by omega)⟩
  unfold VZ
  rw [y3, e 0 (by decide) (by omega), e 1 (by decide) (by omega), e 2 (by decide) (by omega), e 4 (by decide) (by omega), e 5 (by decide) (by omega)]
  refine ⟨⟨z0, z0'⟩, z1, z2, by omega, z4, z5, fun t ht => ?_, fun q hq => ?_, fun q hq => ?_⟩
  · rw [e _ (by omega) (by omega), e _ (by omega) (by omega)]
    exact z6 t ht
  · by_cases eq : q = z 3
    · subst eq
      rw [y16, y17, y18, y19]
      omega
    · rw [e _ (by omega) (by omega), e _ (by omega) (by omega), e _ (by omega) (by omega), e _ (by omega) (by omega)]
      exact z7 q (by omega)
  · rw [e _ (by omega) (by omega), e _ (by omega) (by omega)]
    exact z8 q hq
/-- pieces one behind another -/
def bd (r : Rr) (f : Nat → (Nat → Nat) → Rr) : Rr := if r.1 = 0 then f r.2.1 r.2.2 else r
def pLand (b : Nat → Nat) (N : Nat) : Rr := bd (bd (bd (pLaw b N) (pThing b N)) (pT b N 5)) (fun p z => bd (pPerson b N p z) (pP b N 7))
theorem bd_0 {r : Rr} {f : Nat → (Nat → Nat) → Rr} (h : r.1 = 0) : bd r f = f r.2.1 r.2.2 := if_pos h
theorem bd_1 {r : Rr} {f : Nat → (Nat → Nat) → Rr} (h : ¬ r.1 = 0) : bd r f = r := if_neg h
theorem FCs.tr {μ ν ρ : Mm} (h : FCs μ ν) (h2 : FCs ν ρ) : FCs μ ρ := ⟨fun a h1 h3 => by rw [h2.1 a h1 h3, h.1 a h1 h3], by rw [h2.2, h.2]⟩
theorem FCs.tf {μ ν ρ : Mm} {k p : Nat} (h : FCs μ ν) (h2 : FCf ν ρ k p) : FCf μ ρ k p := ⟨fun a h1 h3 => by rw [h2.1 a h1 h3, h.1 a h1 h3], h2.2⟩
theorem CPo.tr {K : Int32 → Mm → Prop} {μ ν : Mm} {b : Nat → Nat} {N : Nat} {r : Rr} (h : CPo K μ b N r) (f : FCs μ ν) : CPo K ν b N r := ⟨fun e ν' a1 a2 a3 => h.1 e ν' a1 a2 (f.tr a3), fun e ν' a => h.2 e ν' (f.tf a)⟩
theorem c_dead79 {d : Nat} {ν : Mm} {K : Int32 → Mm → Prop} {l : Int32} (k : K 0 (up ν 5 2 0)) : jX5_readTape d K 79 [some (.ref 5), some (.int 0), some (.int l)] [] ν :=
  k_X5_readTape_79 (br_c (fun _ => ⟨Or.inl rfl, k⟩) (fun _ => br_t rfl ⟨Or.inl rfl, k⟩))
theorem c_dead31 {d : Nat} {ν : Mm} {K : Int32 → Mm → Prop} {l : Int32} (k : K 0 (up ν 5 2 0)) : jX5_readTape d K 31 [some (.ref 5), some (.int 0), some (.int l)] [] ν :=
  k_X5_readTape_31 (br_c (fun _ => br_t rfl (c_dead79 k)) (fun _ => br_t rfl (br_t rfl (c_dead79 k))))
theorem c_things {d : Nat} {μ : Mm} {K : Int32 → Mm → Prop} {b : Nat → Nat} {N : Nat} (hN : N ≤ 100) (hb : ∀ i, i < N → b i < 256) : ∀ m p (z : Nat → Nat) (ν : Mm), z 2 + m = 6 → CS b N ν p → LR ν 7 z → VZ z → FCs μ ν → CPo (fun x ν' => (x = 0 → K 0 (up ν' 5 2 0)) ∧ (¬ x = 0 → cI (cM (d + 5)) 34 [.ref 5] ν' (fun x65 μ65 => ((x65 = 0 → jX5_readTape (d + 5) K 79 [some (.ref 5), some (.int 0), some (.int 1)] [] μ65) ∧ (¬ x65 = 0 → jX5_readTape (d + 5) K 79 [some (.ref 5), some (.int 1), some (.int 1)] [] μ65))))) μ b N (pT b N m p z) → jX5_readTape (d + 5) K 31 [some (.ref 5), some (.int 1), some (.int (nI (z 2)))] [] ν := by
  intro m
  induction m with
  | zero =>
    intro p z ν hm hc lr vz fr k
    have := vz.2.2.1
    omega
  | succ m ih =>
    intro p z ν hm hc lr vz fr k
    have z2 := vz.2.2.1
    have tl := tk_le (p := p) hb
    have e0 : pT b N (m + 1) p z = if tk b N p = 116 then (if (pThing b N p z).1 = 0 then pT b N m (pThing b N p z).2.1 (pThing b N p z).2.2 else pThing b N p z) else (0, p, z) := rfl
    rw [e0] at k
    refine k_X5_readTape_31 ?_
    rw [hc.2.2.2.2.1, show (nI (tk b N p) = 116) = (tk b N p = 116) from propext (nI_eq (b := 116) (by omega) (by decide)), n_suc, show (5 < nI (z 2)) = (5 < z 2) from propext (nI_ltI (a := 5) (by decide) (by omega))]
    refine br_f (by omega) (br_f (by decide) (nr_c (fun q => br_f (by decide) ?_) (fun q => c_thing hN hb hc lr vz ?_)))
    · rw [if_neg q] at k
      exact (k.s hc lr fr).2 (by decide)
    · rw [if_pos q] at k
      refine ⟨fun e ν' a1 a2 a3 => ?_, fun e ν' a => ?_⟩
      · rw [if_pos e] at k
        obtain ⟨o1, o2, o3⟩ := pThing_ok vz e
        have := ih _ _ ν' (by rw [o2]; omega) a1 a2 o1 (fr.tr a3) k
        rw [o2] at this
        exact this
      · rw [if_neg e] at k
        exact c_dead31 ((k.2 e ν' (fr.tf a)).1 rfl)
theorem c_people {d : Nat} {μ : Mm} {K : Int32 → Mm → Prop} {b : Nat → Nat} {N : Nat} (hN : N ≤ 100) (hb : ∀ i, i < N → b i < 256) : ∀ m p (z : Nat → Nat) (ν : Mm), z 3 + m = 8 → CS b N ν p → LR ν 7 z → VZ z → 1 ≤ z 2 → FCs μ ν → CPo (fun x ν' => K x (up ν' 5 2 0)) μ b N (pP b N m p z) → jX5_readTape (d + 5) K 79 [some (.ref 5), some (.int 1), some (.int (nI (z 3)))] [] ν := by
  intro m
  induction m with
  | zero =>
    intro p z ν hm hc lr vz h21 fr k
    have := vz.2.2.2.1
    omega
  | succ m ih =>
    intro p z ν hm hc lr vz h21 fr k
    have z3 := vz.2.2.2.1
    have tl := tk_le (p := p) hb
    have e0 : pP b N (m + 1) p z = if tk b N p = 0 then (0, p, z) else (if (pPerson b N p z).1 = 0 then pP b N m (pPerson b N p z).2.1 (pPerson b N p z).2.2 else pPerson b N p z) := rfl
    rw [e0] at k
    refine k_X5_readTape_79 ?_
    rw [hc.2.2.2.2.1, show (nI (tk b N p) = 0) = (tk b N p = 0) from propext (nI_eq (b := 0) (by omega) (by decide)), n_suc, show (7 < nI (z 3)) = (7 < z 3) from propext (nI_ltI (a := 7) (by decide) (by omega))]
    refine br_f (by omega) (br_f (by decide) (br_c (fun q => ⟨Or.inr rfl, ?_⟩) (fun q => c_person hN hb hc lr vz h21 ?_)))
    · rw [if_pos q] at k
      exact k.s hc lr fr
    · rw [if_neg q] at k
      refine ⟨fun e ν' a1 a2 a3 => ?_, fun e ν' a => ?_⟩
      · rw [if_pos e] at k
        obtain ⟨o1, o2, o3⟩ := pPerson_ok vz h21 e
        have := ih _ _ ν' (by rw [o2]; omega) a1 a2 o1 (by omega) (fr.tr a3) k
        rw [o2] at this
        exact this
      · rw [if_neg e] at k
        exact c_dead79 (k.2 e ν' (fr.tf a))
theorem pT_ok {b : Nat → Nat} {N : Nat} : ∀ m p (z : Nat → Nat), VZ z → (pT b N m p z).1 = 0 → VZ (pT b N m p z).2.2 ∧ z 2 ≤ (pT b N m p z).2.2 2 ∧ (pT b N m p z).2.2 3 = z 3
  | 0, p, z, vz, _ => ⟨vz, Nat.le_refl _, rfl⟩
  | m + 1, p, z, vz, h => by
    have e0 : pT b N (m + 1) p z = if tk b N p = 116 then (if (pThing b N p z).1 = 0 then pT b N m (pThing b N p z).2.1 (pThing b N p z).2.2 else pThing b N p z) else (0, p, z) := rfl
    rw [e0] at h ⊢
    by_cases q : tk b N p = 116
    · rw [if_pos q] at h ⊢
      by_cases e : (pThing b N p z).1 = 0
      · rw [if_pos e] at h ⊢
        obtain ⟨o1, o2, o3⟩ := pThing_ok vz e
        have := pT_ok m _ _ o1 h
        exact ⟨this.1, by omega, by rw [this.2.2, o3]⟩
      · rw [if_neg e] at h
        exact absurd h e
    · rw [if_neg q]
      exact ⟨vz, Nat.le_refl _, rfl⟩
theorem pP_ok {b : Nat → Nat} {N : Nat} : ∀ m p (z : Nat → Nat), VZ z → 1 ≤ z 2 → z 3 + m = 8 → (pP b N m p z).1 = 0 → VZ (pP b N m p z).2.2 ∧ (pP b N m p z).2.2 2 = z 2 ∧ z 3 ≤ (pP b N m p z).2.2 3 ∧ tk b N (pP b N m p z).2.1 = 0
  | 0, p, z, vz, _, h8, _ => by
    have := vz.2.2.2.1
    omega
  | m + 1, p, z, vz, h21, h8, h => by
    have e0 : pP b N (m + 1) p z = if tk b N p = 0 then (0, p, z) else (if (pPerson b N p z).1 = 0 then pP b N m (pPerson b N p z).2.1 (pPerson b N p z).2.2 else pPerson b N p z) := rfl
    rw [e0] at h ⊢
    by_cases q : tk b N p = 0
    · rw [if_pos q]
      exact ⟨vz, rfl, Nat.le_refl _, q⟩
    · rw [if_neg q] at h ⊢
      by_cases e : (pPerson b N p z).1 = 0
      · rw [if_pos e] at h ⊢
        obtain ⟨o1, o2, o3⟩ := pPerson_ok vz h21 e
        have := pP_ok m _ _ o1 (by omega) (by omega) h
        exact ⟨this.1, by rw [this.2.1, o3], by omega, this.2.2.2⟩
      · rw [if_neg e] at h
        exact absurd h e
theorem c_tape {d : Nat} {ν : Mm} {K : Int32 → Mm → Prop} {b : Nat → Nat} {N : Nat} (hN : N ≤ 100) (hb : ∀ i, i < N → b i < 256) (h2 : ν 5 2 = nI N) (h6 : ∀ i, i < N → ν 6 i = nI (b i)) (k : CPo (fun x ν' => K x (up ν' 5 2 0)) ν b N (pLand b N)) : cI (cM (d + 6)) 31 [.ref 5] ν K := by
  unfold pLand at k
  refine e_X5_readTape (s_look (p := 0) hN hb (by rw [up_eq, upc_s, upd_n _ _ (by decide)]; exact h2) h6 (by rw [up_eq, upc_s, upd_s]; rfl) (Nat.zero_le _) (fun x hx xj => ?_))
  generalize hν1 : upc (up ν 5 5 0) 5 x = ν1 at hx
  have f1 : FCs ν ν1 := by
    refine ⟨fun a h1 h3 => ?_, ?_⟩
    · rw [← hν1, upc_n _ _ h1, up_eq, upc_n _ _ h1]
    · rw [← hν1, upc_s, xj 3 (by decide) (by decide) (by decide), up_eq, upc_s, upd_n _ _ (by decide)]
  refine c_law hN hb hx ⟨fun e ν' a1 a2 a3 => br_f (by decide) ?_, fun e ν' a => br_t rfl (c_dead31 ?_)⟩
  · rw [bd_0 (r := pLaw b N) e] at k
    obtain ⟨o1, o2, o3⟩ := pLaw_ok e
    have f2 := f1.tr a3
    refine c_thing hN hb a1 a2 o1 ⟨fun e2 ν2 b1 b2 b3 => br_f (by decide) ?_, fun e2 ν2 a => br_t rfl (c_dead31 ?_)⟩
    · rw [bd_0 (r := pThing b N _ _) e2] at k
      obtain ⟨t1, t2, t3⟩ := pThing_ok o1 e2
      have f3 := f2.tr b3
      have lt := c_things (d := d) (μ := ν) (K := K) hN hb 5 (pThing b N (pLaw b N).2.1 (pLaw b N).2.2).2.1 (pThing b N (pLaw b N).2.1 (pLaw b N).2.2).2.2 ν2 (by omega) b1 b2 t1 f3 ⟨fun e3 ν3 c1 c2 c3 => ⟨fun c => absurd c (by decide), fun _ => ?_⟩, fun e3 ν3 a => ⟨fun _ => ?_, fun c => absurd rfl c⟩⟩
      · rw [t2, o2] at lt
        exact lt
      · rw [bd_0 (r := pT b N 5 _ _) e3] at k
        obtain ⟨u1, u2, u3⟩ := pT_ok 5 _ _ t1 e3
        refine c_person hN hb c1 c2 u1 (by omega) ⟨fun e4 ν4 d1 d2 d3 => br_f (by decide) ?_, fun e4 ν4 a => br_t rfl (c_dead79 ?_)⟩
        · rw [bd_0 (r := pPerson b N _ _) e4] at k
          obtain ⟨w1, w2, w3⟩ := pPerson_ok u1 (by omega) e4
          have lp := c_people (d := d) (μ := ν) (K := K) hN hb 7 _ _ ν4 (by rw [w2, u3, t3, o3]) d1 d2 w1 (by omega) (c3.tr d3) k
          rw [w2, u3, t3, o3] at lp
          exact lp
        · rw [bd_1 (r := pPerson b N _ _) e4] at k
          exact k.2 e4 ν4 (c3.tf a)
      · rw [bd_1 (r := pT b N 5 _ _) e3] at k
        exact k.2 e3 ν3 a
    · rw [bd_1 (r := pThing b N _ _) e2, bd_1 (r := pThing b N _ _) e2] at k
      exact k.2 e2 ν2 (f2.tf a)
  · rw [bd_1 (r := pLaw b N) e, bd_1 (r := pLaw b N) e, bd_1 (r := pLaw b N) e] at k
    exact k.2 e ν' (f1.tf a)
