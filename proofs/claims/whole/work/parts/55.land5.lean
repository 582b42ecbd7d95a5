theorem s_passP {d : Nat} {μ : Mm} {K : Int32 → Mm → Prop} {L : Nat} {z : Nat → Nat} (hL : L = 16 ∨ L = 25) (hz : VL z) (k : ∀ ν, LR ν L (hp z (z 3)) → (∀ a, a ≠ 271 → a < L ∨ L + 8 < a → ν a = μ a) → jX4_passDay (d + 3) K 96 [some (.ref L), none, some (.int (nI (dc (tz 0 z (z 2)) (z 3)))), some (.int 0), none] [] ν) : ∀ m i ν, i + m = z 3 → LR ν L (hp z i) → (∀ a, a ≠ 271 → a < L ∨ L + 8 < a → ν a = μ a) → jX4_passDay (d + 3) K 4 [some (.ref L), some (.ref 271), some (.int (nI (dc (tz 0 z (z 2)) i))), some (.int (nI i)), none] [] ν := by
  have hz' := hz
  obtain ⟨v0, v1, v2, v3, v4, v5, v6, v7, v8⟩ := hz
  intro m
  induction m with
  | zero =>
    intro i ν hi lr fr
    obtain rfl : i = z 3 := by omega
    have r4 : ν L 4 = nI (z 3) := by rw [lr.2.2.2.2.1, hp_out (by omega)]
    rcases hL with rfl | rfl
    · refine k_X4_passDay_16_4 ?_
      rw [r4]
      exact br_t (nI_le (Nat.le_refl _) (by omega)) (k ν lr fr)
    · refine k_X4_passDay_25_4 ?_
      rw [r4]
      exact br_t (nI_le (Nat.le_refl _) (by omega)) (k ν lr fr)
  | succ m ih =>
    intro i ν hi lr fr
    have r4 : ν L 4 = nI (z 3) := by rw [lr.2.2.2.2.1, hp_out (by omega)]
    have o2 : hp z i 2 = z 2 := hp_out (by omega)
    have o3 : hp z i 3 = z 3 := hp_out (by omega)
    have o4 : hp z i 4 = z 4 := hp_out (by omega)
    have o5 : hp z i 5 = z 5 := hp_out (by omega)
    have op : ∀ c, 16 ≤ c → hp z i (c + 6 * i) = z (c + 6 * i) := fun c hc => hp_out (by omega)
    have w := v8 i (by omega)
    have pjh : ∀ j, j < 10 → pj (hp z i) i j = pj z i j := by
      have lo : ∀ x, x < 16 → hp z i x = z x := fun x hx => hp_out (by omega)
      refine ten ?_ ?_ ?_ ?_ ?_ ?_ ?_ ?_ ?_ ?_
      · exact lo 0 (by decide)
      · exact lo 1 (by decide)
      · exact lo 4 (by decide)
      · show hp z i (6 + 2 * hp z i (17 + 6 * i)) = z (6 + 2 * z (17 + 6 * i))
        rw [op 17 (by decide), lo _ (by omega)]
      · show (if hp z i 5 / 2 ^ hp z i (17 + 6 * i) % 2 = 0 then hp z i (7 + 2 * hp z i (17 + 6 * i)) else 0) = (if z 5 / 2 ^ z (17 + 6 * i) % 2 = 0 then z (7 + 2 * z (17 + 6 * i)) else 0)
        rw [op 17 (by decide), o5, lo _ (by omega)]
      · exact op 16 (by decide)
      · exact op 18 (by decide)
      · exact op 19 (by decide)
      · exact op 20 (by decide)
      · show (if hp z i (21 + 6 * i) = 0 then 1 else 0) = (if z (21 + 6 * i) = 0 then 1 else 0)
        rw [op 21 (by decide)]
    have dle : dc (tz 0 z (z 2)) i ≤ 7 := by
      have := dc_le (z := tz 0 z (z 2)) i
      omega
    -- the two numbers that are written anyhow
    have wr : ∀ (x : Nat → Int32), LR (up (up (upc ν 271 x) (L + 5) i (nI (dz 0 z (18 + 6 * i)))) (L + 7) i (nI (dz 0 z (20 + 6 * i)))) L (un (un (hp z i) (18 + 6 * i) (dz 0 z (18 + 6 * i))) (20 + 6 * i) (dz 0 z (20 + 6 * i))) := by
      intro x
      refine LR_setp (LR_setp (lr.fr (fun a ha => upc_n _ _ (by omega))) (by rw [o2]; exact v2) (Or.inl ⟨rfl, rfl⟩)) ?_ (Or.inr ⟨rfl, rfl⟩)
      rw [un_n _ _ (by omega), o2]
      exact v2
    have wf : ∀ (x : Nat → Int32) a, a ≠ 271 → a < L ∨ L + 8 < a → (up (up (upc ν 271 x) (L + 5) i (nI (dz 0 z (18 + 6 * i)))) (L + 7) i (nI (dz 0 z (20 + 6 * i)))) a = μ a := by
      intro x a h1 h2
      rw [up_eq, upc_n _ _ (by omega), up_eq, upc_n _ _ (by omega), upc_n _ _ h1]
      exact fr a h1 h2
    have same : ∀ (x : Nat → Int32), dz 0 z (21 + 6 * i) = z (21 + 6 * i) → (¬ z (21 + 6 * i) = 0 ∨ dz 0 z (21 + 6 * i) = 0) → jX4_passDay (d + 3) K 4 [some (.ref L), some (.ref 271), some (.int (nI (dc (tz 0 z (z 2)) i))), some (.int (nI (i + 1))), none] [] (up (up (upc ν 271 x) (L + 5) i (nI (dz 0 z (18 + 6 * i)))) (L + 7) i (nI (dz 0 z (20 + 6 * i)))) := by
      intro x e1 e2
      have := ih (i + 1) _ (by omega) (LR_cg (wr x) (by rw [un_n _ _ (by omega), un_n _ _ (by omega), o2]; exact v2) (by rw [un_n _ _ (by omega), un_n _ _ (by omega), o3]; exact v3) (fun y _ => hp_suc hz' (by omega) (fun y a b c => by rw [un_n _ _ b, un_n _ _ a]) (by rw [un_n _ _ (by omega), un_s]) (by rw [un_s]) (by rw [un_n _ _ (by omega), un_n _ _ (by omega), op 21 (by decide), e1]) y)) (wf x)
      rw [dc_0 hz' (by omega) e2] at this
      exact this
    have die : ∀ (x : Nat → Int32), z (21 + 6 * i) = 0 → ¬ dz 0 z (21 + 6 * i) = 0 → jX4_passDay (d + 3) K 4 [some (.ref L), some (.ref 271), some (.int (nI (dc (tz 0 z (z 2)) i + 1))), some (.int (nI (i + 1))), none] [] (up (up (up (up (upc ν 271 x) (L + 5) i (nI (dz 0 z (18 + 6 * i)))) (L + 7) i (nI (dz 0 z (20 + 6 * i)))) L 6 ((ν L 6) &&& ((1 <<< (nI i &&& 31)) ^^^ -1))) (L + 8) i (nI (z 4))) := by
      intro x e1 e2
      have e3 : dz 0 z (21 + 6 * i) = z 4 + 1 := (dz_live2 hz' (by omega) e1).resolve_left e2
      have lrx := LR_die (i := i) (n := z 4) (wr x) (by rw [un_n _ _ (by omega), un_n _ _ (by omega), o2]; exact v2) (by rw [un_n _ _ (by omega), un_n _ _ (by omega), o3]; exact v3) (by rw [un_n _ _ (by omega), un_n _ _ (by omega), o3]; omega) (by rw [un_n _ _ (by omega), un_n _ _ (by omega), op 21 (by decide)]; exact e1)
      rw [show (up (up (upc ν 271 x) (L + 5) i (nI (dz 0 z (18 + 6 * i)))) (L + 7) i (nI (dz 0 z (20 + 6 * i)))) L = ν L by rw [up_eq, upc_n _ _ (by omega), up_eq, upc_n _ _ (by omega), upc_n _ _ (by omega)]] at lrx
      have := ih (i + 1) _ (by omega) (LR_cg lrx (by rw [un_n _ _ (by omega), un_n _ _ (by omega), un_n _ _ (by omega), o2]; exact v2) (by rw [un_n _ _ (by omega), un_n _ _ (by omega), un_n _ _ (by omega), o3]; exact v3) (fun y _ => hp_suc hz' (by omega) (fun y a b c => by rw [un_n _ _ c, un_n _ _ b, un_n _ _ a]) (by rw [un_n _ _ (by omega), un_n _ _ (by omega), un_s]) (by rw [un_n _ _ (by omega), un_s]) (by rw [un_s, e3]) y)) (fun a h1 h2 => by rw [up_eq, upc_n _ _ (by omega), up_eq, upc_n _ _ (by omega)]; exact wf x a h1 h2)
      rw [dc_1 hz' (by omega) e1 e2] at this
      exact this
    have r6 : ν L 6 = nI (lvz (hp z i) (hp z i 3)) := lr.2.2.2.2.2.2.1
    have r2 : ν L 2 = nI (z 4) := by rw [lr.2.2.1, o4]
    rcases hL with rfl | rfl
    · refine k_X4_passDay_16_4 ?_
      rw [r4, n_suc, nI_clamp (by omega)]
      refine br_f (by rw [nI_leI (by omega) (by omega)]; omega) (s_isLiving (z := hp z i) (by decide) r6 (by omega) (by omega) (fun c => ?_) (fun c => ?_))
      · rw [op 21 (by decide)] at c
        refine s_begin' (by decide) lr (by omega) (by omega) (by omega) (by rw [op 17 (by decide), o2]; exact w.2.1) (by omega) (fun g hg => s_passDay (Or.inl rfl) (FM_cg hg pjh) (pj_VF hz' (by omega)) (fun x hx => ⟨vp_in_nI (by omega) (by decide), vp_in_nI (by omega) (by decide), br_t rfl ?_⟩))
        have hx' := FM_cg hx (pj_dz hz' (by omega))
        rw [upc_s, show x 6 = nI (dz 0 z (18 + 6 * i)) from hx' 6 (by decide), show x 8 = nI (dz 0 z (20 + 6 * i)) from hx' 8 (by decide)]
        exact same x (dz_dead2 hz' (by omega) c) (Or.inl c)
      · rw [op 21 (by decide)] at c
        refine s_begin' (by decide) lr (by omega) (by omega) (by omega) (by rw [op 17 (by decide), o2]; exact w.2.1) (by omega) (fun g hg => s_passDay (Or.inl rfl) (FM_cg hg pjh) (pj_VF hz' (by omega)) (fun x hx => ⟨vp_in_nI (by omega) (by decide), vp_in_nI (by omega) (by decide), br_f (by decide) ?_⟩))
        have hx' := FM_cg hx (pj_dz hz' (by omega))
        have x9 : x 9 = nI (if dz 0 z (21 + 6 * i) = 0 then 1 else 0) := hx' 9 (by decide)
        rw [upc_s, show x 6 = nI (dz 0 z (18 + 6 * i)) from hx' 6 (by decide), show x 8 = nI (dz 0 z (20 + 6 * i)) from hx' 8 (by decide), x9]
        by_cases e : dz 0 z (21 + 6 * i) = 0
        · rw [if_pos e]
          exact nr_f (by decide) (same x (by rw [e, c]) (Or.inr e))
        · rw [if_neg e]
          refine nr_t rfl ⟨vp_in_nI (by omega) (by decide), ?_⟩
          rw [show (upc ν 271 x) 16 = ν 16 from rfl, r2, n_suc]
          exact die x c e
    · refine k_X4_passDay_25_4 ?_
      rw [r4, n_suc, nI_clamp (by omega)]
      refine br_f (by rw [nI_leI (by omega) (by omega)]; omega) (s_isLiving (z := hp z i) (by decide) r6 (by omega) (by omega) (fun c => ?_) (fun c => ?_))
      · rw [op 21 (by decide)] at c
        refine s_begin' (by decide) lr (by omega) (by omega) (by omega) (by rw [op 17 (by decide), o2]; exact w.2.1) (by omega) (fun g hg => s_passDay (Or.inl rfl) (FM_cg hg pjh) (pj_VF hz' (by omega)) (fun x hx => ⟨vp_in_nI (by omega) (by decide), vp_in_nI (by omega) (by decide), br_t rfl ?_⟩))
        have hx' := FM_cg hx (pj_dz hz' (by omega))
        rw [upc_s, show x 6 = nI (dz 0 z (18 + 6 * i)) from hx' 6 (by decide), show x 8 = nI (dz 0 z (20 + 6 * i)) from hx' 8 (by decide)]
        exact same x (dz_dead2 hz' (by omega) c) (Or.inl c)
      · rw [op 21 (by decide)] at c
        refine s_begin' (by decide) lr (by omega) (by omega) (by omega) (by rw [op 17 (by decide), o2]; exact w.2.1) (by omega) (fun g hg => s_passDay (Or.inl rfl) (FM_cg hg pjh) (pj_VF hz' (by omega)) (fun x hx => ⟨vp_in_nI (by omega) (by decide), vp_in_nI (by omega) (by decide), br_f (by decide) ?_⟩))
        have hx' := FM_cg hx (pj_dz hz' (by omega))
        have x9 : x 9 = nI (if dz 0 z (21 + 6 * i) = 0 then 1 else 0) := hx' 9 (by decide)
        rw [upc_s, show x 6 = nI (dz 0 z (18 + 6 * i)) from hx' 6 (by decide), show x 8 = nI (dz 0 z (20 + 6 * i)) from hx' 8 (by decide), x9]
        by_cases e : dz 0 z (21 + 6 * i) = 0
        · rw [if_pos e]
          exact nr_f (by decide) (same x (by rw [e, c]) (Or.inr e))
        · rw [if_neg e]
          refine nr_t rfl ⟨vp_in_nI (by omega) (by decide), ?_⟩
          rw [show (upc ν 271 x) 25 = ν 25 from rfl, r2, n_suc]
          exact die x c e
