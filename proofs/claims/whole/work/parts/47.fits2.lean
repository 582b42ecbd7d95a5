def oBs (b : Nat → Nat) (s : Nat) : Nat → Int32
  | 0 => 0
  | m + 1 => if b (s + m) = 0 then oBs b s m ||| 0 else oBs b s m ||| (1 <<< (nI (s + m) &&& 31))
theorem oBs_0 {b : Nat → Nat} {s m : Nat} (h : b (s + m) = 0) : oBs b s (m + 1) = oBs b s m ||| 0 := if_pos h
theorem oBs_1 {b : Nat → Nat} {s m : Nat} (h : ¬ b (s + m) = 0) : oBs b s (m + 1) = oBs b s m ||| (1 <<< (nI (s + m) &&& 31)) := if_neg h
def fit (R : Nat → Int32) (z : Nat → Nat) (q c n v : Nat) : Nat := so R q n 0 (un z (c + 6 * q) v)
theorem s_fitL {K : Int32 → Mm → Prop} {μ : Mm} {z : Nat → Nat} {q r i n c w s hi : Nat} {R : Nat → Int32} (hw : (w = 0 ∧ c = 17 ∧ hi < z 2) ∨ (w = 1 ∧ c = 16) ∨ (w = 2 ∧ c = 19)) (lr : LR μ 16 z) (hz : VL z) (hv : ∀ v, s ≤ v → v ≤ hi → VL (un z (c + 6 * q) v)) (hq : q < z 3) (h4 : z 4 + n ≤ 2000) (hr : r < 8) (hin : i + n ≤ 40) (hR : ∀ k, k < n → μ 2 (40 * r + (i + k)) = R k) (hs : s ≤ hi + 1) (hh : hi < 20) (k : ∀ f, K (oBs (fit R z q c n) s (hi + 1 - s)) (up (upc μ 271 f) 0 10 0)) : jX7_allThatFit 28 K 103 [some (.ref 0), some (.int (nI w)), some (.int (nI q)), some (.int (nI r)), some (.int (nI i)), some (.int (nI n)), none, none, some (.int (nI hi)), some (.int 0), some (.int (nI s))] [] μ := by
  have h17 := (hz.2.2.2.2.2.2.2.2 q hq).2.1
  have h25 := hz.2.2.1
  have key : ∀ m j f, s + j + m = hi + 1 → jX7_allThatFit 28 K 103 [some (.ref 0), some (.int (nI w)), some (.int (nI q)), some (.int (nI r)), some (.int (nI i)), some (.int (nI n)), none, none, some (.int (nI hi)), some (.int (oBs (fit R z q c n) s j)), some (.int (nI (s + j)))] [] (upc μ 271 f) := by
    intro m
    induction m with
    | zero =>
      intro j f hj
      obtain rfl : j = hi + 1 - s := by omega
      exact k_X7_allThatFit_103 (br_t (by rw [nI_ltI (by omega) (by omega)]; omega) (e_X7_sound (k f)))
    | succ m ih =>
      intro j f hj
      have vv := hv (s + j) (by omega) (by omega)
      have u3 : un z (c + 6 * q) (s + j) 3 = z 3 := un_n _ _ (by omega)
      have u4 : un z (c + 6 * q) (s + j) 4 = z 4 := un_n _ _ (by omega)
      have i2 := fun f2 => ih (j + 1) f2 (by omega)
      have run : ∀ g, FM g (pj (un z (c + 6 * q) (s + j)) q) → cI (cM 28) 102 [.ref 0, .int (nI r), .int (nI i), .int (nI n)] (upc (upc μ 271 f) 271 g) (fun x193 μ193 => ((x193 = 0 → jX7_allThatFit 28 K 103 [some (.ref 0), some (.int (nI w)), some (.int (nI q)), some (.int (nI r)), some (.int (nI i)), some (.int (nI n)), none, none, some (.int (nI hi)), some (.int (oBs (fit R z q c n) s j ||| 0)), some (.int (nI (s + j) + 1))] [] μ193) ∧ (¬ x193 = 0 → jX7_allThatFit 28 K 103 [some (.ref 0), some (.int (nI w)), some (.int (nI q)), some (.int (nI r)), some (.int (nI i)), some (.int (nI n)), none, none, some (.int (nI hi)), some (.int (oBs (fit R z q c n) s j ||| (1 <<< (nI (s + j) &&& 31)))), some (.int (nI (s + j) + 1))] [] μ193))) := by
        intro g hg
        rw [n_suc]
        refine s_fitsC (μ := upc μ 271 f) (R := R) hr hin (fun a ha => hR a ha) hg vv (by rw [u3]; exact hq) (by rw [u4]; exact h4) (fun c0 f2 => br_t rfl ?_) (fun c0 f2 => br_f (show ¬ (1 : Int32) = 0 by decide) ?_)
        · rw [oBs_0 (show fit R z q c n (s + j) = 0 from c0)] at i2
          rw [upc_upc]
          exact i2 f2
        · rw [oBs_1 (show ¬ fit R z q c n (s + j) = 0 from c0)] at i2
          rw [upc_upc]
          exact i2 f2
      refine k_X7_allThatFit_103 (br_f (by rw [nI_ltI (by omega) (by omega)]; omega) (s_begin (by decide) (LR_271 lr) hz hq (fun g hg => ?_)))
      rcases hw with ⟨rfl, rfl, hh2⟩ | ⟨rfl, rfl⟩ | ⟨rfl, rfl⟩
      · refine br_t rfl (s_callAfter (by decide) (LR_271 lr) hz (by omega) ?_)
        exact run _ (FM_name hg (by omega))
      · refine br_f (by decide) (br_t rfl ?_)
        rw [up_eq, upc_upc (upc μ 271 f), upc_s]
        exact run _ (FM_own hg (by omega) (Or.inl ⟨rfl, rfl⟩))
      · refine br_f (by decide) (br_f (by decide) ?_)
        rw [up_eq, upc_upc (upc μ 271 f), upc_s]
        exact run _ (FM_own hg (by omega) (Or.inr (Or.inr (Or.inl ⟨rfl, rfl⟩))))
  have := key (hi + 1 - s) 0 (μ 271) (by omega)
  rw [upc_id] at this
  exact this
theorem s_fitM {d : Nat} {K : Int32 → Mm → Prop} {μ : Mm} {z : Nat → Nat} {q r i n e s hi : Nat} {R : Nat → Int32} (he : e < 6) (lm : LM (μ 283) z) (hz : VL z) (hv : ∀ v, s ≤ v → v ≤ hi → VL (un z (16 + e + 6 * q) v)) (hq : q < z 3) (h4 : z 4 + n ≤ 2000) (hr : r < 8) (hin : i + n ≤ 40) (hR : ∀ k, k < n → μ 282 (40 * r + (i + k)) = R k) (hs : s ≤ hi + 1) (hh : hi < 20) (k : ∀ f, K (oBs (fit R z q (16 + e) n) s (hi + 1 - s)) (upc μ 285 f)) : jX8_fits (d + 6) K 54 [some (.ref 279), some (.int (nI q)), some (.int (nI r)), some (.int (nI i)), some (.int (nI n)), some (.int (nI e)), none, some (.int (nI hi)), some (.int 0), some (.int (nI s))] [] μ := by
  have h37 := hz.2.2.2.1
  have key : ∀ m j f, s + j + m = hi + 1 → jX8_fits (d + 6) K 54 [some (.ref 279), some (.int (nI q)), some (.int (nI r)), some (.int (nI i)), some (.int (nI n)), some (.int (nI e)), none, some (.int (nI hi)), some (.int (oBs (fit R z q (16 + e) n) s j)), some (.int (nI (s + j)))] [] (upc μ 285 f) := by
    intro m
    induction m with
    | zero =>
      intro j f hj
      obtain rfl : j = hi + 1 - s := by omega
      exact k_X8_fits_54 (br_t (by rw [nI_ltI (by omega) (by omega)]; omega) (k f))
    | succ m ih =>
      intro j f hj
      have vv := hv (s + j) (by omega) (by omega)
      have u3 : un z (16 + e + 6 * q) (s + j) 3 = z 3 := un_n _ _ (by omega)
      have u4 : un z (16 + e + 6 * q) (s + j) 4 = z 4 := un_n _ _ (by omega)
      have i2 := fun f2 => ih (j + 1) f2 (by omega)
      have lm' : LM ((upc μ 285 f) 283) z := lm
      refine k_X8_fits_54 (br_f (by rw [nI_ltI (by omega) (by omega)]; omega) (s_layThen (z := z) lm' (fun f2 h2 => ?_)))
      rw [n_suc, show (16 : Int32) = nI 16 from rfl, show (6 : Int32) = nI 6 from rfl, show (40 : Int32) = nI 40 from rfl, pk_mul, nI_add, nI_add, pk_mul, nI_add, nI_clamp (by omega), show 16 + 6 * q + e = 16 + e + 6 * q by omega, up_eq, upc_s, upc_upc, upc_upc]
      refine ⟨vp_in_nI (by omega) (by decide), ?_⟩
      refine s_isSo (R := R) (s := 40 * r + i) (by omega) (fun k hk => by rw [Nat.add_assoc]; exact hR k hk) (h2.up rfl) vv (by rw [u3]; exact hq) (by rw [u4]; exact h4) (fun c0 f3 => br_t rfl ?_) (fun c0 f3 => br_f (by decide) ?_)
      · rw [oBs_0 (show fit R z q (16 + e) n (s + j) = 0 from c0)] at i2
        exact i2 f3
      · rw [oBs_1 (show ¬ fit R z q (16 + e) n (s + j) = 0 from c0)] at i2
        exact i2 f3
  have := key (hi + 1 - s) 0 (μ 285) (by omega)
  rw [upc_id] at this
  exact this
theorem op_called {μ : Mm} {K : Int32 → Mm → Prop} {x y w u : Int32} (hI : Inv μ) (k : ∀ a μ1, Nx 165 [.ref 279, .int x, .int y, .int w, .int u] a μ1 → K a μ1) : cI (cM 30) 77 [.ref 0, .int x, .int y, .int w, .int u] μ K := by
  obtain ⟨z, hz⟩ := hI.2.2.2.2.1
  obtain ⟨vz, v9, lr, lm⟩ := hz
  have vz' := vz
  obtain ⟨v0, v1, v2, v3, v4, v5, v6, v7, v8⟩ := vz
  have r0 := lr.1
  have r3 := lr.2.2.2.1
  have r4 := lr.2.2.2.2.1
  have r5 := lr.2.2.2.2.2.1
  have r6 := lr.2.2.2.2.2.2.1
  have l0 := lm 0 (by decide)
  have l2 := lm 2 (by decide)
  have l3 := lm 3 (by decide)
  have l5 := lm 5 (by decide)
  have hR := hI.1
  have ask : ∀ (ν : Mm) (G : Int32 → Mm → Prop), ν 283 = μ 283 → (inN x (z 3) ∧ inR y 0 7 ∧ inR u 1 12 → G 1 ν) → (¬ (inN x (z 3) ∧ inR y 0 7 ∧ inR u 1 12) → G 0 ν) → cI (cM 29) 164 [.ref 279, .int x, .int y, .int u] ν G := by
    intro ν G h3 g1 g0
    refine e_X8_isAsked (s_isPersonM (n := z 3) (by rw [h3]; exact l3) (by omega) (fun hx => br_f (by decide) (s_isRowM (fun hy => br_f (by decide) (s_in (a := 1) (b := 12) (by decide) (by decide) rfl rfl (fun hu => br_f (by decide) ⟨Or.inr rfl, g1 ⟨hx, hy, hu⟩⟩) (fun hu => br_t rfl ⟨Or.inl rfl, g0 (fun h => hu h.2.2)⟩))) (fun hy => br_t rfl ⟨Or.inl rfl, g0 (fun h => hy h.2.1)⟩))) (fun hx => br_t rfl ⟨Or.inl rfl, g0 (fun h => hx h.1)⟩))
  have bad : ¬ (inN x (z 3) ∧ inR y 0 7 ∧ inR u 1 12) → K (-1000001) μ := fun hn => k _ _ (fun G g => e_X8_called (ask _ _ rfl (fun h => absurd h hn) (fun _ => br_t rfl (g _ (Inv.q hI (fun k hk => by simp (disch := omega) only [up_eq, upc_n]) (fun j hj => by simp (disch := omega) only [up_eq, upc_s, upc_n, upd_n]))))))
  refine e_X7_called (e_X7_allThatFit (s_isPerson r4 (by omega) (fun hx => br_f (by decide) (s_isRow (fun hy => br_f (by decide) (s_out (a := 1) (b := 12) (by decide) (by decide) (fun hu => br_t rfl ?_) (fun hu => br_f (by decide) (bad (fun h => hu h.2.2))))) (fun hy => br_t rfl (bad (fun h => hy h.2.1))))) (fun hx => br_t rfl (bad (fun h => hx h.1)))))
  have ok : inN x (z 3) ∧ inR y 0 7 ∧ inR u 1 12 := ⟨hx, hy, hu⟩
  obtain ⟨q, hq, rfl⟩ := hx
  obtain ⟨r, -, hr, rfl⟩ := hy
  obtain ⟨n, hn1, hn, rfl⟩ := hu
  have cl : (nI r).toNatClampNeg = r := nI_clamp (by omega)
  have vp : vp_in (nI r) 8 := vp_in_nI (by omega) (by decide)
  have em : nI (z 2) - 1 = nI (z 2 - 1) := sub_n (b := 1) (by omega)
  refine s_seek hR (by omega) (fun c => br_f (by decide) (e_X7_found (k _ _ (fun G g => e_X8_called (ask _ _ rfl (fun _ => br_f (by decide) ⟨vp_in_nI (n := 2) (by decide) (by decide), (e_X8_fits ⟨vp, ?_⟩)⟩) (fun h => absurd ok h)))))) (fun t ht c gs hh => br_t rfl ?_) (fun t ht c gs hh => br_f (by decide) (e_X7_found (k _ _ (fun G g => e_X8_called (ask _ _ rfl (fun _ => br_f (by decide) ⟨vp_in_nI (n := 2) (by decide) (by decide), (e_X8_fits ⟨vp, ?_⟩)⟩) (fun h => absurd ok h))))))
  · rw [cl]
    exact br_f (nle.mpr c) (e_X8_finding (g _ (Inv.s hI (fun k hk => by simp (disch := omega) only [up_eq, upc_n]) (fun j hj hj1 => by simp (disch := omega) only [up_eq, upc_s, upc_n, upd_n]) (by simp (disch := omega) only [up_eq, upc_s, upc_n, upd_n, upd_s]))))
  · obtain ⟨i, n', rfl, en, h5⟩ := hh
    rw [nI_eq (by omega) (by omega)] at en
    subst en
    rcases hR r (by omega) with ⟨g1, -⟩ | ⟨t', g1, g2, g3, g4, g5, g6⟩
    · exact absurd g1 c
    rw [g5, nI_eq (by omega) (by omega)] at gs
    subst gs
    have vv : ∀ v, 0 ≤ v → v ≤ (z 2 - 1) → VL (un z (17 + 6 * q) v) := fun v h1 h2 => VL_un vz' (by decide) (by decide) (by omega) (fun _ => by omega) (by omega) (by omega) (by omega) (by omega)
    refine nr_f (by decide) (nr_f (by decide) (nr_t rfl ?_))
    rw [r3, em]
    refine s_fitL (w := 0) (c := 17) (s := 0) (hi := (z 2 - 1)) (R := fun a => μ 282 (40 * r + (i + a))) (Or.inl ⟨rfl, rfl, by omega⟩) lr vz' vv hq (by omega) (by omega) (by omega) (fun a ha => g6 (i + a) (by omega)) (by omega) (by omega) (fun f => ?_)
    refine k _ _ (fun G g => e_X8_called (ask _ _ rfl (fun _ => br_f (by decide) ⟨vp_in_nI (n := 2) (by decide) (by decide), ?_⟩) (fun h => absurd ok h)))
    rw [show (up (up (upc μ 271 f) 0 10 0) 279 0 0) 283 (2 : Int32).toNatClampNeg = nI (z 2) from l2, em]
    refine e_X8_fits ⟨vp, ?_⟩
    rw [cl, show (up (up (upc μ 271 f) 0 10 0) 279 0 0) 281 = μ 281 from rfl, g5]
    refine br_t (nlt.mp c) (br_f (nneg (by omega)) ⟨vp, br_t (by rw [lsum2 (by omega) (by omega) (by omega)]; omega) ?_⟩)
    exact s_fitM (e := 1) (s := 0) (hi := (z 2 - 1)) (R := fun a => μ 282 (40 * r + (i + a))) (by decide) lm vz' vv hq (by omega) (by omega) (by omega) (fun a ha => rfl) (by omega) (by omega) (fun f2 => g _ (Inv.s hI (fun k hk => by simp (disch := omega) only [up_eq, upc_n]) (fun j hj hj1 => by simp (disch := omega) only [up_eq, upc_s, upc_n, upd_n]) (by simp (disch := omega) only [up_eq, upc_s, upc_n, upd_n, upd_s])))
  · rw [cl]
    refine br_t (nlt.mp c) (br_c (fun _ => e_X8_finding (g _ (Inv.s hI (fun k hk => by simp (disch := omega) only [up_eq, upc_n]) (fun j hj hj1 => by simp (disch := omega) only [up_eq, upc_s, upc_n, upd_n]) (by simp (disch := omega) only [up_eq, upc_s, upc_n, upd_n, upd_s])))) (fun h0 => ⟨vp, ?_⟩))
    rw [show (up (up μ 0 10 2) 279 0 0) 281 = μ 281 from rfl, gs]
    obtain ⟨i, hi, rfl⟩ := nI_of h0
    rw [lsum2 hi (by omega) (by omega)]
    exact br_f (fun h => hh ⟨i, n, rfl, rfl, h⟩) (e_X8_finding (g _ (Inv.s hI (fun k hk => by simp (disch := omega) only [up_eq, upc_n]) (fun j hj hj1 => by simp (disch := omega) only [up_eq, upc_s, upc_n, upd_n]) (by simp (disch := omega) only [up_eq, upc_s, upc_n, upd_n, upd_s]))))
theorem op_who {μ : Mm} {K : Int32 → Mm → Prop} {x y w u : Int32} (hI : Inv μ) (k : ∀ a μ1, Nx 166 [.ref 279, .int x, .int y, .int w, .int u] a μ1 → K a μ1) : cI (cM 30) 78 [.ref 0, .int x, .int y, .int w, .int u] μ K := by
  obtain ⟨z, hz⟩ := hI.2.2.2.2.1
  obtain ⟨vz, v9, lr, lm⟩ := hz
  have vz' := vz
  obtain ⟨v0, v1, v2, v3, v4, v5, v6, v7, v8⟩ := vz
  have r0 := lr.1
  have r3 := lr.2.2.2.1
  have r4 := lr.2.2.2.2.1
  have r5 := lr.2.2.2.2.2.1
  have r6 := lr.2.2.2.2.2.2.1
  have l0 := lm 0 (by decide)
  have l2 := lm 2 (by decide)
  have l3 := lm 3 (by decide)
  have l5 := lm 5 (by decide)
  have hR := hI.1
  have ask : ∀ (ν : Mm) (G : Int32 → Mm → Prop), ν 283 = μ 283 → (inN x (z 3) ∧ inR y 0 7 ∧ inR u 1 12 → G 1 ν) → (¬ (inN x (z 3) ∧ inR y 0 7 ∧ inR u 1 12) → G 0 ν) → cI (cM 29) 164 [.ref 279, .int x, .int y, .int u] ν G := by
    intro ν G h3 g1 g0
    refine e_X8_isAsked (s_isPersonM (n := z 3) (by rw [h3]; exact l3) (by omega) (fun hx => br_f (by decide) (s_isRowM (fun hy => br_f (by decide) (s_in (a := 1) (b := 12) (by decide) (by decide) rfl rfl (fun hu => br_f (by decide) ⟨Or.inr rfl, g1 ⟨hx, hy, hu⟩⟩) (fun hu => br_t rfl ⟨Or.inl rfl, g0 (fun h => hu h.2.2)⟩))) (fun hy => br_t rfl ⟨Or.inl rfl, g0 (fun h => hy h.2.1)⟩))) (fun hx => br_t rfl ⟨Or.inl rfl, g0 (fun h => hx h.1)⟩))
  have bad : ¬ (inN x (z 3) ∧ inR y 0 7 ∧ inR u 1 12) → K (-1000001) μ := fun hn => k _ _ (fun G g => e_X8_who (ask _ _ rfl (fun h => absurd h hn) (fun _ => br_t rfl (g _ (Inv.q hI (fun k hk => by simp (disch := omega) only [up_eq, upc_n]) (fun j hj => by simp (disch := omega) only [up_eq, upc_s, upc_n, upd_n]))))))
  refine e_X7_who (e_X7_allThatFit (s_isPerson r4 (by omega) (fun hx => br_f (by decide) (s_isRow (fun hy => br_f (by decide) (s_out (a := 1) (b := 12) (by decide) (by decide) (fun hu => br_t rfl ?_) (fun hu => br_f (by decide) (bad (fun h => hu h.2.2))))) (fun hy => br_t rfl (bad (fun h => hy h.2.1))))) (fun hx => br_t rfl (bad (fun h => hx h.1)))))
  have ok : inN x (z 3) ∧ inR y 0 7 ∧ inR u 1 12 := ⟨hx, hy, hu⟩
  obtain ⟨q, hq, rfl⟩ := hx
  obtain ⟨r, -, hr, rfl⟩ := hy
  obtain ⟨n, hn1, hn, rfl⟩ := hu
  have cl : (nI r).toNatClampNeg = r := nI_clamp (by omega)
  have vp : vp_in (nI r) 8 := vp_in_nI (by omega) (by decide)
  refine s_seek hR (by omega) (fun c => br_f (by decide) (e_X7_found (k _ _ (fun G g => e_X8_who (ask _ _ rfl (fun _ => br_f (by decide) (e_X8_fits ⟨vp, ?_⟩)) (fun h => absurd ok h)))))) (fun t ht c gs hh => br_t rfl ?_) (fun t ht c gs hh => br_f (by decide) (e_X7_found (k _ _ (fun G g => e_X8_who (ask _ _ rfl (fun _ => br_f (by decide) (e_X8_fits ⟨vp, ?_⟩)) (fun h => absurd ok h))))))
  · rw [cl]
    exact br_f (nle.mpr c) (e_X8_finding (g _ (Inv.s hI (fun k hk => by simp (disch := omega) only [up_eq, upc_n]) (fun j hj hj1 => by simp (disch := omega) only [up_eq, upc_s, upc_n, upd_n]) (by simp (disch := omega) only [up_eq, upc_s, upc_n, upd_n, upd_s]))))
  · obtain ⟨i, n', rfl, en, h5⟩ := hh
    rw [nI_eq (by omega) (by omega)] at en
    subst en
    rcases hR r (by omega) with ⟨g1, -⟩ | ⟨t', g1, g2, g3, g4, g5, g6⟩
    · exact absurd g1 c
    rw [g5, nI_eq (by omega) (by omega)] at gs
    subst gs
    have vv : ∀ v, 1 ≤ v → v ≤ 5 → VL (un z (16 + 6 * q) v) := fun v h1 h2 => VL_un vz' (by decide) (by decide) (fun _ => by omega) (by omega) (by omega) (by omega) (by omega) (by omega)
    refine nr_t rfl (nr_t rfl ?_)
    refine s_fitL (w := 1) (c := 16) (s := 1) (hi := 5) (R := fun a => μ 282 (40 * r + (i + a))) (Or.inr (Or.inl ⟨rfl, rfl⟩)) lr vz' vv hq (by omega) (by omega) (by omega) (fun a ha => g6 (i + a) (by omega)) (by omega) (by omega) (fun f => ?_)
    refine k _ _ (fun G g => e_X8_who (ask _ _ rfl (fun _ => br_f (by decide) ?_) (fun h => absurd ok h)))
    refine e_X8_fits ⟨vp, ?_⟩
    rw [cl, show (up (up (upc μ 271 f) 0 10 0) 279 0 0) 281 = μ 281 from rfl, g5]
    refine br_t (nlt.mp c) (br_f (nneg (by omega)) ⟨vp, br_t (by rw [lsum2 (by omega) (by omega) (by omega)]; omega) ?_⟩)
    exact s_fitM (e := 0) (s := 1) (hi := 5) (R := fun a => μ 282 (40 * r + (i + a))) (by decide) lm vz' vv hq (by omega) (by omega) (by omega) (fun a ha => rfl) (by omega) (by omega) (fun f2 => g _ (Inv.s hI (fun k hk => by simp (disch := omega) only [up_eq, upc_n]) (fun j hj hj1 => by simp (disch := omega) only [up_eq, upc_s, upc_n, upd_n]) (by simp (disch := omega) only [up_eq, upc_s, upc_n, upd_n, upd_s])))
  · rw [cl]
    refine br_t (nlt.mp c) (br_c (fun _ => e_X8_finding (g _ (Inv.s hI (fun k hk => by simp (disch := omega) only [up_eq, upc_n]) (fun j hj hj1 => by simp (disch := omega) only [up_eq, upc_s, upc_n, upd_n]) (by simp (disch := omega) only [up_eq, upc_s, upc_n, upd_n, upd_s])))) (fun h0 => ⟨vp, ?_⟩))
    rw [show (up (up μ 0 10 2) 279 0 0) 281 = μ 281 from rfl, gs]
    obtain ⟨i, hi, rfl⟩ := nI_of h0
    rw [lsum2 hi (by omega) (by omega)]
    exact br_f (fun h => hh ⟨i, n, rfl, rfl, h⟩) (e_X8_finding (g _ (Inv.s hI (fun k hk => by simp (disch := omega) only [up_eq, upc_n]) (fun j hj hj1 => by simp (disch := omega) only [up_eq, upc_s, upc_n, upd_n]) (by simp (disch := omega) only [up_eq, upc_s, upc_n, upd_n, upd_s]))))
theorem op_steps {μ : Mm} {K : Int32 → Mm → Prop} {x y w u : Int32} (hI : Inv μ) (k : ∀ a μ1, Nx 167 [.ref 279, .int x, .int y, .int w, .int u] a μ1 → K a μ1) : cI (cM 30) 79 [.ref 0, .int x, .int y, .int w, .int u] μ K := by
  obtain ⟨z, hz⟩ := hI.2.2.2.2.1
  obtain ⟨vz, v9, lr, lm⟩ := hz
  have vz' := vz
  obtain ⟨v0, v1, v2, v3, v4, v5, v6, v7, v8⟩ := vz
  have r0 := lr.1
  have r3 := lr.2.2.2.1
  have r4 := lr.2.2.2.2.1
  have r5 := lr.2.2.2.2.2.1
  have r6 := lr.2.2.2.2.2.2.1
  have l0 := lm 0 (by decide)
  have l2 := lm 2 (by decide)
  have l3 := lm 3 (by decide)
  have l5 := lm 5 (by decide)
  have hR := hI.1
  have ask : ∀ (ν : Mm) (G : Int32 → Mm → Prop), ν 283 = μ 283 → (inN x (z 3) ∧ inR y 0 7 ∧ inR u 1 12 → G 1 ν) → (¬ (inN x (z 3) ∧ inR y 0 7 ∧ inR u 1 12) → G 0 ν) → cI (cM 29) 164 [.ref 279, .int x, .int y, .int u] ν G := by
    intro ν G h3 g1 g0
    refine e_X8_isAsked (s_isPersonM (n := z 3) (by rw [h3]; exact l3) (by omega) (fun hx => br_f (by decide) (s_isRowM (fun hy => br_f (by decide) (s_in (a := 1) (b := 12) (by decide) (by decide) rfl rfl (fun hu => br_f (by decide) ⟨Or.inr rfl, g1 ⟨hx, hy, hu⟩⟩) (fun hu => br_t rfl ⟨Or.inl rfl, g0 (fun h => hu h.2.2)⟩))) (fun hy => br_t rfl ⟨Or.inl rfl, g0 (fun h => hy h.2.1)⟩))) (fun hx => br_t rfl ⟨Or.inl rfl, g0 (fun h => hx h.1)⟩))
  have bad : ¬ (inN x (z 3) ∧ inR y 0 7 ∧ inR u 1 12) → K (-1000001) μ := fun hn => k _ _ (fun G g => e_X8_steps (ask _ _ rfl (fun h => absurd h hn) (fun _ => br_t rfl (g _ (Inv.q hI (fun k hk => by simp (disch := omega) only [up_eq, upc_n]) (fun j hj => by simp (disch := omega) only [up_eq, upc_s, upc_n, upd_n]))))))
  refine e_X7_steps (e_X7_allThatFit (s_isPerson r4 (by omega) (fun hx => br_f (by decide) (s_isRow (fun hy => br_f (by decide) (s_out (a := 1) (b := 12) (by decide) (by decide) (fun hu => br_t rfl ?_) (fun hu => br_f (by decide) (bad (fun h => hu h.2.2))))) (fun hy => br_t rfl (bad (fun h => hy h.2.1))))) (fun hx => br_t rfl (bad (fun h => hx h.1)))))
  have ok : inN x (z 3) ∧ inR y 0 7 ∧ inR u 1 12 := ⟨hx, hy, hu⟩
  obtain ⟨q, hq, rfl⟩ := hx
  obtain ⟨r, -, hr, rfl⟩ := hy
  obtain ⟨n, hn1, hn, rfl⟩ := hu
  have cl : (nI r).toNatClampNeg = r := nI_clamp (by omega)
  have vp : vp_in (nI r) 8 := vp_in_nI (by omega) (by decide)
  refine s_seek hR (by omega) (fun c => br_f (by decide) (e_X7_found (k _ _ (fun G g => e_X8_steps (ask _ _ rfl (fun _ => br_f (by decide) (e_X8_fits ⟨vp, ?_⟩)) (fun h => absurd ok h)))))) (fun t ht c gs hh => br_t rfl ?_) (fun t ht c gs hh => br_f (by decide) (e_X7_found (k _ _ (fun G g => e_X8_steps (ask _ _ rfl (fun _ => br_f (by decide) (e_X8_fits ⟨vp, ?_⟩)) (fun h => absurd ok h))))))
  · rw [cl]
    exact br_f (nle.mpr c) (e_X8_finding (g _ (Inv.s hI (fun k hk => by simp (disch := omega) only [up_eq, upc_n]) (fun j hj hj1 => by simp (disch := omega) only [up_eq, upc_s, upc_n, upd_n]) (by simp (disch := omega) only [up_eq, upc_s, upc_n, upd_n, upd_s]))))
  · obtain ⟨i, n', rfl, en, h5⟩ := hh
    rw [nI_eq (by omega) (by omega)] at en
    subst en
    rcases hR r (by omega) with ⟨g1, -⟩ | ⟨t', g1, g2, g3, g4, g5, g6⟩
    · exact absurd g1 c
    rw [g5, nI_eq (by omega) (by omega)] at gs
    subst gs
    have vv : ∀ v, 0 ≤ v → v ≤ 9 → VL (un z (19 + 6 * q) v) := fun v h1 h2 => VL_un vz' (by decide) (by decide) (by omega) (by omega) (by omega) (fun _ => by omega) (by omega) (by omega)
    refine nr_f (by decide) (nr_f (by decide) (nr_f (by decide) ?_))
    refine s_fitL (w := 2) (c := 19) (s := 0) (hi := 9) (R := fun a => μ 282 (40 * r + (i + a))) (Or.inr (Or.inr ⟨rfl, rfl⟩)) lr vz' vv hq (by omega) (by omega) (by omega) (fun a ha => g6 (i + a) (by omega)) (by omega) (by omega) (fun f => ?_)
    refine k _ _ (fun G g => e_X8_steps (ask _ _ rfl (fun _ => br_f (by decide) ?_) (fun h => absurd ok h)))
    refine e_X8_fits ⟨vp, ?_⟩
    rw [cl, show (up (up (upc μ 271 f) 0 10 0) 279 0 0) 281 = μ 281 from rfl, g5]
    refine br_t (nlt.mp c) (br_f (nneg (by omega)) ⟨vp, br_t (by rw [lsum2 (by omega) (by omega) (by omega)]; omega) ?_⟩)
    exact s_fitM (e := 3) (s := 0) (hi := 9) (R := fun a => μ 282 (40 * r + (i + a))) (by decide) lm vz' vv hq (by omega) (by omega) (by omega) (fun a ha => rfl) (by omega) (by omega) (fun f2 => g _ (Inv.s hI (fun k hk => by simp (disch := omega) only [up_eq, upc_n]) (fun j hj hj1 => by simp (disch := omega) only [up_eq, upc_s, upc_n, upd_n]) (by simp (disch := omega) only [up_eq, upc_s, upc_n, upd_n, upd_s])))
  · rw [cl]
    refine br_t (nlt.mp c) (br_c (fun _ => e_X8_finding (g _ (Inv.s hI (fun k hk => by simp (disch := omega) only [up_eq, upc_n]) (fun j hj hj1 => by simp (disch := omega) only [up_eq, upc_s, upc_n, upd_n]) (by simp (disch := omega) only [up_eq, upc_s, upc_n, upd_n, upd_s])))) (fun h0 => ⟨vp, ?_⟩))
    rw [show (up (up μ 0 10 2) 279 0 0) 281 = μ 281 from rfl, gs]
    obtain ⟨i, hi, rfl⟩ := nI_of h0
    rw [lsum2 hi (by omega) (by omega)]
    exact br_f (fun h => hh ⟨i, n, rfl, rfl, h⟩) (e_X8_finding (g _ (Inv.s hI (fun k hk => by simp (disch := omega) only [up_eq, upc_n]) (fun j hj hj1 => by simp (disch := omega) only [up_eq, upc_s, upc_n, upd_n]) (by simp (disch := omega) only [up_eq, upc_s, upc_n, upd_n, upd_s]))))
