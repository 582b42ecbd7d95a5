theorem op_carry {μ : Mm} {K : Int32 → Mm → Prop} {x y : Int32} (hI : Inv μ) (k : ∀ a μ1, Nx 143 [.ref 279, .int x, .int y] a μ1 → K a μ1) : cI (cM 30) 61 [.ref 0, .int x, .int y] μ K := by
  obtain ⟨z, hz⟩ := hI.2.2.2.2.1
  obtain ⟨vz, v9, lr, lm⟩ := hz
  have vz' := vz
  obtain ⟨v0, v1, v2, v3, v4, v5, v6, v7, v8⟩ := vz
  have r0 := lr.1
  have r3 := lr.2.2.2.1
  have r4 := lr.2.2.2.2.1
  have r5 := lr.2.2.2.2.2.1
  have r6 := lr.2.2.2.2.2.2.1
  have l0 := lm 0 (by decide)
  have l2 := lm 2 (by decide)
  have l3 := lm 3 (by decide)
  have l5 := lm 5 (by decide)
  have hz : IZ μ z := ⟨vz', v9, lr, lm⟩
  refine e_X7_carry (s_isThing r3 (by omega) (fun hx => br_f (by decide) ?_) (fun hx => br_t rfl (k _ _ (fun G g => e_X8_carry (s_isThingM (μ := up μ 279 0 0) l2 (by omega) (fun h => absurd h hx) (fun _ => br_t rfl (g _ (Inv.q hI (fun k hk => by simp (disch := omega) only [up_eq, upc_n]) (fun j hj => by simp (disch := omega) only [up_eq, upc_s, upc_n, upd_n])))))))))
  refine s_isPlace r0 (by omega) (fun hy => nr_f (by decide) ?_) (fun hy => nr_t rfl (k _ _ (fun G g => e_X8_carry (s_isThingM (μ := up μ 279 0 0) l2 (by omega) (fun _ => br_f (by decide) (s_isPlaceM (μ := up μ 279 0 0) l0 (by omega) (fun h => absurd h hy) (fun _ => nr_t rfl (g _ (Inv.q hI (fun k hk => by simp (disch := omega) only [up_eq, upc_n]) (fun j hj => by simp (disch := omega) only [up_eq, upc_s, upc_n, upd_n])))))) (fun h => absurd hx h)))))
  obtain ⟨t, ht, rfl⟩ := hx
  obtain ⟨v, hv, rfl⟩ := hy
  have cl : (nI t).toNatClampNeg = t := nI_clamp (by omega)
  have e6 : (6 : Int32) + 2 * nI t = nI (6 + 2 * t) := by rw [show (6 : Int32) = nI 6 from rfl, show (2 : Int32) = nI 2 from rfl, pk_mul, nI_add]
  have vun : VL (un z (6 + 2 * t) v) := by
    have lo : ∀ i, i < 6 → un z (6 + 2 * t) v i = z i := fun i hi => un_n _ _ (by omega)
    unfold VL
    rw [lo 0 (by decide), lo 1 (by decide), lo 2 (by decide), lo 3 (by decide), lo 4 (by decide), lo 5 (by decide)]
    refine ⟨v0, v1, v2, v3, v4, v5, v6, fun a ha => ?_, fun a ha => ?_⟩
    · rw [un_n (j := 7 + 2 * a) _ _ (by omega)]
      refine ⟨?_, (v7 a ha).2⟩
      by_cases e : a = t
      · subst e
        rw [un_s]
        exact hv
      · rw [un_n _ _ (by omega)]
        exact (v7 a ha).1
    · rw [un_n _ _ (by omega), un_n _ _ (by omega), un_n _ _ (by omega), un_n _ _ (by omega), un_n _ _ (by omega), un_n _ _ (by omega)]
      exact v8 a ha
  refine s_act (c := 17) (s := t) (v := v) (i := 6 + 2 * t) hI hz (by decide) (by decide) vun (by omega) (fun ν h => LR_thing h (by omega)) (fun ν fr H => ⟨vp_in_nI (by omega) (by decide), vp_in_nI (by omega) (by decide), ?_⟩)
  rw [cl, show ν 17 t = nI (z (6 + 2 * t)) by rw [fr 17 (by decide)]; exact (lr.2.2.2.2.2.2.2.1 t ht).1]
  have f3 : (up (up ν 17 t (nI v)) 279 0 0) 283 = μ 283 := fr 283 (by decide)
  refine k _ _ (fun G g => e_X8_carry (s_isThingM (n := z 2) (by rw [f3]; exact l2) (by omega) (fun _ => br_f (by decide) (s_isPlaceM (n := z 0) (by rw [f3]; exact l0) (by omega) (fun _ => nr_f (by decide) ?_) (fun h => absurd ⟨v, hv, rfl⟩ h))) (fun h => absurd ⟨t, ht, rfl⟩ h)))
  refine H _ _ (fun a ha => by rw [up_eq]; exact upc_n _ _ ha) (fun j hj => ?_) (fun σ lmσ inv => ?_)
  · rw [up_eq, upc_s, upd_n _ _ hj]
    show ν 279 j = _
    rw [fr 279 (by decide)]
  · rw [e6, nI_clamp (by omega), lmσ _ (by omega)]
    exact ⟨vp_in_nI (by omega) (by decide), vp_in_nI (by omega) (by decide), g _ inv⟩
theorem op_nail {μ : Mm} {K : Int32 → Mm → Prop} {x y : Int32} (hI : Inv μ) (k : ∀ a μ1, Nx 144 [.ref 279, .int x, .int y] a μ1 → K a μ1) : cI (cM 30) 62 [.ref 0, .int x, .int y] μ K := by
  obtain ⟨z, hz⟩ := hI.2.2.2.2.1
  obtain ⟨vz, v9, lr, lm⟩ := hz
  have vz' := vz
  obtain ⟨v0, v1, v2, v3, v4, v5, v6, v7, v8⟩ := vz
  have r0 := lr.1
  have r3 := lr.2.2.2.1
  have r4 := lr.2.2.2.2.1
  have r5 := lr.2.2.2.2.2.1
  have r6 := lr.2.2.2.2.2.2.1
  have l0 := lm 0 (by decide)
  have l2 := lm 2 (by decide)
  have l3 := lm 3 (by decide)
  have l5 := lm 5 (by decide)
  have hz : IZ μ z := ⟨vz', v9, lr, lm⟩
  refine e_X7_nail (s_isThing r3 (by omega) (fun hx => br_f (by decide) ?_) (fun hx => br_t rfl (k _ _ (fun G g => e_X8_nail (s_isThingM (μ := up μ 279 0 0) l2 (by omega) (fun h => absurd h hx) (fun _ => br_t rfl (g _ (Inv.q hI (fun k hk => by simp (disch := omega) only [up_eq, upc_n]) (fun j hj => by simp (disch := omega) only [up_eq, upc_s, upc_n, upd_n])))))))))
  refine s_out (a := 0) (b := 1) (by decide) (by decide) (fun hy => br_t rfl ?_) (fun hy => br_f (by decide) (k _ _ (fun G g => e_X8_nail (s_isThingM (μ := up μ 279 0 0) l2 (by omega) (fun _ => br_f (by decide) (s_in (a := 0) (b := 1) (by decide) (by decide) rfl rfl (fun h => absurd h hy) (fun _ => nr_t rfl (g _ (Inv.q hI (fun k hk => by simp (disch := omega) only [up_eq, upc_n]) (fun j hj => by simp (disch := omega) only [up_eq, upc_s, upc_n, upd_n])))))) (fun h => absurd hx h)))))
  obtain ⟨t, ht, rfl⟩ := hx
  have hy' := hy
  obtain ⟨c, -, hc, rfl⟩ := hy
  have vp5 : vp_in 5 58 := vp_in_nI (n := 5) (by decide) (by decide)
  have eb : ((nI (z 5) >>> (nI t &&& 31)) &&& 1) = nI (z 5 / 2 ^ t % 2) := sh_b (by omega) (by omega)
  have hx5 : z 5 ^^^ 2 ^ t < 32 := Nat.xor_lt_two_pow (n := 5) v5 (Nat.pow_lt_pow_right (by decide) (by omega))
  have ex : nI (z 5) ^^^ ((1 : Int32) <<< (nI t &&& 31)) = nI (z 5 ^^^ 2 ^ t) := by rw [show (1 : Int32) <<< (nI t &&& 31) = nI 1 <<< (nI t &&& nI 31) from rfl, sh_1 (by omega), nI_xor]
  have vun : VL (un z 5 (z 5 ^^^ 2 ^ t)) := by
    unfold VL
    rw [show un z 5 (z 5 ^^^ 2 ^ t) 0 = z 0 from rfl, show un z 5 (z 5 ^^^ 2 ^ t) 1 = z 1 from rfl, show un z 5 (z 5 ^^^ 2 ^ t) 2 = z 2 from rfl, show un z 5 (z 5 ^^^ 2 ^ t) 3 = z 3 from rfl, show un z 5 (z 5 ^^^ 2 ^ t) 4 = z 4 from rfl]
    refine ⟨v0, v1, v2, v3, v4, hx5, v6, fun a ha => ?_, fun a ha => ?_⟩
    · rw [un_n _ _ (by omega), un_n _ _ (by omega)]
      exact v7 a ha
    · rw [un_n _ _ (by omega), un_n _ _ (by omega), un_n _ _ (by omega), un_n _ _ (by omega), un_n _ _ (by omega), un_n _ _ (by omega)]
      exact v8 a ha
  have st : z 5 / 2 ^ t % 2 = c → K (-1000002) μ := by
    intro e
    refine k _ _ (fun G g => e_X8_nail (s_isThingM (μ := up μ 279 0 0) l2 (by omega) (fun _ => br_f (by decide) (s_in (a := 0) (b := 1) (by decide) (by decide) rfl rfl (fun _ => nr_f (by decide) ⟨vp5, ?_⟩) (fun h => absurd hy' h))) (fun h => absurd ⟨t, ht, rfl⟩ h)))
    rw [show (up μ 279 0 0) 283 (5 : Int32).toNatClampNeg = nI (z 5) from l5, eb, e]
    exact nr_t rfl (g _ (Inv.q hI (fun k hk => by simp (disch := omega) only [up_eq, upc_n]) (fun j hj => by simp (disch := omega) only [up_eq, upc_s, upc_n, upd_n])))
  have go : ¬ z 5 / 2 ^ t % 2 = c → cV (cM 29) 1 [.ref 53, .ref 16] μ (fun μ52 => K ((μ52 16 5) ^^^ (1 <<< (nI t &&& 31))) (up μ52 16 5 ((μ52 16 5) ^^^ (1 <<< (nI t &&& 31))))) := by
    intro e
    refine s_act (c := 16) (s := 5) (v := z 5 ^^^ 2 ^ t) (i := 5) hI hz (by decide) (by decide) vun (by decide) (fun ν h => LR_nail h) (fun ν fr H => ?_)
    rw [show ν 16 5 = nI (z 5) by rw [fr 16 (by decide)]; exact r5, ex]
    have f3 : (up (up ν 16 5 (nI (z 5 ^^^ 2 ^ t))) 279 0 0) 283 = μ 283 := fr 283 (by decide)
    refine k _ _ (fun G g => e_X8_nail (s_isThingM (n := z 2) (by rw [f3]; exact l2) (by omega) (fun _ => br_f (by decide) (s_in (a := 0) (b := 1) (by decide) (by decide) rfl rfl (fun _ => nr_f (by decide) ⟨vp5, ?_⟩) (fun h => absurd hy' h))) (fun h => absurd ⟨t, ht, rfl⟩ h)))
    rw [f3, show μ 283 (5 : Int32).toNatClampNeg = nI (z 5) from l5, eb, nI_eq (by omega) (by omega)]
    refine nr_f e (H _ _ (fun a ha => by rw [up_eq]; exact upc_n _ _ ha) (fun j hj => ?_) (fun σ lmσ inv => ⟨vp5, vp5, vp5, ?_⟩))
    · rw [up_eq, upc_s, upd_n _ _ hj]
      show ν 279 j = _
      rw [fr 279 (by decide)]
    · rw [show (5 : Int32).toNatClampNeg = 5 from rfl, lmσ 5 (by decide), ex, show (up σ 283 5 (nI (z 5 ^^^ 2 ^ t))) 283 5 = nI (z 5 ^^^ 2 ^ t) from rfl]
      exact g _ inv
  rcases (show c = 0 ∨ c = 1 by omega) with rfl | rfl
  · exact s_isNailed (n := z 5) (by decide) r5 v5 (by omega) (fun b => nr_f (by decide) (nr_t rfl (st b))) (fun b => nr_f (by decide) (nr_f (by decide) (go b)))
  · exact s_isNailed (n := z 5) (by decide) r5 v5 (by omega) (fun b => nr_t rfl (nr_f (by decide) (go (by omega)))) (fun b => nr_t rfl (nr_t rfl (st (by omega))))
theorem s_becomes {μ ρ : Mm} {G : Int32 → Mm → Prop} {z : Nat → Nat} {q e v : Nat} (hq : q < z 3) (h3 : z 3 ≤ 7) (h4 : z 4 ≤ 2000) (hd : z (21 + 6 * q) = 0) (he : e < 6) (lmρ : LM (ρ 283) z) (H : ∀ (G : Mm → Prop), (∀ σ : Mm, LM (σ 283) z → Inv (up σ 283 (16 + e + 6 * q) (nI v)) → G σ) → cV (cM 28) 141 [.ref 279] ρ G) (g : ∀ μ2, Inv μ2 → G (nI (z (16 + e + 6 * q))) μ2) : cI (cM 29) 145 [.ref 279, .int (nI q), .int (nI e), .int (nI v)] ρ G := by
  refine e_X8_becomes (s_lives (Or.inl rfl) lmρ (by omega) (by omega) (fun c => absurd hd c) (fun _ => nr_f (by decide) (H _ (fun σ lmσ inv => s_of (Or.inl rfl) lmσ (by omega) he ?_))))
  rw [show (16 : Int32) = nI 16 from rfl, show (6 : Int32) = nI 6 from rfl, pk_mul, nI_add, nI_add, nI_clamp (by omega), show 16 + 6 * q + e = 16 + e + 6 * q by omega]
  exact ⟨vp_in_nI (by omega) (by decide), g _ inv⟩
theorem op_keepIn {μ : Mm} {K : Int32 → Mm → Prop} {x y : Int32} (hI : Inv μ) (k : ∀ a μ1, Nx 146 [.ref 279, .int x, .int y] a μ1 → K a μ1) : cI (cM 30) 63 [.ref 0, .int x, .int y] μ K := by
  obtain ⟨z, hz⟩ := hI.2.2.2.2.1
  obtain ⟨vz, v9, lr, lm⟩ := hz
  have vz' := vz
  obtain ⟨v0, v1, v2, v3, v4, v5, v6, v7, v8⟩ := vz
  have r0 := lr.1
  have r3 := lr.2.2.2.1
  have r4 := lr.2.2.2.2.1
  have r5 := lr.2.2.2.2.2.1
  have r6 := lr.2.2.2.2.2.2.1
  have l0 := lm 0 (by decide)
  have l2 := lm 2 (by decide)
  have l3 := lm 3 (by decide)
  have l5 := lm 5 (by decide)
  have hz : IZ μ z := ⟨vz', v9, lr, lm⟩
  refine e_X7_keepIn (s_isPerson r4 (by omega) (fun hx => br_f (by decide) ?_) (fun hx => br_t rfl (k _ _ (fun G g => e_X8_keepIn (s_isPersonM (μ := up μ 279 0 0) l3 (by omega) (fun h => absurd h hx) (fun _ => br_t rfl (g _ (Inv.q hI (fun k hk => by simp (disch := omega) only [up_eq, upc_n]) (fun j hj => by simp (disch := omega) only [up_eq, upc_s, upc_n, upd_n])))))))))
  refine s_out (a := 0) (b := 60) (by decide) (by decide) (fun hy => br_t rfl ?_) (fun hy => br_f (by decide) (k _ _ (fun G g => e_X8_keepIn (s_isPersonM (μ := up μ 279 0 0) l3 (by omega) (fun _ => br_f (by decide) (s_in (a := 0) (b := 60) (by decide) (by decide) rfl rfl (fun h => absurd h hy) (fun _ => br_t rfl (g _ (Inv.q hI (fun k hk => by simp (disch := omega) only [up_eq, upc_n]) (fun j hj => by simp (disch := omega) only [up_eq, upc_s, upc_n, upd_n])))))) (fun h => absurd hx h)))))
  obtain ⟨q, hq, rfl⟩ := hx
  obtain ⟨v, -, hv, rfl⟩ := hy
  have cl : (nI q).toNatClampNeg = q := nI_clamp (by omega)
  have w6 := (v8 q hq).2.2.2.2.2
  refine s_isLiving (z := z) (by decide) r6 v3 hq (fun c => nr_t rfl ?_) (fun c => nr_f (by decide) ?_)
  · have f3 : (up μ 279 0 0) 283 = μ 283 := rfl
    refine k _ _ (fun G g => e_X8_keepIn (s_isPersonM (μ := up μ 279 0 0) l3 (by omega) (fun _ => br_f (by decide) (s_in (a := 0) (b := 60) (by decide) (by decide) rfl rfl (fun _ => br_f (by decide) (e_X8_becomes (s_lives (Or.inl rfl) (LM_th lm) (by omega) (by omega) (fun _ => nr_t rfl (g _ (Inv.q hI (fun k hk => by simp (disch := omega) only [up_eq, upc_n]) (fun j hj => by simp (disch := omega) only [up_eq, upc_s, upc_n, upd_n])))) (fun c2 => absurd c2 c)))) (fun h => absurd ⟨v, by omega, hv, rfl⟩ h))) (fun h => absurd ⟨q, hq, rfl⟩ h)))
  refine s_act (c := 23) (s := q) (v := v) (i := 20 + 6 * q) hI hz (by decide) (by decide) (VL_un vz' (by decide) (by decide) (by omega) (by omega) (by omega) (by omega) (fun _ => hv) (by omega)) (by omega) (fun ν h => LR_set h v2 (Or.inr (Or.inr ⟨rfl, rfl⟩))) (fun ν fr H => ⟨vp_in_nI (by omega) (by decide), vp_in_nI (by omega) (by decide), ?_⟩)
  rw [cl, show ν 23 q = nI (z (20 + 6 * q)) by rw [fr 23 (by decide)]; exact (lr.2.2.2.2.2.2.2.2 q hq).2.2.2.2.1]
  have f3 : (up (up ν 23 q (nI v)) 279 0 0) 283 = μ 283 := fr 283 (by decide)
  refine k _ _ (fun G g => e_X8_keepIn (s_isPersonM (n := z 3) (by rw [f3]; exact l3) (by omega) (fun _ => br_f (by decide) (s_in (a := 0) (b := 60) (by decide) (by decide) rfl rfl (fun _ => br_f (by decide) ?_) (fun h => absurd ⟨v, by omega, hv, rfl⟩ h))) (fun h => absurd ⟨q, hq, rfl⟩ h)))
  refine s_becomes (μ := μ) (z := z) (e := 4) (v := v) hq v3 v4 c (by decide) (by rw [f3]; exact lm) (fun G hG => H G _ (fun a ha => by rw [up_eq]; exact upc_n _ _ ha) (fun j hj => ?_) hG) g
  rw [up_eq, upc_s, upd_n _ _ hj]
  show ν 279 j = _
  rw [fr 279 (by decide)]
theorem op_call {μ : Mm} {K : Int32 → Mm → Prop} {x y : Int32} (hI : Inv μ) (k : ∀ a μ1, Nx 147 [.ref 279, .int x, .int y] a μ1 → K a μ1) : cI (cM 30) 64 [.ref 0, .int x, .int y] μ K := by
  obtain ⟨z, hz⟩ := hI.2.2.2.2.1
  obtain ⟨vz, v9, lr, lm⟩ := hz
  have vz' := vz
  obtain ⟨v0, v1, v2, v3, v4, v5, v6, v7, v8⟩ := vz
  have r0 := lr.1
  have r3 := lr.2.2.2.1
  have r4 := lr.2.2.2.2.1
  have r5 := lr.2.2.2.2.2.1
  have r6 := lr.2.2.2.2.2.2.1
  have l0 := lm 0 (by decide)
  have l2 := lm 2 (by decide)
  have l3 := lm 3 (by decide)
  have l5 := lm 5 (by decide)
  have hz : IZ μ z := ⟨vz', v9, lr, lm⟩
  refine e_X7_call (s_isPerson r4 (by omega) (fun hx => br_f (by decide) ?_) (fun hx => br_t rfl (k _ _ (fun G g => e_X8_call (s_isPersonM (μ := up μ 279 0 0) l3 (by omega) (fun h => absurd h hx) (fun _ => br_t rfl (g _ (Inv.q hI (fun k hk => by simp (disch := omega) only [up_eq, upc_n]) (fun j hj => by simp (disch := omega) only [up_eq, upc_s, upc_n, upd_n])))))))))
  refine s_isThing r3 (by omega) (fun hy => nr_f (by decide) ?_) (fun hy => nr_t rfl (k _ _ (fun G g => e_X8_call (s_isPersonM (μ := up μ 279 0 0) l3 (by omega) (fun _ => br_f (by decide) (s_isThingM (μ := up μ 279 0 0) l2 (by omega) (fun h => absurd h hy) (fun _ => br_t rfl (g _ (Inv.q hI (fun k hk => by simp (disch := omega) only [up_eq, upc_n]) (fun j hj => by simp (disch := omega) only [up_eq, upc_s, upc_n, upd_n])))))) (fun h => absurd hx h)))))
  obtain ⟨q, hq, rfl⟩ := hx
  obtain ⟨v, hv, rfl⟩ := hy
  have cl : (nI q).toNatClampNeg = q := nI_clamp (by omega)
  have w6 := (v8 q hq).2.2.2.2.2
  refine s_isLiving (z := z) (by decide) r6 v3 hq (fun c => nr_t rfl ?_) (fun c => nr_f (by decide) ?_)
  · have f3 : (up μ 279 0 0) 283 = μ 283 := rfl
    refine k _ _ (fun G g => e_X8_call (s_isPersonM (μ := up μ 279 0 0) l3 (by omega) (fun _ => br_f (by decide) (s_isThingM (μ := up μ 279 0 0) l2 (by omega) (fun _ => br_f (by decide) (e_X8_becomes (s_lives (Or.inl rfl) (LM_th lm) (by omega) (by omega) (fun _ => nr_t rfl (g _ (Inv.q hI (fun k hk => by simp (disch := omega) only [up_eq, upc_n]) (fun j hj => by simp (disch := omega) only [up_eq, upc_s, upc_n, upd_n])))) (fun c2 => absurd c2 c)))) (fun h => absurd ⟨v, hv, rfl⟩ h))) (fun h => absurd ⟨q, hq, rfl⟩ h)))
  refine s_act (c := 20) (s := q) (v := v) (i := 17 + 6 * q) hI hz (by decide) (by decide) (VL_un vz' (by decide) (by decide) (by omega) (fun _ => hv) (by omega) (by omega) (by omega) (by omega)) (by omega) (fun ν h => LR_set h v2 (Or.inl ⟨rfl, rfl⟩)) (fun ν fr H => ⟨vp_in_nI (by omega) (by decide), vp_in_nI (by omega) (by decide), ?_⟩)
  rw [cl, show ν 20 q = nI (z (17 + 6 * q)) by rw [fr 20 (by decide)]; exact (lr.2.2.2.2.2.2.2.2 q hq).2.1]
  have f3 : (up (up ν 20 q (nI v)) 279 0 0) 283 = μ 283 := fr 283 (by decide)
  refine k _ _ (fun G g => e_X8_call (s_isPersonM (n := z 3) (by rw [f3]; exact l3) (by omega) (fun _ => br_f (by decide) (s_isThingM (n := z 2) (by rw [f3]; exact l2) (by omega) (fun _ => br_f (by decide) ?_) (fun h => absurd ⟨v, hv, rfl⟩ h))) (fun h => absurd ⟨q, hq, rfl⟩ h)))
  refine s_becomes (μ := μ) (z := z) (e := 1) (v := v) hq v3 v4 c (by decide) (by rw [f3]; exact lm) (fun G hG => H G _ (fun a ha => by rw [up_eq]; exact upc_n _ _ ha) (fun j hj => ?_) hG) g
  rw [up_eq, upc_s, upd_n _ _ hj]
  show ν 279 j = _
  rw [fr 279 (by decide)]
theorem op_move {μ : Mm} {K : Int32 → Mm → Prop} {x y : Int32} (hI : Inv μ) (k : ∀ a μ1, Nx 148 [.ref 279, .int x, .int y] a μ1 → K a μ1) : cI (cM 30) 65 [.ref 0, .int x, .int y] μ K := by
  obtain ⟨z, hz⟩ := hI.2.2.2.2.1
  obtain ⟨vz, v9, lr, lm⟩ := hz
  have vz' := vz
  obtain ⟨v0, v1, v2, v3, v4, v5, v6, v7, v8⟩ := vz
  have r0 := lr.1
  have r3 := lr.2.2.2.1
  have r4 := lr.2.2.2.2.1
  have r5 := lr.2.2.2.2.2.1
  have r6 := lr.2.2.2.2.2.2.1
  have l0 := lm 0 (by decide)
  have l2 := lm 2 (by decide)
  have l3 := lm 3 (by decide)
  have l5 := lm 5 (by decide)
  have hz : IZ μ z := ⟨vz', v9, lr, lm⟩
  refine e_X7_move (s_isPerson r4 (by omega) (fun hx => br_f (by decide) ?_) (fun hx => br_t rfl (k _ _ (fun G g => e_X8_move (s_isPersonM (μ := up μ 279 0 0) l3 (by omega) (fun h => absurd h hx) (fun _ => br_t rfl (g _ (Inv.q hI (fun k hk => by simp (disch := omega) only [up_eq, upc_n]) (fun j hj => by simp (disch := omega) only [up_eq, upc_s, upc_n, upd_n])))))))))
  refine s_isPlace r0 (by omega) (fun hy => nr_f (by decide) ?_) (fun hy => nr_t rfl (k _ _ (fun G g => e_X8_move (s_isPersonM (μ := up μ 279 0 0) l3 (by omega) (fun _ => br_f (by decide) (s_isPlaceM (μ := up μ 279 0 0) l0 (by omega) (fun h => absurd h hy) (fun _ => br_t rfl (g _ (Inv.q hI (fun k hk => by simp (disch := omega) only [up_eq, upc_n]) (fun j hj => by simp (disch := omega) only [up_eq, upc_s, upc_n, upd_n])))))) (fun h => absurd hx h)))))
  obtain ⟨q, hq, rfl⟩ := hx
  obtain ⟨v, hv, rfl⟩ := hy
  have cl : (nI q).toNatClampNeg = q := nI_clamp (by omega)
  have w6 := (v8 q hq).2.2.2.2.2
  refine s_isLiving (z := z) (by decide) r6 v3 hq (fun c => nr_t rfl ?_) (fun c => nr_f (by decide) ?_)
  · have f3 : (up μ 279 0 0) 283 = μ 283 := rfl
    refine k _ _ (fun G g => e_X8_move (s_isPersonM (μ := up μ 279 0 0) l3 (by omega) (fun _ => br_f (by decide) (s_isPlaceM (μ := up μ 279 0 0) l0 (by omega) (fun _ => br_f (by decide) (e_X8_becomes (s_lives (Or.inl rfl) (LM_th lm) (by omega) (by omega) (fun _ => nr_t rfl (g _ (Inv.q hI (fun k hk => by simp (disch := omega) only [up_eq, upc_n]) (fun j hj => by simp (disch := omega) only [up_eq, upc_s, upc_n, upd_n])))) (fun c2 => absurd c2 c)))) (fun h => absurd ⟨v, hv, rfl⟩ h))) (fun h => absurd ⟨q, hq, rfl⟩ h)))
  refine s_act (c := 21) (s := q) (v := v) (i := 18 + 6 * q) hI hz (by decide) (by decide) (VL_un vz' (by decide) (by decide) (by omega) (by omega) (fun _ => hv) (by omega) (by omega) (by omega)) (by omega) (fun ν h => LR_set h v2 (Or.inr (Or.inl ⟨rfl, rfl⟩))) (fun ν fr H => ⟨vp_in_nI (by omega) (by decide), vp_in_nI (by omega) (by decide), ?_⟩)
  rw [cl, show ν 21 q = nI (z (18 + 6 * q)) by rw [fr 21 (by decide)]; exact (lr.2.2.2.2.2.2.2.2 q hq).2.2.1]
  have f3 : (up (up ν 21 q (nI v)) 279 0 0) 283 = μ 283 := fr 283 (by decide)
  refine k _ _ (fun G g => e_X8_move (s_isPersonM (n := z 3) (by rw [f3]; exact l3) (by omega) (fun _ => br_f (by decide) (s_isPlaceM (n := z 0) (by rw [f3]; exact l0) (by omega) (fun _ => br_f (by decide) ?_) (fun h => absurd ⟨v, hv, rfl⟩ h))) (fun h => absurd ⟨q, hq, rfl⟩ h)))
  refine s_becomes (μ := μ) (z := z) (e := 2) (v := v) hq v3 v4 c (by decide) (by rw [f3]; exact lm) (fun G hG => H G _ (fun a ha => by rw [up_eq]; exact upc_n _ _ ha) (fun j hj => ?_) hG) g
  rw [up_eq, upc_s, upd_n _ _ hj]
  show ν 279 j = _
  rw [fr 279 (by decide)]
