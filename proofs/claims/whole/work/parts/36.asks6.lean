/-! ===== as, thing, trace, count ===== -/
theorem Inv.s {μ μ' : Mm} (h : Inv μ) (e : ∀ k, (0 < k ∧ k < 25) ∨ (34 ≤ k ∧ k ≤ 270) ∨ k = 277 ∨ k = 278 ∨ (280 ≤ k ∧ k ≤ 283) ∨ (286 ≤ k ∧ k ≤ 290) → μ' k = μ k) (e9 : ∀ j, ¬ j = 0 → ¬ j = 1 → μ' 279 j = μ 279 j) (hs : μ' 0 10 = μ' 279 1) : Inv μ' := by
  obtain ⟨h1, h2, h3, h4, ⟨z, h5⟩, h6, h7, h8⟩ := h
  have f : ∀ k, (0 < k ∧ k < 25) ∨ (34 ≤ k ∧ k ≤ 270) ∨ k = 277 ∨ k = 278 ∨ (280 ≤ k ∧ k ≤ 283) ∨ (286 ≤ k ∧ k ≤ 290) → ∀ j, μ' k j = μ k j := fun k hk j => by rw [e k hk]
  exact ⟨h1.fr (e _ (by omega)) (e _ (by omega)) (e _ (by omega)) (e _ (by omega)) (e _ (by omega)) (e _ (by omega)), hs, h3.fr (f _ (by omega) _) (e9 _ (by decide) (by decide)) (e _ (by omega)) (e _ (by omega)), h4.fr (f _ (by omega) _) (e9 _ (by decide) (by decide)), ⟨z, h5.fr (fun k a b => e k (by omega)) (e _ (by omega))⟩, h6.fr (e _ (by omega)) (e9 _ (by decide) (by decide)) (fun k a b => e k (by omega)) (e _ (by omega)), h7.fr (fun k a b => e k (by omega)) (e _ (by omega)) (e _ (by omega)), h8.fr (f _ (by omega) _) (e9 _ (by decide) (by decide)) (e _ (by omega)) (e _ (by omega))⟩
def kf (s c : Nat) : Prop := c = 0 ∨ c = s ∨ (c = 1 ∧ s < 4) ∨ (c = 4 ∧ s = 5)
theorem s_kindC {d : Nat} {μ : Mm} {K : Int32 → Mm → Prop} {s c : Nat} (hs : s < 6) (h1 : 1 ≤ s) (hc : c < 6) (k1 : kf s c → K 1 μ) (k0 : ¬ kf s c → K 0 μ) : cI (cM (d + 1)) 96 [.int (nI s), .int (nI c)] μ K := by
  unfold kf at k1 k0
  refine e_X7_isOfKind ?_
  try simp (disch := omega) only [lt0, lt1, lt2, lt3, lt4, lt5, lt6, lt7, lt8, lt9, lt10, lt11, lt12, lt13, lt14, lt15, lt16, lt17, lt18, lt19, lt20, lt21, lt22, lt23, lt24, lt25, lt26, lt27, lt28, lt29, lt30, lt31, lt32, lt33, lt34, lt35, lt36, lt37, lt38, lt39, lt40, lt41, lt42, lt43, lt44, lt45, lt46, lt47, lt48, lt49, lt50, lt51, lt52, lt53, lt54, lt55, lt56, lt57, lt58, lt59, lt60, lt61, lt62, lt63, lt64, lt97, lt98, lt99, lt100, lt107, lt110, lt114, lt115, lt116, lt119, lt122, lt208, lt255, lt999, lt1000, nI_add, pk_mul, nI_clamp, vp_t, nI_leI, nI_ltI, nI_eq, true_and, and_true, true_implies, false_implies, not_true_eq_false, not_false_eq_true, eq_self, implies_true, true_or, or_true, Nat.add_zero, Nat.reduceAdd, Nat.reduceMul, Nat.reduceEqDiff, Nat.reduceLeDiff, Nat.reduceLT, Nat.reduceSub]
  refine br_c (fun a => k1 (by omega)) (fun a => br_c (fun b => k1 (by omega)) (fun b => nr_c (fun c1 => nr_c (fun c4 => k0 (by omega)) (fun c4 => nr_c (fun s5 => k0 (by omega)) (fun s5 => k1 (by omega)))) (fun c1 => br_c (fun s2 => k1 (by omega)) (fun s2 => br_c (fun s3 => k1 (by omega)) (fun s3 => nr_c (fun c4 => k0 (by omega)) (fun c4 => absurd c4 (by omega)))))))
theorem s_kindM {d : Nat} {μ : Mm} {K : Int32 → Mm → Prop} {s c : Nat} (hs : s < 6) (h1 : 1 ≤ s) (hc : c < 6) (k1 : kf s c → K 1 μ) (k0 : ¬ kf s c → K 0 μ) : cI (cM (d + 1)) 174 [.int (nI s), .int (nI c)] μ K := by
  unfold kf at k1 k0
  refine e_X8_isOf ?_
  try simp (disch := omega) only [lt0, lt1, lt2, lt3, lt4, lt5, lt6, lt7, lt8, lt9, lt10, lt11, lt12, lt13, lt14, lt15, lt16, lt17, lt18, lt19, lt20, lt21, lt22, lt23, lt24, lt25, lt26, lt27, lt28, lt29, lt30, lt31, lt32, lt33, lt34, lt35, lt36, lt37, lt38, lt39, lt40, lt41, lt42, lt43, lt44, lt45, lt46, lt47, lt48, lt49, lt50, lt51, lt52, lt53, lt54, lt55, lt56, lt57, lt58, lt59, lt60, lt61, lt62, lt63, lt64, lt97, lt98, lt99, lt100, lt107, lt110, lt114, lt115, lt116, lt119, lt122, lt208, lt255, lt999, lt1000, nI_add, pk_mul, nI_clamp, vp_t, nI_leI, nI_ltI, nI_eq, true_and, and_true, true_implies, false_implies, not_true_eq_false, not_false_eq_true, eq_self, implies_true, true_or, or_true, Nat.add_zero, Nat.reduceAdd, Nat.reduceMul, Nat.reduceEqDiff, Nat.reduceLeDiff, Nat.reduceLT, Nat.reduceSub]
  refine br_c (fun a => k1 (by omega)) (fun a => br_c (fun b => k1 (by omega)) (fun b => nr_c (fun c1 => nr_c (fun c4 => k0 (by omega)) (fun c4 => nr_c (fun s5 => k0 (by omega)) (fun s5 => k1 (by omega)))) (fun c1 => br_c (fun s2 => k1 (by omega)) (fun s2 => nr_c (fun c4 => k0 (by omega)) (fun c4 => absurd c4 (by omega))))))
theorem op_as {μ : Mm} {K : Int32 → Mm → Prop} {x y : Int32} (hI : Inv μ) (k : ∀ a μ1, Nx 176 [.ref 279, .int x, .int y] a μ1 → K a μ1) : cI (cM 30) 87 [.ref 0, .int x, .int y] μ K := by
  obtain ⟨z, hz⟩ := hI.2.2.2.2.1
  obtain ⟨vz, v9, lr, lm⟩ := hz
  have vz' := vz
  obtain ⟨v0, v1, v2, v3, v4, v5, v6, v7, v8⟩ := vz
  have r0 := lr.1
  have r3 := lr.2.2.2.1
  have r4 := lr.2.2.2.2.1
  have r5 := lr.2.2.2.2.2.1
  have r6 := lr.2.2.2.2.2.2.1
  have l0 := lm 0 (by decide)
  have l2 := lm 2 (by decide)
  have l3 := lm 3 (by decide)
  have l5 := lm 5 (by decide)
  refine e_X7_as (s_isPerson r4 (by omega) (fun hx => br_f (by decide) ?_) (fun hx => br_t rfl (k _ _ (fun G g => e_X8_as (s_isPersonM (μ := up μ 279 0 0) l3 (by omega) (fun h => absurd h hx) (fun _ => br_t rfl (g _ (Inv.q hI (fun k hk => by simp (disch := omega) only [up_eq, upc_n]) (fun j hj => by simp (disch := omega) only [up_eq, upc_s, upc_n, upd_n])))))))))
  refine s_out (a := 0) (b := 5) (by decide) (by decide) (fun hy => br_t rfl ?_) (fun hy => br_f (by decide) (k _ _ (fun G g => e_X8_as (s_isPersonM (μ := up μ 279 0 0) l3 (by omega) (fun _ => br_f (by decide) (s_in (a := 0) (b := 5) (by decide) (by decide) rfl rfl (fun h => absurd h hy) (fun _ => nr_t rfl (g _ (Inv.q hI (fun k hk => by simp (disch := omega) only [up_eq, upc_n]) (fun j hj => by simp (disch := omega) only [up_eq, upc_s, upc_n, upd_n])))))) (fun h => absurd hx h)))))
  obtain ⟨q, hq, rfl⟩ := hx
  obtain ⟨c, -, hc, rfl⟩ := hy
  obtain ⟨q0, q1, q2, q3, q4, q5⟩ := lr.2.2.2.2.2.2.2.2 q hq
  have w := (v8 q hq).1
  have q0' : μ 19 (nI q).toNatClampNeg = nI (z (16 + 6 * q)) := by rw [nI_clamp (by omega)]; exact q0
  refine ⟨vp_in_nI (by omega) (by decide), ?_⟩
  rw [q0']
  refine s_kindC (by omega) (by omega) (by omega) (fun hk => br_f (by decide) (e_X7_sound ?_)) (fun hk => br_t rfl (e_X7_found ?_))
  · refine k _ _ (fun G g => e_X8_as (s_isPersonM (μ := up (up μ 0 10 0) 279 0 0) l3 (by omega) (fun _ => br_f (by decide) (s_in (a := 0) (b := 5) (by decide) (by decide) rfl rfl (fun _ => nr_f (by decide) ?_) (fun h => absurd ⟨c, by omega, hc, rfl⟩ h))) (fun h => absurd ⟨q, hq, rfl⟩ h)))
    exact s_of (c := 0) (z := z) (Or.inl rfl) lm (by omega) (by decide) (s_kindM (s := z (16 + 6 * q)) (by omega) (by omega) (by omega) (fun _ => br_f (by decide) (g _ (Inv.s hI (fun k hk => by simp (disch := omega) only [up_eq, upc_n]) (fun j hj hj1 => by simp (disch := omega) only [up_eq, upc_s, upc_n, upd_n]) (by simp (disch := omega) only [up_eq, upc_s, upc_n, upd_n, upd_s])))) (fun h => absurd hk h))
  · refine k _ _ (fun G g => e_X8_as (s_isPersonM (μ := up (up μ 0 10 3) 279 0 0) l3 (by omega) (fun _ => br_f (by decide) (s_in (a := 0) (b := 5) (by decide) (by decide) rfl rfl (fun _ => nr_f (by decide) ?_) (fun h => absurd ⟨c, by omega, hc, rfl⟩ h))) (fun h => absurd ⟨q, hq, rfl⟩ h)))
    exact s_of (c := 0) (z := z) (Or.inl rfl) lm (by omega) (by decide) (s_kindM (s := z (16 + 6 * q)) (by omega) (by omega) (by omega) (fun h => absurd h hk) (fun _ => br_t rfl (e_X8_finding (g _ (Inv.s hI (fun k hk => by simp (disch := omega) only [up_eq, upc_n]) (fun j hj hj1 => by simp (disch := omega) only [up_eq, upc_s, upc_n, upd_n]) (by simp (disch := omega) only [up_eq, upc_s, upc_n, upd_n, upd_s]))))))
theorem op_trace {μ : Mm} {K : Int32 → Mm → Prop} {x : Int32} (hI : Inv μ) (k : ∀ a μ1, Nx 183 [.ref 279, .int x] a μ1 → K a μ1) : cI (cM 30) 89 [.ref 0, .int x] μ K := by
  obtain ⟨n, hn, a1, a2, a3⟩ := hI.2.2.2.2.2.2.2
  refine e_X7_trace ?_
  rw [a1]
  refine s_outI (fun hx => br_t rfl ?_) (fun hx => br_f (by decide) (k _ _ (fun G g => e_X8_trace ?_)))
  · obtain ⟨i, hi, rfl⟩ := (rngN (by omega)).mp hx
    refine ⟨vp_in_nI (by omega) (by decide), ?_⟩
    rw [nI_clamp (by omega)]
    refine k _ _ (fun G g => e_X8_trace ?_)
    rw [a2]
    refine s_inI (a := 0) rfl rfl (fun _ => br_f (by decide) ⟨vp_in_nI (by omega) (by decide), ?_⟩) (fun h => absurd hx h)
    rw [nI_clamp (by omega), show (up μ 279 0 0) 290 i = μ 290 i from rfl, ← a3 i hi]
    exact g _ (Inv.q hI (fun k hk => by simp (disch := omega) only [up_eq, upc_n]) (fun j hj => by simp (disch := omega) only [up_eq, upc_s, upc_n, upd_n]))
  · rw [a2]
    exact s_inI (a := 0) rfl rfl (fun h => absurd h hx) (fun _ => br_t rfl (g _ (Inv.q hI (fun k hk => by simp (disch := omega) only [up_eq, upc_n]) (fun j hj => by simp (disch := omega) only [up_eq, upc_s, upc_n, upd_n]))))
def tB (z : Nat → Nat) (t k : Nat) : Nat := if z (17 + 6 * k) = t then 1 else 0
theorem op_thing {μ : Mm} {K : Int32 → Mm → Prop} {x y : Int32} (hI : Inv μ) (k : ∀ a μ1, Nx 151 [.ref 279, .int x, .int y] a μ1 → K a μ1) : cI (cM 30) 67 [.ref 0, .int x, .int y] μ K := by
  obtain ⟨z, hz⟩ := hI.2.2.2.2.1
  obtain ⟨vz, v9, lr, lm⟩ := hz
  have vz' := vz
  obtain ⟨v0, v1, v2, v3, v4, v5, v6, v7, v8⟩ := vz
  have r0 := lr.1
  have r3 := lr.2.2.2.1
  have r4 := lr.2.2.2.2.1
  have r5 := lr.2.2.2.2.2.1
  have r6 := lr.2.2.2.2.2.2.1
  have l0 := lm 0 (by decide)
  have l2 := lm 2 (by decide)
  have l3 := lm 3 (by decide)
  have l5 := lm 5 (by decide)
  refine e_X7_thing (s_isThing r3 (by omega) (fun hx => nr_f (by decide) ?_) (fun hx => nr_t rfl (k _ _ (fun G g => e_X8_thing (s_isThingM (μ := up μ 279 0 0) l2 (by omega) (fun h => absurd h hx) (fun _ => br_t rfl (g _ (Inv.q hI (fun k hk => by simp (disch := omega) only [up_eq, upc_n]) (fun j hj => by simp (disch := omega) only [up_eq, upc_s, upc_n, upd_n])))))))))
  obtain ⟨t, ht, rfl⟩ := hx
  obtain ⟨t0, t1⟩ := lr.2.2.2.2.2.2.2.1 t ht
  have w := v7 t ht
  have lmt : LM ((up μ 279 0 0) 283) z := lm
  have P : ∀ b (c : Nat), c ≤ 3 → y = nI c → (∀ G : Int32 → Mm → Prop, G b (up μ 279 0 0) → ((2 ≤ y → ((¬ y = 2 → G (oB (tB z t) (z 3)) (up μ 279 0 0)) ∧ (y = 2 → (vp_in 5 58 ∧ G (((up μ 279 0 0) 283 (5 : Int32).toNatClampNeg >>> (nI t &&& 31)) &&& 1) (up μ 279 0 0))))) ∧ (¬ 2 ≤ y → (vp_in ((6 + (2 * nI t)) + y) 58 ∧ G ((up μ 279 0 0) 283 (((6 + (2 * nI t)) + y)).toNatClampNeg) (up μ 279 0 0))))) → K b μ := by
    intro b c hc hy hb
    refine k _ _ (fun G g => e_X8_thing (s_isThingM (μ := up μ 279 0 0) l2 (by omega) (fun _ => br_f (by decide) (s_in (a := 0) (b := 3) (by decide) (by decide) rfl rfl (fun _ => nr_f (by decide) ?_) (fun h => absurd ⟨c, by omega, hc, hy⟩ h))) (fun h => absurd ⟨t, ht, rfl⟩ h)))
    have hG := hb G (g _ (Inv.q hI (fun k hk => by simp (disch := omega) only [up_eq, upc_n]) (fun j hj => by simp (disch := omega) only [up_eq, upc_s, upc_n, upd_n])))
    have key : ∀ m i, i + m = z 3 → jX8_thing 29 G 33 [some (.ref 279), some (.int (nI t)), some (.int y), some (.int (oB (tB z t) i)), some (.int (nI i))] [] (up μ 279 0 0) := by
      intro m
      induction m with
      | zero =>
        intro i hi
        obtain rfl : i = z 3 := by omega
        refine k_X8_thing_33 ⟨vp_in_nI (n := 3) (by decide) (by decide), ?_⟩
        rw [show (up μ 279 0 0) 283 (3 : Int32).toNatClampNeg = nI (z 3) from l3]
        exact br_t (nI_le (Nat.le_refl _) (by omega)) hG
      | succ m ih =>
        intro i hi
        have i2 := ih (i + 1) (by omega)
        have w2 := (v8 i (by omega)).2.1
        refine k_X8_thing_33 ⟨vp_in_nI (n := 3) (by decide) (by decide), ?_⟩
        rw [show (up μ 279 0 0) 283 (3 : Int32).toNatClampNeg = nI (z 3) from l3, nI_leI (by omega) (by omega), show nI i + 1 = nI (i + 1) by rw [show (1 : Int32) = nI 1 from rfl, nI_add]]
        refine br_f (by omega) (s_of (c := 1) (Or.inl rfl) lmt (by omega) (by decide) ?_)
        rw [show 16 + 6 * i + 1 = 17 + 6 * i by omega, nI_eq (by omega) (by omega)]
        refine nr_c (fun c => ?_) (fun c => ?_)
        · rw [oB_0 (show tB z t i = 0 from if_neg c)] at i2
          exact i2
        · rw [oB_1 (show ¬ tB z t i = 0 by unfold tB; rw [if_pos c]; decide)] at i2
          exact i2
    exact key (z 3) 0 (by omega)
  have vp : vp_in (nI t) 5 := vp_in_nI (by omega) (by decide)
  have cl : (nI t).toNatClampNeg = t := nI_clamp (by omega)
  rw [cl]
  have ca : ∀ c, c < 2 → vp_in (((6 : Int32) + (2 * nI t)) + nI c) 58 ∧ (((6 : Int32) + (2 * nI t)) + nI c).toNatClampNeg = 6 + 2 * t + c := by
    intro c hc
    rw [show (6 : Int32) = nI 6 from rfl, show (2 : Int32) = nI 2 from rfl, pk_mul, nI_add, nI_add]
    exact ⟨vp_in_nI (by omega) (by decide), nI_clamp (by omega)⟩
  refine br_c (fun y0 => ⟨vp, P _ 0 (by decide) y0 (fun G hG => ?_)⟩) (fun y0 => ?_)
  · subst y0
    refine br_f (by decide) ⟨(ca 0 (by decide)).1, ?_⟩
    rw [show ((6 : Int32) + (2 * nI t)) + 0 = ((6 : Int32) + (2 * nI t)) + nI 0 from rfl, (ca 0 (by decide)).2, show (up μ 279 0 0) 283 (6 + 2 * t + 0) = μ 283 (6 + 2 * t) from rfl, lm _ (by omega), ← t0]
    exact hG
  refine br_c (fun y1 => ⟨vp, P _ 1 (by decide) y1 (fun G hG => ?_)⟩) (fun y1 => ?_)
  · subst y1
    refine br_f (by decide) ⟨(ca 1 (by decide)).1, ?_⟩
    rw [show ((6 : Int32) + (2 * nI t)) + 1 = ((6 : Int32) + (2 * nI t)) + nI 1 from rfl, (ca 1 (by decide)).2, show 6 + 2 * t + 1 = 7 + 2 * t by omega, show (up μ 279 0 0) 283 (7 + 2 * t) = μ 283 (7 + 2 * t) from rfl, lm _ (by omega), ← t1]
    exact hG
  refine br_c (fun y2 => ?_) (fun y2 => ?_)
  · subst y2
    have e5 : (((up μ 279 0 0) 283 (5 : Int32).toNatClampNeg >>> (nI t &&& 31)) &&& 1) = nI (z 5 / 2 ^ t % 2) := by
      rw [show (up μ 279 0 0) 283 (5 : Int32).toNatClampNeg = nI (z 5) from l5]
      exact sh_b (by omega) (by omega)
    refine s_isNailed (n := z 5) (by decide) r5 v5 (by omega) (fun c => br_t rfl (P _ 2 (by decide) rfl (fun G hG => br_t (by decide) (nr_t rfl ⟨vp_in_nI (n := 5) (by decide) (by decide), ?_⟩)))) (fun c => br_f (by decide) (P _ 2 (by decide) rfl (fun G hG => br_t (by decide) (nr_t rfl ⟨vp_in_nI (n := 5) (by decide) (by decide), ?_⟩))))
    · rw [e5, c]
      exact hG
    · rw [e5, show z 5 / 2 ^ t % 2 = 1 by omega]
      exact hG
  refine br_c (fun y3 => ?_) (fun y3 => ?_)
  · subst y3
    have fin := P _ 3 (by decide) rfl (fun G hG => br_t (by decide) (nr_f (by decide) hG))
    have key : ∀ m i, i + m = z 3 → jX4_calledAfter 28 K 4 [some (.ref 16), some (.int (nI t)), some (.int (oB (tB z t) i)), some (.int (nI i))] [] μ := by
      intro m
      induction m with
      | zero =>
        intro i hi
        obtain rfl : i = z 3 := by omega
        refine k_X4_calledAfter_16_4 ?_
        rw [r4]
        exact br_t (nI_le (Nat.le_refl _) (by omega)) fin
      | succ m ih =>
        intro i hi
        have i2 := ih (i + 1) (by omega)
        have w2 := (v8 i (by omega)).2.1
        have qn : μ 20 (nI i).toNatClampNeg = nI (z (17 + 6 * i)) := by rw [nI_clamp (by omega)]; exact (lr.2.2.2.2.2.2.2.2 i (by omega)).2.1
        refine k_X4_calledAfter_16_4 ?_
        rw [r4, qn, nI_leI (by omega) (by omega), nI_eq (by omega) (by omega), show nI i + 1 = nI (i + 1) by rw [show (1 : Int32) = nI 1 from rfl, nI_add]]
        refine br_f (by omega) ⟨vp_in_nI (by omega) (by decide), nr_c (fun c => ?_) (fun c => ?_)⟩
        · rw [oB_0 (show tB z t i = 0 from if_neg c)] at i2
          exact i2
        · rw [oB_1 (show ¬ tB z t i = 0 by unfold tB; rw [if_pos c]; decide)] at i2
          exact i2
    exact e_X4_calledAfter_16 (key (z 3) 0 (by omega))
  · refine k _ _ (fun G g => e_X8_thing (s_isThingM (μ := up μ 279 0 0) l2 (by omega) (fun _ => br_f (by decide) (s_in (a := 0) (b := 3) (by decide) (by decide) rfl rfl (fun h => ?_) (fun h => nr_t rfl (g _ (Inv.q hI (fun k hk => by simp (disch := omega) only [up_eq, upc_n]) (fun j hj => by simp (disch := omega) only [up_eq, upc_s, upc_n, upd_n])))))) (fun h => absurd ⟨t, ht, rfl⟩ h)))
    obtain ⟨c, -, hc, rfl⟩ := h
    rcases (show c = 0 ∨ c = 1 ∨ c = 2 ∨ c = 3 by omega) with rfl | rfl | rfl | rfl
    · exact absurd rfl y0
    · exact absurd rfl y1
    · exact absurd rfl y2
    · exact absurd rfl y3
