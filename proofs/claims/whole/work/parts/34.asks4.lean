/-! ===== names, safest, meet ===== -/
def nmz (n : Nat) (z : Nat → Nat) (q t : Nat) : Nat := lvn n (un z (17 + 6 * q) t) q
theorem op_names {μ : Mm} {K : Int32 → Mm → Prop} {x y : Int32} (hI : Inv μ) (k : ∀ a μ1, Nx 158 [.ref 279, .int x, .int y] a μ1 → K a μ1) : cI (cM 30) 73 [.ref 0, .int x, .int y] μ K := by
  obtain ⟨z, hz⟩ := hI.2.2.2.2.1
  obtain ⟨vz, v9, lr, lm⟩ := hz
  have vz' := vz
  obtain ⟨v0, v1, v2, v3, v4, v5, v6, v7, v8⟩ := vz
  have r0 := lr.1
  have r3 := lr.2.2.2.1
  have r4 := lr.2.2.2.2.1
  have r5 := lr.2.2.2.2.2.1
  have r6 := lr.2.2.2.2.2.2.1
  have l0 := lm 0 (by decide)
  have l2 := lm 2 (by decide)
  have l3 := lm 3 (by decide)
  have l5 := lm 5 (by decide)
  refine e_X7_names (s_isPerson r4 (by omega) (fun hx => br_f (by decide) ?_) (fun hx => br_t rfl (k _ _ (fun G g => e_X8_names (s_isPersonM (μ := up μ 279 0 0) l3 (by omega) (fun h => absurd h hx) (fun _ => br_t rfl (g _ (Inv.q hI (fun k hk => by simp (disch := omega) only [up_eq, upc_n]) (fun j hj => by simp (disch := omega) only [up_eq, upc_s, upc_n, upd_n])))))))))
  refine s_out (a := 1) (b := 60) (by decide) (by decide) (fun hy => br_t rfl ?_) (fun hy => br_f (by decide) (k _ _ (fun G g => e_X8_names (s_isPersonM (μ := up μ 279 0 0) l3 (by omega) (fun _ => br_f (by decide) (s_in (a := 1) (b := 60) (by decide) (by decide) rfl rfl (fun h => absurd h hy) (fun _ => nr_t rfl (g _ (Inv.q hI (fun k hk => by simp (disch := omega) only [up_eq, upc_n]) (fun j hj => by simp (disch := omega) only [up_eq, upc_s, upc_n, upd_n])))))) (fun h => absurd hx h)))))
  obtain ⟨q, hq, rfl⟩ := hx
  obtain ⟨n, hn1, hn, rfl⟩ := hy
  have w6 := (v8 q hq).2.2.2.2.2
  have w7 := (v8 q hq).2.1
  refine s_isLiving (z := z) (by decide) r6 v3 hq (fun c => nr_t rfl ?_) (fun c => nr_f (by decide) ?_)
  · refine k _ _ (fun G g => e_X8_names (s_isPersonM (μ := up μ 279 0 0) l3 (by omega) (fun _ => br_f (by decide) (s_in (a := 1) (b := 60) (by decide) (by decide) rfl rfl (fun _ => nr_f (by decide) ?_) (fun h => absurd ⟨n, hn1, hn, rfl⟩ h))) (fun h => absurd ⟨q, hq, rfl⟩ h)))
    exact s_lives (Or.inl rfl) (LM_th lm) (by omega) (by omega) (fun _ => nr_t rfl (g _ (Inv.q hI (fun k hk => by simp (disch := omega) only [up_eq, upc_n]) (fun j hj => by simp (disch := omega) only [up_eq, upc_s, upc_n, upd_n])))) (fun c2 => absurd c2 c)
  have vt : ∀ t, t < z 2 → VL (un z (17 + 6 * q) t) := fun t ht => VL_un vz' (by decide) (by decide) (by omega) (fun _ => ht) (by omega) (by omega) (by omega) (by omega)
  have e3 : ∀ t, un z (17 + 6 * q) t 3 = z 3 := fun t => un_n _ _ (by omega)
  have e4 : ∀ t, un z (17 + 6 * q) t 4 = z 4 := fun t => un_n _ _ (by omega)
  have mod : ∀ (f : Nat → Int32), K (oB (nmz n z q) (z 2)) (upc μ 271 f) := by
    intro f
    refine k _ _ (fun G g => e_X8_names (s_isPersonM (μ := up (upc μ 271 f) 279 0 0) l3 (by omega) (fun _ => br_f (by decide) (s_in (a := 1) (b := 60) (by decide) (by decide) rfl rfl (fun _ => nr_f (by decide) ?_) (fun h => absurd ⟨n, hn1, hn, rfl⟩ h))) (fun h => absurd ⟨q, hq, rfl⟩ h)))
    refine s_lives (Or.inl rfl) (z := z) lm (by omega) (by omega) (fun c2 => absurd c c2) (fun _ => nr_f (by decide) ?_)
    have g2 : ∀ f2, G (oB (nmz n z q) (z 2)) (upc (up (upc μ 271 f) 279 0 0) 285 f2) := fun f2 => g _ (Inv.q hI (fun k hk => by simp (disch := omega) only [up_eq, upc_n]) (fun j hj => by simp (disch := omega) only [up_eq, upc_s, upc_n, upd_n]))
    have key : ∀ m i f2, i + m = z 2 → jX8_names 29 G 47 [some (.ref 279), some (.int (nI q)), some (.int (nI n)), some (.int (oB (nmz n z q) i)), some (.int (nI i)), none] [] (upc (up (upc μ 271 f) 279 0 0) 285 f2) := by
      intro m
      induction m with
      | zero =>
        intro i f2 hi
        obtain rfl : i = z 2 := by omega
        refine k_X8_names_47 ⟨vp_in_nI (n := 2) (by decide) (by decide), ?_⟩
        rw [show (upc (up (upc μ 271 f) 279 0 0) 285 f2) 283 (2 : Int32).toNatClampNeg = nI (z 2) from l2, nI_leI (by omega) (by omega)]
        exact br_t (Nat.le_refl _) (g2 f2)
      | succ m ih =>
        intro i f2 hi
        have lm' : LM ((upc (up (upc μ 271 f) 279 0 0) 285 f2) 283) z := lm
        have i2 := fun f3 => ih (i + 1) f3 (by omega)
        have vi := vt i (by omega)
        have wi := itZ_VL n _ vi (by rw [e4]; omega)
        have wq := (wi.1.2.2.2.2.2.2.2.2 q (by rw [wi.2.1, e3]; exact hq)).2.2.2.2.2
        have w4 := wi.2.2.2.2.1
        rw [e4] at w4
        refine k_X8_names_47 ⟨vp_in_nI (n := 2) (by decide) (by decide), ?_⟩
        rw [show (upc (up (upc μ 271 f) 279 0 0) 285 f2) 283 (2 : Int32).toNatClampNeg = nI (z 2) from l2, nI_leI (by omega) (by omega)]
        refine br_f (by omega) (s_layThen (z := z) lm' (fun f3 h3 => ?_))
        try simp (disch := omega) only [lt0, lt1, lt2, lt3, lt4, lt5, lt6, lt7, lt8, lt9, lt10, lt11, lt12, lt13, lt14, lt15, lt16, lt17, lt18, lt19, lt20, lt21, lt22, lt23, lt24, lt25, lt26, lt27, lt28, lt29, lt30, lt31, lt32, lt33, lt34, lt35, lt36, lt37, lt38, lt39, lt40, lt41, lt42, lt43, lt44, lt45, lt46, lt47, lt48, lt49, lt50, lt51, lt52, lt53, lt54, lt55, lt56, lt57, lt58, lt59, lt60, lt61, lt62, lt63, lt64, lt97, lt98, lt99, lt100, lt107, lt110, lt114, lt115, lt116, lt119, lt122, lt208, lt255, lt999, lt1000, nI_add, pk_mul, nI_clamp, vp_t, nI_leI, nI_ltI, nI_eq, true_and, and_true, true_implies, false_implies, not_true_eq_false, not_false_eq_true, eq_self, implies_true, true_or, or_true, Nat.add_zero, Nat.reduceAdd, Nat.reduceMul, Nat.reduceEqDiff, Nat.reduceLeDiff, Nat.reduceLT, Nat.reduceSub, up_eq, upc_s, upc_n, upc_upc]
        rw [show 16 + 6 * q + 1 = 17 + 6 * q by omega]
        refine s_daysOf (z := un z (17 + 6 * q) i) (Or.inr rfl) (by rw [upc_s]; exact h3.up rfl) vi (by rw [e4]; omega) (fun f4 h4 => ?_)
        refine s_lives (Or.inr rfl) (z := itZ n (un z (17 + 6 * q) i)) (by rw [upc_s]; exact h4) (by omega) (by omega) (fun c => br_t rfl ?_) (fun c => br_f (by decide) ?_)
        · rw [oB_0 (show nmz n z q i = 0 from lvn_0 c)] at i2
          rw [upc_upc]
          exact i2 f4
        · rw [oB_1 (show ¬ nmz n z q i = 0 from lvn_1 c)] at i2
          rw [upc_upc]
          exact i2 f4
    have := key (z 2) 0 ((up (upc μ 271 f) 279 0 0) 285) (by omega)
    rw [upc_id] at this
    exact this
  have key : ∀ m i f, i + m = z 2 → jX7_names 29 K 40 [some (.ref 0), some (.int (nI q)), some (.int (nI n)), some (.int (oB (nmz n z q) i)), some (.int (nI i))] [] (upc μ 271 f) := by
    intro m
    induction m with
    | zero =>
      intro i f hi
      obtain rfl : i = z 2 := by omega
      refine k_X7_names_40 ?_
      try simp (disch := omega) only [lt0, lt1, lt2, lt3, lt4, lt5, lt6, lt7, lt8, lt9, lt10, lt11, lt12, lt13, lt14, lt15, lt16, lt17, lt18, lt19, lt20, lt21, lt22, lt23, lt24, lt25, lt26, lt27, lt28, lt29, lt30, lt31, lt32, lt33, lt34, lt35, lt36, lt37, lt38, lt39, lt40, lt41, lt42, lt43, lt44, lt45, lt46, lt47, lt48, lt49, lt50, lt51, lt52, lt53, lt54, lt55, lt56, lt57, lt58, lt59, lt60, lt61, lt62, lt63, lt64, lt97, lt98, lt99, lt100, lt107, lt110, lt114, lt115, lt116, lt119, lt122, lt208, lt255, lt999, lt1000, nI_add, pk_mul, nI_clamp, vp_t, nI_leI, nI_ltI, nI_eq, true_and, and_true, true_implies, false_implies, not_true_eq_false, not_false_eq_true, eq_self, implies_true, true_or, or_true, Nat.add_zero, Nat.reduceAdd, Nat.reduceMul, Nat.reduceEqDiff, Nat.reduceLeDiff, Nat.reduceLT, Nat.reduceSub, up_eq, upc_s, upc_n, upc_upc, r3]
      exact br_t (Nat.le_refl _) (mod f)
    | succ m ih =>
      intro i f hi
      have i2 := fun f3 => ih (i + 1) f3 (by omega)
      refine k_X7_names_40 ?_
      try simp (disch := omega) only [lt0, lt1, lt2, lt3, lt4, lt5, lt6, lt7, lt8, lt9, lt10, lt11, lt12, lt13, lt14, lt15, lt16, lt17, lt18, lt19, lt20, lt21, lt22, lt23, lt24, lt25, lt26, lt27, lt28, lt29, lt30, lt31, lt32, lt33, lt34, lt35, lt36, lt37, lt38, lt39, lt40, lt41, lt42, lt43, lt44, lt45, lt46, lt47, lt48, lt49, lt50, lt51, lt52, lt53, lt54, lt55, lt56, lt57, lt58, lt59, lt60, lt61, lt62, lt63, lt64, lt97, lt98, lt99, lt100, lt107, lt110, lt114, lt115, lt116, lt119, lt122, lt208, lt255, lt999, lt1000, nI_add, pk_mul, nI_clamp, vp_t, nI_leI, nI_ltI, nI_eq, true_and, and_true, true_implies, false_implies, not_true_eq_false, not_false_eq_true, eq_self, implies_true, true_or, or_true, Nat.add_zero, Nat.reduceAdd, Nat.reduceMul, Nat.reduceEqDiff, Nat.reduceLeDiff, Nat.reduceLT, Nat.reduceSub, up_eq, upc_s, upc_n, upc_upc, r3]
      refine br_f (by omega) (s_begin (by decide) (LR_271 lr) vz' hq (fun f2 hf => ?_))
      refine s_callAfter (by decide) (LR_271 lr) vz' (by omega) ?_
      refine s_livesP (FM_name hf (by omega)) (vt i (by omega)) (by rw [e3]; exact hq) (by rw [e4]; omega) (fun c f3 => br_t rfl ?_) (fun c f3 _ => br_f (by decide) ?_)
      · rw [oB_0 (show nmz n z q i = 0 from lvn_0 c)] at i2
        rw [upc_upc]
        exact i2 f3
      · rw [oB_1 (show ¬ nmz n z q i = 0 from lvn_1 c)] at i2
        rw [upc_upc]
        exact i2 f3
  have := key (z 2) 0 (μ 271) (by omega)
  rw [upc_id] at this
  exact this
/-- the best PLACE, and when he dies there -/
def sfB (D : Nat → Nat) : Nat → Nat × Nat
  | 0 => (0, D 0)
  | i + 1 => if D (i + 1) ≤ (sfB D i).2 then sfB D i else (i + 1, D (i + 1))
theorem sfB_le {D : Nat → Nat} {b : Nat} (h : ∀ i, D i ≤ b) : ∀ i, (sfB D i).1 ≤ i ∧ (sfB D i).2 ≤ b
  | 0 => ⟨Nat.le_refl _, h 0⟩
  | i + 1 => by
    have h1 := sfB_le h i
    show (if _ then _ else _ : Nat × Nat).1 ≤ _ ∧ (if _ then _ else _ : Nat × Nat).2 ≤ _
    split
    · exact ⟨by omega, h1.2⟩
    · exact ⟨Nat.le_refl _, h _⟩
def sfD (z : Nat → Nat) (q i : Nat) : Nat := dy 61 0 (un z (18 + 6 * q) i) q
theorem orN_n {n : Nat} (h : n ≤ 61) : (n = 61 ∧ orN n = -1000000) ∨ (¬ orN n = -1000000 ∧ orN n = nI n ∧ n < 61) := by
  unfold orN
  by_cases c : n = 61
  · left
    exact ⟨c, if_pos c⟩
  · right
    rw [if_neg c]
    refine ⟨?_, rfl, by omega⟩
    rw [← Int32.toInt_inj, nI_toInt (by omega)]
    simp
theorem nI_nn {n : Nat} (h : n < 5000) : ¬ nI n = -1000000 := by
  rw [← Int32.toInt_inj, nI_toInt (by omega)]
  simp
theorem op_safest {μ : Mm} {K : Int32 → Mm → Prop} {x : Int32} (hI : Inv μ) (k : ∀ a μ1, Nx 159 [.ref 279, .int x] a μ1 → K a μ1) : cI (cM 30) 74 [.ref 0, .int x] μ K := by
  obtain ⟨z, hz⟩ := hI.2.2.2.2.1
  obtain ⟨vz, v9, lr, lm⟩ := hz
  have vz' := vz
  obtain ⟨v0, v1, v2, v3, v4, v5, v6, v7, v8⟩ := vz
  have r0 := lr.1
  have r3 := lr.2.2.2.1
  have r4 := lr.2.2.2.2.1
  have r5 := lr.2.2.2.2.2.1
  have r6 := lr.2.2.2.2.2.2.1
  have l0 := lm 0 (by decide)
  have l2 := lm 2 (by decide)
  have l3 := lm 3 (by decide)
  have l5 := lm 5 (by decide)
  refine e_X7_safest (s_isPerson r4 (by omega) (fun hx => nr_f (by decide) ?_) (fun hx => nr_t rfl (k _ _ (fun G g => e_X8_safest (s_isPersonM (μ := up μ 279 0 0) l3 (by omega) (fun h => absurd h hx) (fun _ => nr_t rfl (g _ (Inv.q hI (fun k hk => by simp (disch := omega) only [up_eq, upc_n]) (fun j hj => by simp (disch := omega) only [up_eq, upc_s, upc_n, upd_n])))))))))
  obtain ⟨q, hq, rfl⟩ := hx
  have w6 := (v8 q hq).2.2.2.2.2
  have w7 := (v8 q hq).2.1
  refine s_isLiving (z := z) (by decide) r6 v3 hq (fun c => nr_t rfl ?_) (fun c => nr_f (by decide) ?_)
  · refine k _ _ (fun G g => e_X8_safest (s_isPersonM (μ := up μ 279 0 0) l3 (by omega) (fun _ => nr_f (by decide) ?_) (fun h => absurd ⟨q, hq, rfl⟩ h)))
    exact s_lives (Or.inl rfl) (LM_th lm) (by omega) (by omega) (fun _ => nr_t rfl (g _ (Inv.q hI (fun k hk => by simp (disch := omega) only [up_eq, upc_n]) (fun j hj => by simp (disch := omega) only [up_eq, upc_s, upc_n, upd_n])))) (fun c2 => absurd c2 c)
  obtain ⟨N, hN⟩ : ∃ N, z 0 = N + 1 := ⟨z 0 - 1, by omega⟩
  have vt : ∀ t, t < z 0 → VL (un z (18 + 6 * q) t) := fun t ht => VL_un vz' (by decide) (by decide) (by omega) (by omega) (fun _ => ht) (by omega) (by omega) (by omega)
  have e3 : ∀ t, un z (18 + 6 * q) t 3 = z 3 := fun t => un_n _ _ (by omega)
  have e4 : ∀ t, un z (18 + 6 * q) t 4 = z 4 := fun t => un_n _ _ (by omega)
  have dle : ∀ i, sfD z q i ≤ 61 := fun i => dy_le _ _ _ _ (by decide)
  have sle := sfB_le dle
  have mod : ∀ (f : Nat → Int32), K (nI (sfB (sfD z q) N).1) (upc μ 271 f) := by
    intro f
    refine k _ _ (fun G g => e_X8_safest (s_isPersonM (μ := up (upc μ 271 f) 279 0 0) l3 (by omega) (fun _ => nr_f (by decide) ?_) (fun h => absurd ⟨q, hq, rfl⟩ h)))
    refine s_lives (Or.inl rfl) (z := z) lm (by omega) (by omega) (fun c2 => absurd c c2) (fun _ => nr_f (by decide) ?_)
    have g2 : ∀ f2, G (nI (sfB (sfD z q) N).1) (upc (up (upc μ 271 f) 279 0 0) 285 f2) := fun f2 => g _ (Inv.q hI (fun k hk => by simp (disch := omega) only [up_eq, upc_n]) (fun j hj => by simp (disch := omega) only [up_eq, upc_s, upc_n, upd_n]))
    have step : ∀ i (l2 l3 : Int32) f2, i < z 0 → (∀ f3 x, ((sfD z q i = 61 ∧ x = -1000000) ∨ (¬ x = -1000000 ∧ x = nI (sfD z q i) ∧ sfD z q i < 61)) → ((¬ x = -1000000 → ((l2 = -1000000 → jX8_safest 29 G 109 [some (.ref 279), some (.int (nI q)), some (.int l2), some (.int l3), some (.int (nI i)), some (.int x), none] [.int 1] (upc (up (upc μ 271 f) 279 0 0) 285 f3)) ∧ (¬ l2 = -1000000 → ((x ≤ l3 → jX8_safest 29 G 109 [some (.ref 279), some (.int (nI q)), some (.int l2), some (.int l3), some (.int (nI i)), some (.int x), none] [.int 0] (upc (up (upc μ 271 f) 279 0 0) 285 f3)) ∧ (¬ x ≤ l3 → jX8_safest 29 G 109 [some (.ref 279), some (.int (nI q)), some (.int l2), some (.int l3), some (.int (nI i)), some (.int x), none] [.int 1] (upc (up (upc μ 271 f) 279 0 0) 285 f3)))))) ∧ (x = -1000000 → ((l2 = -1000000 → jX8_safest 29 G 109 [some (.ref 279), some (.int (nI q)), some (.int l2), some (.int l3), some (.int (nI i)), some (.int 61), none] [.int 1] (upc (up (upc μ 271 f) 279 0 0) 285 f3)) ∧ (¬ l2 = -1000000 → ((61 ≤ l3 → jX8_safest 29 G 109 [some (.ref 279), some (.int (nI q)), some (.int l2), some (.int l3), some (.int (nI i)), some (.int 61), none] [.int 0] (upc (up (upc μ 271 f) 279 0 0) 285 f3)) ∧ (¬ 61 ≤ l3 → jX8_safest 29 G 109 [some (.ref 279), some (.int (nI q)), some (.int l2), some (.int l3), some (.int (nI i)), some (.int 61), none] [.int 1] (upc (up (upc μ 271 f) 279 0 0) 285 f3)))))))) → jX8_safest 29 G 38 [some (.ref 279), some (.int (nI q)), some (.int l2), some (.int l3), some (.int (nI i)), none, none] [] (upc (up (upc μ 271 f) 279 0 0) 285 f2) := by
      intro i l2 l3 f2 hi kk
      have lm' : LM ((upc (up (upc μ 271 f) 279 0 0) 285 f2) 283) z := lm
      refine k_X8_safest_38 ⟨vp_in_nI (n := 0) (by decide) (by decide), ?_⟩
      rw [show (upc (up (upc μ 271 f) 279 0 0) 285 f2) 283 (0 : Int32).toNatClampNeg = nI (z 0) from l0, nI_leI (by omega) (by omega)]
      refine br_f (by omega) (s_layThen (z := z) lm' (fun f3 h3 => ?_))
      refine ⟨by rw [show (16 : Int32) = nI 16 from rfl, show (6 : Int32) = nI 6 from rfl, show (2 : Int32) = nI 2 from rfl, pk_mul, nI_add, nI_add]; exact vp_in_nI (by omega) (by decide), ?_⟩
      rw [show ((16 : Int32) + 6 * nI q + 2).toNatClampNeg = 18 + 6 * q by rw [show (16 : Int32) = nI 16 from rfl, show (6 : Int32) = nI 6 from rfl, show (2 : Int32) = nI 2 from rfl, pk_mul, nI_add, nI_add, nI_clamp (by omega)]; omega]
      refine s_diesBy (z := un z (18 + 6 * q) i) ?_ (vt i hi) (by rw [e3]; exact hq) (by rw [e4]; omega) (fun f4 => ?_)
      · rw [up_eq, upc_s, upc_s]
        exact h3.up rfl
      · rw [up_eq, upc_upc, upc_upc, upc_upc]
        exact kk f4 _ (orN_n (dle i))
    have k9 : ∀ i (l2 l3 l5 : Int32) ν (s : Int32), (s = 0 → jX8_safest 29 G 38 [some (.ref 279), some (.int (nI q)), some (.int l2), some (.int l3), some (.int (nI (i + 1))), none, none] [] ν) → (s = 1 → jX8_safest 29 G 38 [some (.ref 279), some (.int (nI q)), some (.int (nI i)), some (.int l5), some (.int (nI (i + 1))), none, none] [] ν) → (s = 0 ∨ s = 1) → jX8_safest 29 G 109 [some (.ref 279), some (.int (nI q)), some (.int l2), some (.int l3), some (.int (nI i)), some (.int l5), none] [.int s] ν := by
      intro i l2 l3 l5 ν s a b h
      refine k_X8_safest_109 ?_
      rw [show nI i + 1 = nI (i + 1) by rw [show (1 : Int32) = nI 1 from rfl, nI_add]]
      rcases h with rfl | rfl
      · exact br_t rfl (br_t rfl (a rfl))
      · exact br_f (by decide) (br_f (by decide) (b rfl))
    have key : ∀ m i f2, i + m = N → jX8_safest 29 G 38 [some (.ref 279), some (.int (nI q)), some (.int (nI (sfB (sfD z q) i).1)), some (.int (nI (sfB (sfD z q) i).2)), some (.int (nI (i + 1))), none, none] [] (upc (up (upc μ 271 f) 279 0 0) 285 f2) := by
      intro m
      induction m with
      | zero =>
        intro i f2 hi
        obtain rfl : i = N := by omega
        refine k_X8_safest_38 ⟨vp_in_nI (n := 0) (by decide) (by decide), ?_⟩
        rw [show (upc (up (upc μ 271 f) 279 0 0) 285 f2) 283 (0 : Int32).toNatClampNeg = nI (z 0) from l0, nI_leI (by omega) (by omega)]
        exact br_t (by omega) (g2 f2)
      | succ m ih =>
        intro i f2 hi
        have i2 := fun f3 => ih (i + 1) f3 (by omega)
        have e : sfB (sfD z q) (i + 1) = if sfD z q (i + 1) ≤ (sfB (sfD z q) i).2 then sfB (sfD z q) i else (i + 1, sfD z q (i + 1)) := rfl
        have s1 := (sle i).1
        have s2 := (sle i).2
        have d2 := dle (i + 1)
        refine step (i + 1) _ _ f2 (by omega) (fun f3 x hx => ?_)
        have nn := nI_nn (n := (sfB (sfD z q) i).1) (by omega)
        by_cases c : sfD z q (i + 1) ≤ (sfB (sfD z q) i).2
        · rw [e, if_pos c] at i2
          rcases hx with ⟨h61, rfl⟩ | ⟨hx1, rfl, hlt⟩
          · refine nr_t rfl (br_f nn (br_t ?_ (k9 _ _ _ _ _ 0 (fun _ => i2 f3) (fun h => absurd h (by decide)) (Or.inl rfl))))
            rw [show (61 : Int32) = nI 61 from rfl, nI_leI (by omega) (by omega)]
            omega
          · refine nr_f hx1 (br_f nn (br_t ?_ (k9 _ _ _ _ _ 0 (fun _ => i2 f3) (fun h => absurd h (by decide)) (Or.inl rfl))))
            rw [nI_leI (by omega) (by omega)]
            exact c
        · rw [e, if_neg c] at i2
          rcases hx with ⟨h61, rfl⟩ | ⟨hx1, rfl, hlt⟩
          · rw [h61] at i2
            refine nr_t rfl (br_f nn (br_f ?_ (k9 _ _ _ _ _ 1 (fun h => absurd h (by decide)) (fun _ => i2 f3) (Or.inr rfl))))
            rw [show (61 : Int32) = nI 61 from rfl, nI_leI (by omega) (by omega)]
            omega
          · refine nr_f hx1 (br_f nn (br_f ?_ (k9 _ _ _ _ _ 1 (fun h => absurd h (by decide)) (fun _ => i2 f3) (Or.inr rfl))))
            rw [nI_leI (by omega) (by omega)]
            exact c
    have first := step 0 (-1000000) 0 ((up (upc μ 271 f) 279 0 0) 285) (by omega) (fun f3 x hx => by
      have i2 := key N 0 f3 (by omega)
      rcases hx with ⟨h61, rfl⟩ | ⟨hx1, rfl, hlt⟩
      · refine nr_t rfl (br_t rfl (k9 _ _ _ _ _ 1 (fun h => absurd h (by decide)) (fun _ => ?_) (Or.inr rfl)))
        rw [show (sfB (sfD z q) 0).2 = 61 from h61] at i2
        exact i2
      · exact nr_f hx1 (br_t rfl (k9 _ _ _ _ _ 1 (fun h => absurd h (by decide)) (fun _ => i2) (Or.inr rfl))))
    rw [upc_id] at first
    exact first
  have step : ∀ i (l2 l3 : Int32) f, i < z 0 → (∀ f3, ((nI (sfD z q i) ≤ l3 → jX7_safest 29 K 32 [some (.ref 0), some (.int (nI q)), some (.int l2), some (.int l3), some (.int (nI (i + 1))), none] [] (upc μ 271 f3)) ∧ (¬ nI (sfD z q i) ≤ l3 → jX7_safest 29 K 32 [some (.ref 0), some (.int (nI q)), some (.int (nI i)), some (.int (nI (sfD z q i))), some (.int (nI (i + 1))), none] [] (upc μ 271 f3)))) → jX7_safest 29 K 32 [some (.ref 0), some (.int (nI q)), some (.int l2), some (.int l3), some (.int (nI i)), none] [] (upc μ 271 f) := by
    intro i l2 l3 f hi kk
    refine k_X7_safest_32 ?_
    rw [show (upc μ 271 f) 16 0 = nI (z 0) from r0, nI_leI (by omega) (by omega), show nI i + 1 = nI (i + 1) by rw [show (1 : Int32) = nI 1 from rfl, nI_add]]
    refine br_f (by omega) (s_begin (by decide) (LR_271 lr) vz' hq (fun f2 hf => ?_))
    rw [up_eq, upc_s, upc_upc, upc_upc]
    refine s_diesP (FM_own hf (by omega) (Or.inr (Or.inl ⟨rfl, rfl⟩))) (vt i hi) (by rw [e3]; exact hq) (by rw [e4]; omega) (fun f3 => ?_)
    exact kk f3
  have key : ∀ m i f, i + m = N → jX7_safest 29 K 32 [some (.ref 0), some (.int (nI q)), some (.int (nI (sfB (sfD z q) i).1)), some (.int (nI (sfB (sfD z q) i).2)), some (.int (nI (i + 1))), none] [] (upc μ 271 f) := by
    intro m
    induction m with
    | zero =>
      intro i f hi
      obtain rfl : i = N := by omega
      refine k_X7_safest_32 ?_
      rw [show (upc μ 271 f) 16 0 = nI (z 0) from r0, nI_leI (by omega) (by omega)]
      exact br_t (by omega) (mod f)
    | succ m ih =>
      intro i f hi
      have i2 := fun f3 => ih (i + 1) f3 (by omega)
      have e : sfB (sfD z q) (i + 1) = if sfD z q (i + 1) ≤ (sfB (sfD z q) i).2 then sfB (sfD z q) i else (i + 1, sfD z q (i + 1)) := rfl
      have s1 := (sle i).1
      have s2 := (sle i).2
      have d2 := dle (i + 1)
      refine step (i + 1) _ _ f (by omega) (fun f3 => ?_)
      rw [nI_leI (by omega) (by omega)]
      refine br_c (fun c => ?_) (fun c => ?_)
      · rw [e, if_pos c] at i2
        exact i2 f3
      · rw [e, if_neg c] at i2
        exact i2 f3
  have first := step 0 0 (-1) (μ 271) (by omega) (fun f3 => by
    have i2 := key N 0 f3 (by omega)
    have d0 := dle 0
    refine br_f ?_ i2
    rw [i_le, nI_toInt (by omega)]
    simp
    omega)
  rw [upc_id] at first
  exact first
