/-! ===== fatal, life, names, safest, meet ===== -/
def fB (n : Nat) (z : Nat → Nat) : Nat → Int32
  | 0 => 0
  | k + 1 => if z (21 + 6 * k) = 0 then (if itZ n z (21 + 6 * k) = 0 then fB n z k else fB n z k ||| (1 <<< (nI (z (17 + 6 * k)) &&& 31))) else fB n z k
theorem op_fatal {μ : Mm} {K : Int32 → Mm → Prop} {y : Int32} (hI : Inv μ) (k : ∀ a μ1, Nx 161 [.ref 279, .int y] a μ1 → K a μ1) : cI (cM 30) 76 [.ref 0, .int y] μ K := by
  obtain ⟨z, hz⟩ := hI.2.2.2.2.1
  obtain ⟨vz, v9, lr, lm⟩ := hz
  have vz' := vz
  obtain ⟨v0, v1, v2, v3, v4, v5, v6, v7, v8⟩ := vz
  have r0 := lr.1
  have r3 := lr.2.2.2.1
  have r4 := lr.2.2.2.2.1
  have r5 := lr.2.2.2.2.2.1
  have r6 := lr.2.2.2.2.2.2.1
  have l0 := lm 0 (by decide)
  have l2 := lm 2 (by decide)
  have l3 := lm 3 (by decide)
  have l5 := lm 5 (by decide)
  refine e_X7_fatal (s_isThere rfl r0 (by omega) (fun h0 => nr_f (by decide) ?_) (fun h0 => nr_t rfl (k _ _ (fun G g => e_X8_fatal (s_isThereM (μ := up μ 279 0 0) l0 (by omega) (fun h => absurd h (by omega)) (fun _ => nr_t rfl (g _ (Inv.q hI (fun k hk => by simp (disch := omega) only [up_eq, upc_n]) (fun j hj => by simp (disch := omega) only [up_eq, upc_s, upc_n, upd_n])))))))))
  refine s_out (a := 1) (b := 60) (by decide) (by decide) (fun hy => br_t rfl ?_) (fun hy => br_f (by decide) (k _ _ (fun G g => e_X8_fatal (s_isThereM (μ := up μ 279 0 0) l0 (by omega) (fun _ => nr_f (by decide) (s_in (a := 1) (b := 60) (by decide) (by decide) rfl rfl (fun h => absurd h hy) (fun _ => nr_t rfl (g _ (Inv.q hI (fun k hk => by simp (disch := omega) only [up_eq, upc_n]) (fun j hj => by simp (disch := omega) only [up_eq, upc_s, upc_n, upd_n])))))) (fun h => absurd h (by omega))))))
  obtain ⟨n, hn1, hn, rfl⟩ := hy
  have w := itZ_VL n z vz' (by omega)
  have mod : ∀ (f : Nat → Int32), K (fB n z (z 3)) (upc μ 271 f) := by
    intro f
    refine k _ _ (fun G g => e_X8_fatal (s_isThereM (μ := up (upc μ 271 f) 279 0 0) l0 (by omega) (fun _ => nr_f (by decide) (s_in (a := 1) (b := 60) (by decide) (by decide) rfl rfl (fun _ => nr_f (by decide) ?_) (fun h => absurd ⟨n, by omega, hn, rfl⟩ h))) (fun h => absurd h (by omega))))
    refine s_layThen (z := z) lm (fun f3 h3 => s_daysOf (Or.inr rfl) h3 vz' (by omega) (fun f4 h4 => ?_))
    have g2 : G (fB n z (z 3)) (upc (upc (up (upc μ 271 f) 279 0 0) 285 f3) 285 f4) := g _ (Inv.q hI (fun k hk => by simp (disch := omega) only [up_eq, upc_n]) (fun j hj => by simp (disch := omega) only [up_eq, upc_s, upc_n, upd_n]))
    have l3' : (upc (upc (up (upc μ 271 f) 279 0 0) 285 f3) 285 f4) 283 3 = nI (z 3) := l3
    have lm' : LM ((upc (upc (up (upc μ 271 f) 279 0 0) 285 f3) 285 f4) 283) z := lm
    have h4' : LM ((upc (upc (up (upc μ 271 f) 279 0 0) 285 f3) 285 f4) 285) (itZ n z) := h4
    have key : ∀ (ν : Mm), ν 283 3 = nI (z 3) → LM (ν 283) z → LM (ν 285) (itZ n z) → G (fB n z (z 3)) ν → ∀ m i, i + m = z 3 → jX8_fatal 29 G 48 [some (.ref 279), none, none, some (.int (fB n z i)), some (.int (nI i))] [] ν := by
      intro ν a3 am a5 ag m
      induction m with
      | zero =>
        intro i hi
        obtain rfl : i = z 3 := by omega
        refine k_X8_fatal_48 ?_
        try simp (disch := omega) only [lt0, lt1, lt2, lt3, lt4, lt5, lt6, lt7, lt8, lt9, lt10, lt11, lt12, lt13, lt14, lt15, lt16, lt17, lt18, lt19, lt20, lt21, lt22, lt23, lt24, lt25, lt26, lt27, lt28, lt29, lt30, lt31, lt32, lt33, lt34, lt35, lt36, lt37, lt38, lt39, lt40, lt41, lt42, lt43, lt44, lt45, lt46, lt47, lt48, lt49, lt50, lt51, lt52, lt53, lt54, lt55, lt56, lt57, lt58, lt59, lt60, lt61, lt62, lt63, lt64, lt97, lt98, lt99, lt100, lt107, lt110, lt114, lt115, lt116, lt119, lt122, lt208, lt255, lt999, lt1000, nI_add, pk_mul, nI_clamp, vp_t, nI_leI, nI_ltI, nI_eq, true_and, and_true, true_implies, false_implies, not_true_eq_false, not_false_eq_true, eq_self, implies_true, true_or, or_true, Nat.add_zero, Nat.reduceAdd, Nat.reduceMul, Nat.reduceEqDiff, Nat.reduceLeDiff, Nat.reduceLT, Nat.reduceSub, am _]
        exact br_t (Nat.le_refl _) ag
      | succ m ih =>
        intro i hi
        have i2 := ih (i + 1) (by omega)
        have w1 := (v8 i (by omega)).2.2.2.2.2
        have w2 := (w.1.2.2.2.2.2.2.2.2 i (by omega)).2.2.2.2.2
        have e : fB n z (i + 1) = if z (21 + 6 * i) = 0 then (if itZ n z (21 + 6 * i) = 0 then fB n z i else fB n z i ||| (1 <<< (nI (z (17 + 6 * i)) &&& 31))) else fB n z i := rfl
        refine k_X8_fatal_48 ?_
        try simp (disch := omega) only [lt0, lt1, lt2, lt3, lt4, lt5, lt6, lt7, lt8, lt9, lt10, lt11, lt12, lt13, lt14, lt15, lt16, lt17, lt18, lt19, lt20, lt21, lt22, lt23, lt24, lt25, lt26, lt27, lt28, lt29, lt30, lt31, lt32, lt33, lt34, lt35, lt36, lt37, lt38, lt39, lt40, lt41, lt42, lt43, lt44, lt45, lt46, lt47, lt48, lt49, lt50, lt51, lt52, lt53, lt54, lt55, lt56, lt57, lt58, lt59, lt60, lt61, lt62, lt63, lt64, lt97, lt98, lt99, lt100, lt107, lt110, lt114, lt115, lt116, lt119, lt122, lt208, lt255, lt999, lt1000, nI_add, pk_mul, nI_clamp, vp_t, nI_leI, nI_ltI, nI_eq, true_and, and_true, true_implies, false_implies, not_true_eq_false, not_false_eq_true, eq_self, implies_true, true_or, or_true, Nat.add_zero, Nat.reduceAdd, Nat.reduceMul, Nat.reduceEqDiff, Nat.reduceLeDiff, Nat.reduceLT, Nat.reduceSub, am _]
        refine br_f (by omega) (s_lives (Or.inl rfl) am (by omega) (by omega) (fun c => br_t rfl ?_) (fun c => br_f (by decide) (s_lives (Or.inr rfl) a5 (by omega) (by omega) (fun c2 => nr_t rfl (s_of (c := 1) (Or.inl rfl) am (by omega) (by decide) ?_)) (fun c2 => nr_f (by decide) ?_))))
        · rw [e, if_neg c] at i2
          rw [show fB n z i ||| nI 0 = fB n z i from or0 _]
          exact i2
        · rw [e, if_pos c, if_neg c2] at i2
          rw [show 16 + 6 * i + 1 = 17 + 6 * i by omega]
          exact i2
        · rw [e, if_pos c, if_pos c2] at i2
          rw [show fB n z i ||| nI 0 = fB n z i from or0 _]
          exact i2
    exact key _ l3' lm' h4' g2 (z 3) 0 (by omega)
  have key : ∀ m i f, i + m = z 3 → jX7_fatal 29 K 30 [some (.ref 0), some (.int (nI n)), some (.int (fB n z i)), some (.int (nI i))] [] (upc μ 271 f) := by
    intro m
    induction m with
    | zero =>
      intro i f hi
      obtain rfl : i = z 3 := by omega
      refine k_X7_fatal_30 ?_
      try simp (disch := omega) only [lt0, lt1, lt2, lt3, lt4, lt5, lt6, lt7, lt8, lt9, lt10, lt11, lt12, lt13, lt14, lt15, lt16, lt17, lt18, lt19, lt20, lt21, lt22, lt23, lt24, lt25, lt26, lt27, lt28, lt29, lt30, lt31, lt32, lt33, lt34, lt35, lt36, lt37, lt38, lt39, lt40, lt41, lt42, lt43, lt44, lt45, lt46, lt47, lt48, lt49, lt50, lt51, lt52, lt53, lt54, lt55, lt56, lt57, lt58, lt59, lt60, lt61, lt62, lt63, lt64, lt97, lt98, lt99, lt100, lt107, lt110, lt114, lt115, lt116, lt119, lt122, lt208, lt255, lt999, lt1000, nI_add, pk_mul, nI_clamp, vp_t, nI_leI, nI_ltI, nI_eq, true_and, and_true, true_implies, false_implies, not_true_eq_false, not_false_eq_true, eq_self, implies_true, true_or, or_true, Nat.add_zero, Nat.reduceAdd, Nat.reduceMul, Nat.reduceEqDiff, Nat.reduceLeDiff, Nat.reduceLT, Nat.reduceSub, up_eq, upc_s, upc_n, upc_upc, r4]
      exact br_t (Nat.le_refl _) (mod f)
    | succ m ih =>
      intro i f hi
      have qn := ((lr.2.2.2.2.2.2.2.2 i (by omega))).2.1
      have e : fB n z (i + 1) = if z (21 + 6 * i) = 0 then (if itZ n z (21 + 6 * i) = 0 then fB n z i else fB n z i ||| (1 <<< (nI (z (17 + 6 * i)) &&& 31))) else fB n z i := rfl
      refine k_X7_fatal_30 ?_
      try simp (disch := omega) only [lt0, lt1, lt2, lt3, lt4, lt5, lt6, lt7, lt8, lt9, lt10, lt11, lt12, lt13, lt14, lt15, lt16, lt17, lt18, lt19, lt20, lt21, lt22, lt23, lt24, lt25, lt26, lt27, lt28, lt29, lt30, lt31, lt32, lt33, lt34, lt35, lt36, lt37, lt38, lt39, lt40, lt41, lt42, lt43, lt44, lt45, lt46, lt47, lt48, lt49, lt50, lt51, lt52, lt53, lt54, lt55, lt56, lt57, lt58, lt59, lt60, lt61, lt62, lt63, lt64, lt97, lt98, lt99, lt100, lt107, lt110, lt114, lt115, lt116, lt119, lt122, lt208, lt255, lt999, lt1000, nI_add, pk_mul, nI_clamp, vp_t, nI_leI, nI_ltI, nI_eq, true_and, and_true, true_implies, false_implies, not_true_eq_false, not_false_eq_true, eq_self, implies_true, true_or, or_true, Nat.add_zero, Nat.reduceAdd, Nat.reduceMul, Nat.reduceEqDiff, Nat.reduceLeDiff, Nat.reduceLT, Nat.reduceSub, up_eq, upc_s, upc_n, upc_upc, r4]
      refine br_f (by omega) (s_begin (by decide) (LR_271 lr) vz' (by omega) (fun f2 hf => ?_))
      have i2 := fun f3 => ih (i + 1) f3 (by omega)
      have h9 : f2 9 = nI (if z (21 + 6 * i) = 0 then 1 else 0) := hf 9 (by decide)
      by_cases c : z (21 + 6 * i) = 0
      · rw [if_pos c] at h9
        rw [e, if_pos c] at i2
        rw [upc_s, h9]
        refine br_f (by decide) (s_livesP hf vz' (by omega) (by omega) (fun c2 f3 => nr_t rfl ?_) (fun c2 f3 _ => nr_f (by decide) ?_))
        · rw [if_neg c2] at i2
          try simp (disch := omega) only [lt0, lt1, lt2, lt3, lt4, lt5, lt6, lt7, lt8, lt9, lt10, lt11, lt12, lt13, lt14, lt15, lt16, lt17, lt18, lt19, lt20, lt21, lt22, lt23, lt24, lt25, lt26, lt27, lt28, lt29, lt30, lt31, lt32, lt33, lt34, lt35, lt36, lt37, lt38, lt39, lt40, lt41, lt42, lt43, lt44, lt45, lt46, lt47, lt48, lt49, lt50, lt51, lt52, lt53, lt54, lt55, lt56, lt57, lt58, lt59, lt60, lt61, lt62, lt63, lt64, lt97, lt98, lt99, lt100, lt107, lt110, lt114, lt115, lt116, lt119, lt122, lt208, lt255, lt999, lt1000, nI_add, pk_mul, nI_clamp, vp_t, nI_leI, nI_ltI, nI_eq, true_and, and_true, true_implies, false_implies, not_true_eq_false, not_false_eq_true, eq_self, implies_true, true_or, or_true, Nat.add_zero, Nat.reduceAdd, Nat.reduceMul, Nat.reduceEqDiff, Nat.reduceLeDiff, Nat.reduceLT, Nat.reduceSub, up_eq, upc_s, upc_n, upc_upc, qn]
          exact i2 f3
        · rw [if_pos c2] at i2
          rw [upc_upc]
          exact i2 f3
      · rw [if_neg c] at h9
        rw [e, if_neg c] at i2
        rw [upc_s, h9, upc_upc]
        exact br_t rfl (i2 f2)
  have := key (z 3) 0 (μ 271) (by omega)
  rw [upc_id] at this
  exact this
def lS (z : Nat → Nat) : Nat → Nat
  | 0 => 0
  | k + 1 => lS z k + (if dy 61 0 z k = 61 then 60 else dy 61 0 z k)
theorem lS_le (z : Nat → Nat) : ∀ k, lS z k ≤ 60 * k
  | 0 => Nat.le_refl _
  | k + 1 => by
    have h1 := lS_le z k
    have h2 := dy_le 61 0 z k (by decide)
    show lS z k + _ ≤ _
    split <;> omega
theorem op_life {μ : Mm} {K : Int32 → Mm → Prop} (hI : Inv μ) (k : ∀ a μ1, Nx 170 [.ref 279] a μ1 → K a μ1) : cI (cM 30) 82 [.ref 0] μ K := by
  obtain ⟨z, hz⟩ := hI.2.2.2.2.1
  obtain ⟨vz, v9, lr, lm⟩ := hz
  have vz' := vz
  obtain ⟨v0, v1, v2, v3, v4, v5, v6, v7, v8⟩ := vz
  have r0 := lr.1
  have r3 := lr.2.2.2.1
  have r4 := lr.2.2.2.2.1
  have r5 := lr.2.2.2.2.2.1
  have r6 := lr.2.2.2.2.2.2.1
  have l0 := lm 0 (by decide)
  have l2 := lm 2 (by decide)
  have l3 := lm 3 (by decide)
  have l5 := lm 5 (by decide)
  refine e_X7_life (s_isThere rfl r0 (by omega) (fun h0 => nr_f (by decide) ?_) (fun h0 => nr_t rfl (k _ _ (fun G g => e_X8_life (s_isThereM (μ := up μ 279 0 0) l0 (by omega) (fun h => absurd h (by omega)) (fun _ => nr_t rfl (g _ (Inv.q hI (fun k hk => by simp (disch := omega) only [up_eq, upc_n]) (fun j hj => by simp (disch := omega) only [up_eq, upc_s, upc_n, upd_n])))))))))
  have mod : ∀ (f : Nat → Int32), K (nI (lS z (z 3))) (upc μ 271 f) := by
    intro f
    refine k _ _ (fun G g => e_X8_life (s_isThereM (μ := up (upc μ 271 f) 279 0 0) l0 (by omega) (fun _ => nr_f (by decide) ?_) (fun h => absurd h (by omega))))
    have g2 : ∀ f2, G (nI (lS z (z 3))) (upc (up (upc μ 271 f) 279 0 0) 285 f2) := fun f2 => g _ (Inv.q hI (fun k hk => by simp (disch := omega) only [up_eq, upc_n]) (fun j hj => by simp (disch := omega) only [up_eq, upc_s, upc_n, upd_n]))
    have key : ∀ m i f2, i + m = z 3 → jX8_life 29 G 19 [some (.ref 279), some (.int (nI (lS z i))), some (.int (nI i)), none] [] (upc (up (upc μ 271 f) 279 0 0) 285 f2) := by
      intro m
      induction m with
      | zero =>
        intro i f2 hi
        obtain rfl : i = z 3 := by omega
        refine k_X8_life_19 ?_
        try simp (disch := omega) only [lt0, lt1, lt2, lt3, lt4, lt5, lt6, lt7, lt8, lt9, lt10, lt11, lt12, lt13, lt14, lt15, lt16, lt17, lt18, lt19, lt20, lt21, lt22, lt23, lt24, lt25, lt26, lt27, lt28, lt29, lt30, lt31, lt32, lt33, lt34, lt35, lt36, lt37, lt38, lt39, lt40, lt41, lt42, lt43, lt44, lt45, lt46, lt47, lt48, lt49, lt50, lt51, lt52, lt53, lt54, lt55, lt56, lt57, lt58, lt59, lt60, lt61, lt62, lt63, lt64, lt97, lt98, lt99, lt100, lt107, lt110, lt114, lt115, lt116, lt119, lt122, lt208, lt255, lt999, lt1000, nI_add, pk_mul, nI_clamp, vp_t, nI_leI, nI_ltI, nI_eq, true_and, and_true, true_implies, false_implies, not_true_eq_false, not_false_eq_true, eq_self, implies_true, true_or, or_true, Nat.add_zero, Nat.reduceAdd, Nat.reduceMul, Nat.reduceEqDiff, Nat.reduceLeDiff, Nat.reduceLT, Nat.reduceSub, up_eq, upc_s, upc_n, upc_upc, lm _]
        exact br_t (Nat.le_refl _) (g2 f2)
      | succ m ih =>
        intro i f2 hi
        have lm' : LM ((upc (up (upc μ 271 f) 279 0 0) 285 f2) 283) z := lm
        have i2 := fun f3 => ih (i + 1) f3 (by omega)
        have e : lS z (i + 1) = lS z i + (if dy 61 0 z i = 61 then 60 else dy 61 0 z i) := rfl
        have dl := dy_le 61 0 z i (by decide)
        have ll := lS_le z i
        refine k_X8_life_19 ?_
        refine ⟨vp_in_nI (n := 3) (by decide) (by decide), ?_⟩
        rw [show (upc (up (upc μ 271 f) 279 0 0) 285 f2) 283 (3 : Int32).toNatClampNeg = nI (z 3) from l3, nI_leI (by omega) (by omega)]
        refine br_f (by omega) (s_layThen (z := z) lm' (fun f3 h3 => s_diesBy h3 vz' (by omega) (by omega) (fun f4 => ?_)))
        rw [upc_upc, upc_upc]
        unfold orN
        by_cases c : dy 61 0 z i = 61
        · rw [e, if_pos c] at i2
          rw [if_pos c]
          refine nr_t rfl ?_
          try simp (disch := omega) only [lt0, lt1, lt2, lt3, lt4, lt5, lt6, lt7, lt8, lt9, lt10, lt11, lt12, lt13, lt14, lt15, lt16, lt17, lt18, lt19, lt20, lt21, lt22, lt23, lt24, lt25, lt26, lt27, lt28, lt29, lt30, lt31, lt32, lt33, lt34, lt35, lt36, lt37, lt38, lt39, lt40, lt41, lt42, lt43, lt44, lt45, lt46, lt47, lt48, lt49, lt50, lt51, lt52, lt53, lt54, lt55, lt56, lt57, lt58, lt59, lt60, lt61, lt62, lt63, lt64, lt97, lt98, lt99, lt100, lt107, lt110, lt114, lt115, lt116, lt119, lt122, lt208, lt255, lt999, lt1000, nI_add, pk_mul, nI_clamp, vp_t, nI_leI, nI_ltI, nI_eq, true_and, and_true, true_implies, false_implies, not_true_eq_false, not_false_eq_true, eq_self, implies_true, true_or, or_true, Nat.add_zero, Nat.reduceAdd, Nat.reduceMul, Nat.reduceEqDiff, Nat.reduceLeDiff, Nat.reduceLT, Nat.reduceSub]
          exact i2 f4
        · rw [e, if_neg c] at i2
          rw [if_neg c]
          refine nr_f ?_ ?_
          · rw [← Int32.toInt_inj, nI_toInt (by omega)]
            simp
          · try simp (disch := omega) only [lt0, lt1, lt2, lt3, lt4, lt5, lt6, lt7, lt8, lt9, lt10, lt11, lt12, lt13, lt14, lt15, lt16, lt17, lt18, lt19, lt20, lt21, lt22, lt23, lt24, lt25, lt26, lt27, lt28, lt29, lt30, lt31, lt32, lt33, lt34, lt35, lt36, lt37, lt38, lt39, lt40, lt41, lt42, lt43, lt44, lt45, lt46, lt47, lt48, lt49, lt50, lt51, lt52, lt53, lt54, lt55, lt56, lt57, lt58, lt59, lt60, lt61, lt62, lt63, lt64, lt97, lt98, lt99, lt100, lt107, lt110, lt114, lt115, lt116, lt119, lt122, lt208, lt255, lt999, lt1000, nI_add, pk_mul, nI_clamp, vp_t, nI_leI, nI_ltI, nI_eq, true_and, and_true, true_implies, false_implies, not_true_eq_false, not_false_eq_true, eq_self, implies_true, true_or, or_true, Nat.add_zero, Nat.reduceAdd, Nat.reduceMul, Nat.reduceEqDiff, Nat.reduceLeDiff, Nat.reduceLT, Nat.reduceSub]
            exact i2 f4
    have := key (z 3) 0 ((up (upc μ 271 f) 279 0 0) 285) (by omega)
    rw [upc_id] at this
    exact this
  have key : ∀ m i f, i + m = z 3 → jX7_life 29 K 17 [some (.ref 0), some (.int (nI (lS z i))), some (.int (nI i))] [] (upc μ 271 f) := by
    intro m
    induction m with
    | zero =>
      intro i f hi
      obtain rfl : i = z 3 := by omega
      refine k_X7_life_17 ?_
      try simp (disch := omega) only [lt0, lt1, lt2, lt3, lt4, lt5, lt6, lt7, lt8, lt9, lt10, lt11, lt12, lt13, lt14, lt15, lt16, lt17, lt18, lt19, lt20, lt21, lt22, lt23, lt24, lt25, lt26, lt27, lt28, lt29, lt30, lt31, lt32, lt33, lt34, lt35, lt36, lt37, lt38, lt39, lt40, lt41, lt42, lt43, lt44, lt45, lt46, lt47, lt48, lt49, lt50, lt51, lt52, lt53, lt54, lt55, lt56, lt57, lt58, lt59, lt60, lt61, lt62, lt63, lt64, lt97, lt98, lt99, lt100, lt107, lt110, lt114, lt115, lt116, lt119, lt122, lt208, lt255, lt999, lt1000, nI_add, pk_mul, nI_clamp, vp_t, nI_leI, nI_ltI, nI_eq, true_and, and_true, true_implies, false_implies, not_true_eq_false, not_false_eq_true, eq_self, implies_true, true_or, or_true, Nat.add_zero, Nat.reduceAdd, Nat.reduceMul, Nat.reduceEqDiff, Nat.reduceLeDiff, Nat.reduceLT, Nat.reduceSub, up_eq, upc_s, upc_n, upc_upc, r4]
      exact br_t (Nat.le_refl _) (mod f)
    | succ m ih =>
      intro i f hi
      have i2 := fun f3 => ih (i + 1) f3 (by omega)
      have e : lS z (i + 1) = lS z i + (if dy 61 0 z i = 61 then 60 else dy 61 0 z i) := rfl
      have dl := dy_le 61 0 z i (by decide)
      have ll := lS_le z i
      refine k_X7_life_17 ?_
      try simp (disch := omega) only [lt0, lt1, lt2, lt3, lt4, lt5, lt6, lt7, lt8, lt9, lt10, lt11, lt12, lt13, lt14, lt15, lt16, lt17, lt18, lt19, lt20, lt21, lt22, lt23, lt24, lt25, lt26, lt27, lt28, lt29, lt30, lt31, lt32, lt33, lt34, lt35, lt36, lt37, lt38, lt39, lt40, lt41, lt42, lt43, lt44, lt45, lt46, lt47, lt48, lt49, lt50, lt51, lt52, lt53, lt54, lt55, lt56, lt57, lt58, lt59, lt60, lt61, lt62, lt63, lt64, lt97, lt98, lt99, lt100, lt107, lt110, lt114, lt115, lt116, lt119, lt122, lt208, lt255, lt999, lt1000, nI_add, pk_mul, nI_clamp, vp_t, nI_leI, nI_ltI, nI_eq, true_and, and_true, true_implies, false_implies, not_true_eq_false, not_false_eq_true, eq_self, implies_true, true_or, or_true, Nat.add_zero, Nat.reduceAdd, Nat.reduceMul, Nat.reduceEqDiff, Nat.reduceLeDiff, Nat.reduceLT, Nat.reduceSub, up_eq, upc_s, upc_n, upc_upc, r4]
      refine br_f (by omega) (s_begin (by decide) (LR_271 lr) vz' (by omega) (fun f2 hf => s_diesP hf vz' (by omega) (by omega) (fun f3 => ?_)))
      rw [upc_upc]
      have e2 : (if (60 : Int32) < nI (dy 61 0 z i) then (60 : Int32) else nI (dy 61 0 z i)) = nI (if dy 61 0 z i = 61 then 60 else dy 61 0 z i) := by
        have e1 : (60 : Int32) < nI (dy 61 0 z i) ↔ 60 < dy 61 0 z i := by rw [show (60 : Int32) = nI 60 from rfl, nI_ltI (by omega) (by omega)]
        by_cases c : dy 61 0 z i = 61
        · rw [if_pos c, if_pos (e1.mpr (by omega))]
          rfl
        · rw [if_neg c, if_neg (fun h => by have := e1.mp h; omega)]
      have e3 : nI (lS z i) + nI (if dy 61 0 z i = 61 then 60 else dy 61 0 z i) = nI (lS z (i + 1)) := by rw [nI_add, e]
      rw [← e3, ← e2] at i2
      exact i2 f3
  have := key (z 3) 0 (μ 271) (by omega)
  rw [upc_id] at this
  exact this
