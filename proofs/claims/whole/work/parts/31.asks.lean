/-! ===== calls that only ask ===== -/
/-- bits one behind another, as both sides gather them -/
def oB (b : Nat → Nat) : Nat → Int32
  | 0 => 0
  | k + 1 => if b k = 0 then oB b k ||| 0 else oB b k ||| (1 <<< (nI k &&& 31))
theorem oB_0 {b : Nat → Nat} {k : Nat} (h : b k = 0) : oB b (k + 1) = oB b k ||| 0 := if_pos h
theorem oB_1 {b : Nat → Nat} {k : Nat} (h : ¬ b k = 0) : oB b (k + 1) = oB b k ||| (1 <<< (nI k &&& 31)) := if_neg h
theorem or0 (a : Int32) : a ||| 0 = a := by
  apply Int32.toBitVec_inj.1
  show a.toBitVec ||| 0#32 = a.toBitVec
  simp
def lvn (n : Nat) (z : Nat → Nat) (q : Nat) : Nat := if itZ n z (21 + 6 * q) = 0 then 1 else 0
theorem lvn_0 {n : Nat} {z : Nat → Nat} {q : Nat} (h : ¬ itZ n z (21 + 6 * q) = 0) : lvn n z q = 0 := if_neg h
theorem lvn_1 {n : Nat} {z : Nat → Nat} {q : Nat} (h : itZ n z (21 + 6 * q) = 0) : ¬ lvn n z q = 0 := by unfold lvn; rw [if_pos h]; decide
theorem s_livesP {d : Nat} {μ : Mm} {K : Int32 → Mm → Prop} {n q : Nat} {z : Nat → Nat} {g : Nat → Int32} (h : FM g (pj z q)) (hz : VL z) (hq : q < z 3) (hn : z 4 + n ≤ 2000) (k0 : ¬ itZ n z (21 + 6 * q) = 0 → ∀ x, K 0 (upc μ 271 x)) (k1 : itZ n z (21 + 6 * q) = 0 → ∀ x, x 6 = nI (itZ n z (18 + 6 * q)) → K 1 (upc μ 271 x)) : cI (cM (d + 4)) 16 [.ref 271, .int (nI n)] (upc μ 271 g) K := by
  have e := it_pj (q := q) n z (pj z q) (fun _ _ => rfl) hz hn hq
  refine s_livesB (Or.inl rfl) h (pj_VF hz hq) hn (fun x hx => ?_)
  have e9 : itF n (pj z q) 9 = if itZ n z (21 + 6 * q) = 0 then 1 else 0 := e 9 (by decide)
  have e6 : itF n (pj z q) 6 = itZ n z (18 + 6 * q) := e 6 (by decide)
  by_cases c : itZ n z (21 + 6 * q) = 0
  · rw [if_pos c] at e9
    rw [e9] at hx ⊢
    exact k1 c x (by rw [hx (by decide) 6 (by decide), e6])
  · rw [if_neg c] at e9
    rw [e9]
    exact k0 c x
theorem s_diesP {d : Nat} {μ : Mm} {K : Int32 → Mm → Prop} {q : Nat} {z : Nat → Nat} {g : Nat → Int32} (h : FM g (pj z q)) (hz : VL z) (hq : q < z 3) (hn : z 4 + 61 ≤ 2000) (k : ∀ x, K (nI (dy 61 0 z q)) (upc μ 271 x)) : cI (cM (d + 4)) 17 [.ref 271, .int 60] (upc μ 271 g) K := by
  refine s_diesB (n := 60) (by decide) h (pj_VF hz hq) (show z 4 + 60 ≤ 2000 by omega) (by decide) (fun f2 => ?_)
  rw [dyF_eq (q := q) 61 0 z _ (fun _ _ => rfl) hz hn hq]
  exact k f2
theorem LR_271 {μ : Mm} {z : Nat → Nat} {f : Nat → Int32} (h : LR μ 16 z) : LR (upc μ 271 f) 16 z := h.fr (fun i hi => upc_n _ _ (by omega))
theorem s_living {d : Nat} {μ : Mm} {K : Int32 → Mm → Prop} {r : Nat} {z : Nat → Nat} (hr : r = 283 ∨ r = 285) (h : LM (μ r) z) (hz : VL z) (k : K (oB (lvn 0 z) (z 3)) μ) : cI (cM (d + 3)) 137 [.ref r] μ K := by
  obtain ⟨v0, v1, v2, v3, v4, v5, v6, v7, v8⟩ := hz
  have key : ∀ m i, i + m = z 3 → jX8_living (d + 2) K 4 [some (.ref r), some (.int (oB (lvn 0 z) i)), some (.int (nI i))] [] μ := by
    intro m
    induction m with
    | zero =>
      intro i hi
      obtain rfl : i = z 3 := by omega
      rcases hr with rfl | rfl
      · refine k_X8_living_283_4 ?_
        try simp (disch := omega) only [lt0, lt1, lt2, lt3, lt4, lt5, lt6, lt7, lt8, lt9, lt10, lt11, lt12, lt13, lt14, lt15, lt16, lt17, lt18, lt19, lt20, lt21, lt22, lt23, lt24, lt25, lt26, lt27, lt28, lt29, lt30, lt31, lt32, lt33, lt34, lt35, lt36, lt37, lt38, lt39, lt40, lt41, lt42, lt43, lt44, lt45, lt46, lt47, lt48, lt49, lt50, lt51, lt52, lt53, lt54, lt55, lt56, lt57, lt58, lt59, lt60, lt61, lt62, lt63, lt64, lt97, lt98, lt99, lt100, lt107, lt110, lt114, lt115, lt116, lt119, lt122, lt208, lt255, lt999, lt1000, nI_add, pk_mul, nI_clamp, vp_t, nI_leI, nI_ltI, nI_eq, true_and, and_true, true_implies, false_implies, not_true_eq_false, not_false_eq_true, eq_self, implies_true, true_or, or_true, Nat.add_zero, Nat.reduceAdd, Nat.reduceMul, Nat.reduceEqDiff, Nat.reduceLeDiff, Nat.reduceLT, Nat.reduceSub, h _]
        exact br_t (Nat.le_refl _) k
      · refine k_X8_living_285_4 ?_
        try simp (disch := omega) only [lt0, lt1, lt2, lt3, lt4, lt5, lt6, lt7, lt8, lt9, lt10, lt11, lt12, lt13, lt14, lt15, lt16, lt17, lt18, lt19, lt20, lt21, lt22, lt23, lt24, lt25, lt26, lt27, lt28, lt29, lt30, lt31, lt32, lt33, lt34, lt35, lt36, lt37, lt38, lt39, lt40, lt41, lt42, lt43, lt44, lt45, lt46, lt47, lt48, lt49, lt50, lt51, lt52, lt53, lt54, lt55, lt56, lt57, lt58, lt59, lt60, lt61, lt62, lt63, lt64, lt97, lt98, lt99, lt100, lt107, lt110, lt114, lt115, lt116, lt119, lt122, lt208, lt255, lt999, lt1000, nI_add, pk_mul, nI_clamp, vp_t, nI_leI, nI_ltI, nI_eq, true_and, and_true, true_implies, false_implies, not_true_eq_false, not_false_eq_true, eq_self, implies_true, true_or, or_true, Nat.add_zero, Nat.reduceAdd, Nat.reduceMul, Nat.reduceEqDiff, Nat.reduceLeDiff, Nat.reduceLT, Nat.reduceSub, h _]
        exact br_t (Nat.le_refl _) k
    | succ m ih =>
      intro i hi
      have w := (v8 i (by omega)).2.2.2.2.2
      have i2 := ih (i + 1) (by omega)
      have a0 : ¬ z (21 + 6 * i) = 0 → oB (lvn 0 z) (i + 1) = oB (lvn 0 z) i ||| 0 := fun c => oB_0 (show (if z (21 + 6 * i) = 0 then 1 else 0) = 0 from if_neg c)
      have a1 : z (21 + 6 * i) = 0 → oB (lvn 0 z) (i + 1) = oB (lvn 0 z) i ||| (1 <<< (nI i &&& 31)) := fun c => oB_1 (show ¬ (if z (21 + 6 * i) = 0 then 1 else 0) = 0 by rw [if_pos c]; decide)
      rcases hr with rfl | rfl
      · refine k_X8_living_283_4 ?_
        try simp (disch := omega) only [lt0, lt1, lt2, lt3, lt4, lt5, lt6, lt7, lt8, lt9, lt10, lt11, lt12, lt13, lt14, lt15, lt16, lt17, lt18, lt19, lt20, lt21, lt22, lt23, lt24, lt25, lt26, lt27, lt28, lt29, lt30, lt31, lt32, lt33, lt34, lt35, lt36, lt37, lt38, lt39, lt40, lt41, lt42, lt43, lt44, lt45, lt46, lt47, lt48, lt49, lt50, lt51, lt52, lt53, lt54, lt55, lt56, lt57, lt58, lt59, lt60, lt61, lt62, lt63, lt64, lt97, lt98, lt99, lt100, lt107, lt110, lt114, lt115, lt116, lt119, lt122, lt208, lt255, lt999, lt1000, nI_add, pk_mul, nI_clamp, vp_t, nI_leI, nI_ltI, nI_eq, true_and, and_true, true_implies, false_implies, not_true_eq_false, not_false_eq_true, eq_self, implies_true, true_or, or_true, Nat.add_zero, Nat.reduceAdd, Nat.reduceMul, Nat.reduceEqDiff, Nat.reduceLeDiff, Nat.reduceLT, Nat.reduceSub, h _]
        refine br_f (by omega) (s_lives (Or.inl rfl) h (by omega) (by omega) (fun c => br_t rfl ?_) (fun c => br_f (by decide) ?_))
        · rw [a0 c] at i2
          exact i2
        · rw [a1 c] at i2
          exact i2
      · refine k_X8_living_285_4 ?_
        try simp (disch := omega) only [lt0, lt1, lt2, lt3, lt4, lt5, lt6, lt7, lt8, lt9, lt10, lt11, lt12, lt13, lt14, lt15, lt16, lt17, lt18, lt19, lt20, lt21, lt22, lt23, lt24, lt25, lt26, lt27, lt28, lt29, lt30, lt31, lt32, lt33, lt34, lt35, lt36, lt37, lt38, lt39, lt40, lt41, lt42, lt43, lt44, lt45, lt46, lt47, lt48, lt49, lt50, lt51, lt52, lt53, lt54, lt55, lt56, lt57, lt58, lt59, lt60, lt61, lt62, lt63, lt64, lt97, lt98, lt99, lt100, lt107, lt110, lt114, lt115, lt116, lt119, lt122, lt208, lt255, lt999, lt1000, nI_add, pk_mul, nI_clamp, vp_t, nI_leI, nI_ltI, nI_eq, true_and, and_true, true_implies, false_implies, not_true_eq_false, not_false_eq_true, eq_self, implies_true, true_or, or_true, Nat.add_zero, Nat.reduceAdd, Nat.reduceMul, Nat.reduceEqDiff, Nat.reduceLeDiff, Nat.reduceLT, Nat.reduceSub, h _]
        refine br_f (by omega) (s_lives (Or.inr rfl) h (by omega) (by omega) (fun c => br_t rfl ?_) (fun c => br_f (by decide) ?_))
        · rw [a0 c] at i2
          exact i2
        · rw [a1 c] at i2
          exact i2
  rcases hr with rfl | rfl
  · exact e_X8_living_283 (key (z 3) 0 (by omega))
  · exact e_X8_living_285 (key (z 3) 0 (by omega))
theorem op_ahead {μ : Mm} {K : Int32 → Mm → Prop} {x y : Int32} (hI : Inv μ) (k : ∀ a μ1, Nx 152 [.ref 279, .int x, .int y] a μ1 → K a μ1) : cI (cM 30) 68 [.ref 0, .int x, .int y] μ K := by
  obtain ⟨z, hz⟩ := hI.2.2.2.2.1
  obtain ⟨vz, v9, lr, lm⟩ := hz
  have vz' := vz
  obtain ⟨v0, v1, v2, v3, v4, v5, v6, v7, v8⟩ := vz
  have r0 := lr.1
  have r3 := lr.2.2.2.1
  have r4 := lr.2.2.2.2.1
  have r5 := lr.2.2.2.2.2.1
  have r6 := lr.2.2.2.2.2.2.1
  have l0 := lm 0 (by decide)
  have l2 := lm 2 (by decide)
  have l3 := lm 3 (by decide)
  have l5 := lm 5 (by decide)
  refine e_X7_ahead (s_isPerson r4 (by omega) (fun hx => br_f (by decide) ?_) (fun hx => br_t rfl (k _ _ (fun G g => e_X8_ahead (s_isPersonM (μ := up μ 279 0 0) l3 (by omega) (fun h => absurd h hx) (fun _ => br_t rfl (g _ (Inv.q hI (fun k hk => by simp (disch := omega) only [up_eq, upc_n]) (fun j hj => by simp (disch := omega) only [up_eq, upc_s, upc_n, upd_n])))))))))
  refine s_out (a := 0) (b := 60) (by decide) (by decide) (fun hy => br_t rfl ?_) (fun hy => br_f (by decide) (k _ _ (fun G g => e_X8_ahead (s_isPersonM (μ := up μ 279 0 0) l3 (by omega) (fun _ => br_f (by decide) (s_in (a := 0) (b := 60) (by decide) (by decide) rfl rfl (fun h => absurd h hy) (fun _ => nr_t rfl (g _ (Inv.q hI (fun k hk => by simp (disch := omega) only [up_eq, upc_n]) (fun j hj => by simp (disch := omega) only [up_eq, upc_s, upc_n, upd_n])))))) (fun h => absurd hx h)))))
  obtain ⟨q, hq, rfl⟩ := hx
  obtain ⟨n, -, hn, rfl⟩ := hy
  have mod : ∀ (f : Nat → Int32) (a : Int32), (¬ itZ n z (21 + 6 * q) = 0 → a = -1000000) → (itZ n z (21 + 6 * q) = 0 → a = nI (itZ n z (18 + 6 * q))) → K a (upc μ 271 f) := by
    intro f a a0 a1
    refine k _ _ (fun G g => e_X8_ahead (s_isPersonM (μ := up (upc μ 271 f) 279 0 0) l3 (by omega) (fun _ => br_f (by decide) (s_in (a := 0) (b := 60) (by decide) (by decide) rfl rfl (fun _ => nr_f (by decide) ?_) (fun h => absurd ⟨n, by omega, hn, rfl⟩ h))) (fun h => absurd ⟨q, hq, rfl⟩ h)))
    refine s_layThen (z := z) lm (fun f3 h3 => s_daysOf (Or.inr rfl) h3 vz' (by omega) (fun f4 h4 => ?_))
    have w := itZ_VL n z vz' (by omega)
    have w2 := (w.1.2.2.2.2.2.2.2.2 q (by omega)).2.2.2.2.2
    refine s_lives (Or.inr rfl) (z := itZ n z) h4 (by omega) (by omega) (fun c => br_t rfl ?_) (fun c => br_f (by decide) (s_of (c := 2) (Or.inr rfl) (z := itZ n z) h4 (by omega) (by decide) ?_))
    · rw [a0 c] at g
      exact g _ (Inv.q hI (fun k hk => by simp (disch := omega) only [up_eq, upc_n]) (fun j hj => by simp (disch := omega) only [up_eq, upc_s, upc_n, upd_n]))
    · rw [a1 c] at g
      rw [show 16 + 6 * q + 2 = 18 + 6 * q by omega]
      exact g _ (Inv.q hI (fun k hk => by simp (disch := omega) only [up_eq, upc_n]) (fun j hj => by simp (disch := omega) only [up_eq, upc_s, upc_n, upd_n]))
  refine s_begin (by decide) lr vz' hq (fun f hf => s_livesP hf vz' hq (by omega) (fun c f2 => br_t rfl (mod f2 _ (fun _ => rfl) (fun c2 => absurd c2 c))) (fun c f2 e6 => br_f (by decide) ?_))
  rw [upc_s, e6]
  exact mod f2 _ (fun c2 => absurd c c2) (fun _ => rfl)
theorem op_liveAhead {μ : Mm} {K : Int32 → Mm → Prop} {y : Int32} (hI : Inv μ) (k : ∀ a μ1, Nx 153 [.ref 279, .int y] a μ1 → K a μ1) : cI (cM 30) 69 [.ref 0, .int y] μ K := by
  obtain ⟨z, hz⟩ := hI.2.2.2.2.1
  obtain ⟨vz, v9, lr, lm⟩ := hz
  have vz' := vz
  obtain ⟨v0, v1, v2, v3, v4, v5, v6, v7, v8⟩ := vz
  have r0 := lr.1
  have r3 := lr.2.2.2.1
  have r4 := lr.2.2.2.2.1
  have r5 := lr.2.2.2.2.2.1
  have r6 := lr.2.2.2.2.2.2.1
  have l0 := lm 0 (by decide)
  have l2 := lm 2 (by decide)
  have l3 := lm 3 (by decide)
  have l5 := lm 5 (by decide)
  refine e_X7_liveAhead (s_isThere rfl r0 (by omega) (fun h0 => nr_f (by decide) ?_) (fun h0 => nr_t rfl (k _ _ (fun G g => e_X8_liveAhead (s_isThereM (μ := up μ 279 0 0) l0 (by omega) (fun h => absurd h (by omega)) (fun _ => nr_t rfl (g _ (Inv.q hI (fun k hk => by simp (disch := omega) only [up_eq, upc_n]) (fun j hj => by simp (disch := omega) only [up_eq, upc_s, upc_n, upd_n])))))))))
  refine s_out (a := 0) (b := 60) (by decide) (by decide) (fun hy => br_t rfl ?_) (fun hy => br_f (by decide) (k _ _ (fun G g => e_X8_liveAhead (s_isThereM (μ := up μ 279 0 0) l0 (by omega) (fun _ => nr_f (by decide) (s_in (a := 0) (b := 60) (by decide) (by decide) rfl rfl (fun h => absurd h hy) (fun _ => nr_t rfl (g _ (Inv.q hI (fun k hk => by simp (disch := omega) only [up_eq, upc_n]) (fun j hj => by simp (disch := omega) only [up_eq, upc_s, upc_n, upd_n])))))) (fun h => absurd h (by omega))))))
  obtain ⟨n, -, hn, rfl⟩ := hy
  have mod : ∀ (f : Nat → Int32), K (oB (lvn n z) (z 3)) (upc μ 271 f) := by
    intro f
    refine k _ _ (fun G g => e_X8_liveAhead (s_isThereM (μ := up (upc μ 271 f) 279 0 0) l0 (by omega) (fun _ => nr_f (by decide) (s_in (a := 0) (b := 60) (by decide) (by decide) rfl rfl (fun _ => nr_f (by decide) ?_) (fun h => absurd ⟨n, by omega, hn, rfl⟩ h))) (fun h => absurd h (by omega))))
    refine s_layThen (z := z) lm (fun f3 h3 => s_daysOf (Or.inr rfl) h3 vz' (by omega) (fun f4 h4 => ?_))
    have w := itZ_VL n z vz' (by omega)
    refine s_living (Or.inr rfl) (z := itZ n z) h4 w.1 ?_
    rw [w.2.1]
    exact g _ (Inv.q hI (fun k hk => by simp (disch := omega) only [up_eq, upc_n]) (fun j hj => by simp (disch := omega) only [up_eq, upc_s, upc_n, upd_n]))
  have key : ∀ m i f, i + m = z 3 → jX7_liveAhead 29 K 30 [some (.ref 0), some (.int (nI n)), some (.int (oB (lvn n z) i)), some (.int (nI i))] [] (upc μ 271 f) := by
    intro m
    induction m with
    | zero =>
      intro i f hi
      obtain rfl : i = z 3 := by omega
      refine k_X7_liveAhead_30 ?_
      try simp (disch := omega) only [lt0, lt1, lt2, lt3, lt4, lt5, lt6, lt7, lt8, lt9, lt10, lt11, lt12, lt13, lt14, lt15, lt16, lt17, lt18, lt19, lt20, lt21, lt22, lt23, lt24, lt25, lt26, lt27, lt28, lt29, lt30, lt31, lt32, lt33, lt34, lt35, lt36, lt37, lt38, lt39, lt40, lt41, lt42, lt43, lt44, lt45, lt46, lt47, lt48, lt49, lt50, lt51, lt52, lt53, lt54, lt55, lt56, lt57, lt58, lt59, lt60, lt61, lt62, lt63, lt64, lt97, lt98, lt99, lt100, lt107, lt110, lt114, lt115, lt116, lt119, lt122, lt208, lt255, lt999, lt1000, nI_add, pk_mul, nI_clamp, vp_t, nI_leI, nI_ltI, nI_eq, true_and, and_true, true_implies, false_implies, not_true_eq_false, not_false_eq_true, eq_self, implies_true, true_or, or_true, Nat.add_zero, Nat.reduceAdd, Nat.reduceMul, Nat.reduceEqDiff, Nat.reduceLeDiff, Nat.reduceLT, Nat.reduceSub, up_eq, upc_s, upc_n, upc_upc, r4]
      exact br_t (Nat.le_refl _) (mod f)
    | succ m ih =>
      intro i f hi
      refine k_X7_liveAhead_30 ?_
      try simp (disch := omega) only [lt0, lt1, lt2, lt3, lt4, lt5, lt6, lt7, lt8, lt9, lt10, lt11, lt12, lt13, lt14, lt15, lt16, lt17, lt18, lt19, lt20, lt21, lt22, lt23, lt24, lt25, lt26, lt27, lt28, lt29, lt30, lt31, lt32, lt33, lt34, lt35, lt36, lt37, lt38, lt39, lt40, lt41, lt42, lt43, lt44, lt45, lt46, lt47, lt48, lt49, lt50, lt51, lt52, lt53, lt54, lt55, lt56, lt57, lt58, lt59, lt60, lt61, lt62, lt63, lt64, lt97, lt98, lt99, lt100, lt107, lt110, lt114, lt115, lt116, lt119, lt122, lt208, lt255, lt999, lt1000, nI_add, pk_mul, nI_clamp, vp_t, nI_leI, nI_ltI, nI_eq, true_and, and_true, true_implies, false_implies, not_true_eq_false, not_false_eq_true, eq_self, implies_true, true_or, or_true, Nat.add_zero, Nat.reduceAdd, Nat.reduceMul, Nat.reduceEqDiff, Nat.reduceLeDiff, Nat.reduceLT, Nat.reduceSub, up_eq, upc_s, upc_n, upc_upc, r4]
      refine br_f (by omega) (s_begin (by decide) (LR_271 lr) vz' (by omega) (fun f2 hf => s_livesP hf vz' (by omega) (by omega) (fun c f3 => br_t rfl ?_) (fun c f3 _ => br_f (by decide) ?_)))
      · have := ih (i + 1) f3 (by omega)
        rw [oB_0 (lvn_0 c)] at this
        rw [upc_upc]
        exact this
      · have := ih (i + 1) f3 (by omega)
        rw [oB_1 (lvn_1 c)] at this
        rw [upc_upc]
        exact this
  have := key (z 3) 0 (μ 271) (by omega)
  rw [upc_id] at this
  exact this
