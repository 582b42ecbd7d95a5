/-! ===== drawn ===== -/
theorem cmp_z (n : Nat) (h : n < 2 ^ 63) : (lg_cmp (lN n) 0 = 0) = (n = 0) := by
  refine propext ?_
  unfold lg_cmp
  have e : lN n = 0 ↔ n = 0 := pk_lEQ (b := 0) h (by decide)
  by_cases h1 : lN n > 0
  · rw [if_pos h1]
    refine ⟨fun c => absurd c (by decide), fun c => ?_⟩
    rw [e.mpr c] at h1
    exact absurd h1 (by decide)
  · rw [if_neg h1]
    by_cases h2 : lN n = 0
    · rw [if_pos h2]
      exact ⟨fun _ => e.mp h2, fun _ => rfl⟩
    · rw [if_neg h2]
      exact ⟨fun c => absurd c (by decide), fun c => absurd (e.mpr c) h2⟩
theorem l_nz {n : Nat} (h0 : 0 < n) (h : n < 5000) : ¬ (nI n).toInt64 = 0 := by
  rw [nI_l (by omega)]
  intro c
  have : n = 0 := (pk_lEQ (b := 0) (by omega) (by decide)).mp c
  omega
theorem l_rem {b n : Nat} (hb : b < 2 ^ 63) (h0 : 0 < n) (h : n < 5000) : lN b - lN b / (nI n).toInt64 * (nI n).toInt64 = lN (b % n) := by
  rw [nI_l (by omega)]
  exact pk_lRem hb h0 (by omega)
/-- the next X -/
def nx (a : Nat) : Nat := a * 16807 % 2147483647
theorem nx_lt (a : Nat) : nx a < 2147483647 := Nat.mod_lt _ (by decide)
theorem dr_x {a : Nat} (ha : a < 2 ^ 31) : lN a * 16807 - lN a * 16807 / 2147483647 * 2147483647 = lN (nx a) := by
  show lN a * lN 16807 - lN a * lN 16807 / lN 2147483647 * lN 2147483647 = _
  rw [lN_mul, pk_lRem (by omega) (by decide) (by decide)]
  rfl
theorem dr_3 {b : Nat} (hb : b < 2 ^ 63) : lN b - lN b / 3 * 3 = lN (b % 3) := pk_lRem (b := 3) hb (by decide) (by decide)
/-- carried by a draw -/
def cd (b : Nat) (z : Nat → Nat) : Nat → Nat := if b % 3 = 0 then un z (6 + 2 * (b % z 2)) (b % z 0) else z
def drZ : Nat → Nat → (Nat → Nat) → Nat → Nat
  | 0, _, z => z
  | m + 1, a, z => drZ m (nx a) (dz 0 (cd (nx a) z))
def drD : Nat → Nat → (Nat → Nat) → Nat
  | 0, _, _ => 0
  | m + 1, a, z => dd 0 (cd (nx a) z) + drD m (nx a) (dz 0 (cd (nx a) z))
theorem VL_th {z : Nat → Nat} {t v : Nat} (hz : VL z) (ht : t < 5) (hv : v < z 0) : VL (un z (6 + 2 * t) v) := by
  obtain ⟨v0, v1, v2, v3, v4, v5, v6, v7, v8⟩ := hz
  have lo : ∀ i, i < 6 → un z (6 + 2 * t) v i = z i := fun i hi => un_n _ _ (by omega)
  have hi : ∀ i, 16 ≤ i → un z (6 + 2 * t) v i = z i := fun i hi => un_n _ _ (by omega)
  unfold VL
  rw [lo 0 (by decide), lo 1 (by decide), lo 2 (by decide), lo 3 (by decide), lo 4 (by decide), lo 5 (by decide)]
  refine ⟨v0, v1, v2, v3, v4, v5, v6, fun a ha => ?_, fun q hq => ?_⟩
  · rw [un_n (j := 7 + 2 * a) _ _ (by omega)]
    refine ⟨?_, (v7 a ha).2⟩
    by_cases e : a = t
    · subst e
      rw [un_s]
      exact hv
    · rw [un_n _ _ (by omega)]
      exact (v7 a ha).1
  · rw [hi _ (by omega), hi _ (by omega), hi _ (by omega), hi _ (by omega), hi _ (by omega), hi _ (by omega)]
    exact v8 q hq
theorem cd_ok {b : Nat} {z : Nat → Nat} (hz : VL z) (h0 : 0 < z 0) : VL (cd b z) ∧ cd b z 4 = z 4 ∧ cd b z 0 = z 0 ∧ cd b z 3 = z 3 := by
  unfold cd
  have v2 := hz.2.2.1
  have v6 := hz.2.2.2.2.2.2.1
  have hm : b % z 2 < z 2 := Nat.mod_lt _ (by omega)
  split
  · exact ⟨VL_th hz (by omega) (Nat.mod_lt _ h0), un_n _ _ (by omega), un_n _ _ (by omega), un_n _ _ (by omega)⟩
  · exact ⟨hz, rfl, rfl, rfl⟩
theorem drZ_ok : ∀ m a (z : Nat → Nat), VL z → 0 < z 0 → z 4 + m ≤ 2000 → VL (drZ m a z) ∧ drZ m a z 3 = z 3
  | 0, _, _, h, _, _ => ⟨h, rfl⟩
  | m + 1, a, z, h, h0, h4 => by
    obtain ⟨c1, c2, c3, c4⟩ := cd_ok (b := nx a) h h0
    have := drZ_ok m (nx a) (dz 0 (cd (nx a) z)) (VL_dz c1 (by omega)) (by rw [dz_hd (by decide) (by decide)]; omega) (by rw [dz_4]; omega)
    refine ⟨this.1, ?_⟩
    show drZ m (nx a) (dz 0 (cd (nx a) z)) 3 = z 3
    rw [this.2, dz_hd (by decide) (by decide), c4]
theorem s_drawC {d : Nat} {μ : Mm} {K : Int32 → Mm → Prop} {N : Nat} {w : Int32} (hN : N ≤ 60) : ∀ m i acc a (z : Nat → Nat) (ν : Mm), i + m = N → a < 2 ^ 31 → LR ν 25 z → VL z → 0 < z 0 → z 4 + m ≤ 2000 → (∀ c, c < 25 ∨ 33 < c → c ≠ 271 → ν c = μ c) → (∀ ν', LR ν' 25 (drZ m a z) → (∀ c, c < 25 ∨ 33 < c → c ≠ 271 → ν' c = μ c) → (¬ w = 0 → K (nI (acc + drD m a z)) ν') ∧ (w = 0 → K (ν' 25 6) ν')) → jX7_drawn (d + 4) K 67 [some (.ref 0), some (.int (nI N)), none, some (.int w), some (.long (lN a)), none, some (.int (nI acc)), some (.int (nI i))] [] ν := by
  intro m
  induction m with
  | zero =>
    intro i acc a z ν hi ha lr vz h0 h4 fr k
    obtain rfl : i = N := by omega
    exact k_X7_drawn_67 (br_t (nI_le (Nat.le_refl _) (by omega)) (k ν lr fr))
  | succ m ih =>
    intro i acc a z ν hi ha lr vz h0 h4 fr k
    have hx := nx_lt a
    have v2 := vz.2.2.1
    have v0 := vz.1
    have v6 := vz.2.2.2.2.2.2.1
    have hm : nx a % z 2 < z 2 := Nat.mod_lt _ (by omega)
    obtain ⟨c1, c2, c3, c4⟩ := cd_ok (b := nx a) vz h0
    have go : ∀ ρ : Mm, LR ρ 25 (cd (nx a) z) → (∀ c, c < 25 ∨ 33 < c → c ≠ 271 → ρ c = μ c) → cI (cM (d + 4)) 29 [.ref 25, .ref 271] ρ (fun x115 μ115 => jX7_drawn (d + 4) K 67 [some (.ref 0), some (.int (nI N)), none, some (.int w), some (.long (lN (nx a))), none, some (.int (nI acc + x115)), some (.int (nI i + 1))] [] μ115) := by
      intro ρ lρ fρ
      refine s_passLand (Or.inr rfl) c1 lρ (fun ν2 lr2 fr2 => ?_)
      rw [nI_add, n_suc]
      refine ih (i + 1) (acc + dd 0 (cd (nx a) z)) (nx a) (dz 0 (cd (nx a) z)) ν2 (by omega) (by omega) lr2 (VL_dz c1 (by omega)) (by rw [dz_hd (by decide) (by decide)]; omega) (by rw [dz_4]; omega) (fun c h1 h2 => ?_) (fun ν' q1 q2 => ?_)
      · rw [fr2 c h2 (by omega)]
        exact fρ c h1 h2
      · have := k ν' q1 q2
        rw [show acc + drD (m + 1) a z = acc + dd 0 (cd (nx a) z) + drD m (nx a) (dz 0 (cd (nx a) z)) by show acc + (dd 0 (cd (nx a) z) + drD m (nx a) (dz 0 (cd (nx a) z))) = _; omega] at this
        exact this
    refine k_X7_drawn_67 (br_f (by rw [nI_leI (by omega) (by omega)]; omega) ⟨by decide, by decide, ?_⟩)
    rw [dr_x ha, dr_3 (by omega), cmp_z _ (by omega)]
    refine nr_c (fun c => go ν ?_ fr) (fun c => ?_)
    · rw [show cd (nx a) z = z from if_neg c]
      exact lr
    · have r3 : ν 25 3 = nI (z 2) := lr.2.2.2.1
      have r0 : ν 25 0 = nI (z 0) := lr.1
      refine e_X4_carryByDraw_25 ?_
      rw [r3, r0, l_rem (by omega) (by omega) (by omega), l_rem (by omega) (by omega) (by omega), lN_i, lN_i, nI_clamp (by omega)]
      refine br_f ?_ (br_f ?_ ⟨l_nz (by omega) (by omega), l_nz (by omega) (by omega), vp_in_nI (by omega) (by decide), go _ ?_ (fun c h1 h2 => ?_)⟩)
      · rw [show (0 : Int32) = nI 0 from rfl, nI_leI (by omega) (by omega)]
        omega
      · rw [show (0 : Int32) = nI 0 from rfl, nI_leI (by omega) (by omega)]
        omega
      · rw [show cd (nx a) z = un z (6 + 2 * (nx a % z 2)) (nx a % z 0) from if_pos c]
        exact LR_thingp lr (by omega)
      · rw [up_eq, upc_n _ _ (by omega)]
        exact fr c h1 h2
theorem s_drawM {d : Nat} {μ : Mm} {K : Int32 → Mm → Prop} {N : Nat} {w : Int32} (hN : N ≤ 60) : ∀ m i acc a (z : Nat → Nat) (f : Nat → Int32), i + m = N → a < 2 ^ 31 → LM f z → VL z → 0 < z 0 → z 4 + m ≤ 2000 → (∀ f', LM f' (drZ m a z) → (¬ w = 0 → K (nI (acc + drD m a z)) (upc μ 285 f')) ∧ (w = 0 → cI (cM (d + 4)) 137 [.ref 285] (upc μ 285 f') (fun x ν => K x ν))) → jX8_drawn (d + 4) K 66 [some (.ref 279), some (.int (nI N)), none, some (.int w), some (.long (lN a)), none, some (.int (nI acc)), some (.int (nI i))] [] (upc μ 285 f) := by
  intro m
  induction m with
  | zero =>
    intro i acc a z f hi ha lm vz h0 h4 k
    obtain rfl : i = N := by omega
    exact k_X8_drawn_66 (br_t (nI_le (Nat.le_refl _) (by omega)) (k f lm))
  | succ m ih =>
    intro i acc a z f hi ha lm vz h0 h4 k
    have hx := nx_lt a
    have v2 := vz.2.2.1
    have v0 := vz.1
    have v6 := vz.2.2.2.2.2.2.1
    have hm : nx a % z 2 < z 2 := Nat.mod_lt _ (by omega)
    obtain ⟨c1, c2, c3, c4⟩ := cd_ok (b := nx a) vz h0
    have go : ∀ g, LM g (cd (nx a) z) → cI (cM (d + 4)) 135 [.ref 285, .int 0] (upc μ 285 g) (fun x134 μ134 => jX8_drawn (d + 4) K 66 [some (.ref 279), some (.int (nI N)), none, some (.int w), some (.long (lN (nx a))), none, some (.int (nI acc + x134)), some (.int (nI i + 1))] [] μ134) := by
      intro g hg
      refine s_day (s := 0) (z := cd (nx a) z) (Or.inr rfl) hg c1 (by decide) (fun x hx2 => ?_)
      rw [nI_add, n_suc, upc_upc]
      refine ih (i + 1) (acc + dd 0 (cd (nx a) z)) (nx a) (dz 0 (cd (nx a) z)) x (by omega) (by omega) hx2 (VL_dz c1 (by omega)) (by rw [dz_hd (by decide) (by decide)]; omega) (by rw [dz_4]; omega) (fun f' q1 => ?_)
      have := k f' q1
      rw [show acc + drD (m + 1) a z = acc + dd 0 (cd (nx a) z) + drD m (nx a) (dz 0 (cd (nx a) z)) by show acc + (dd 0 (cd (nx a) z) + drD m (nx a) (dz 0 (cd (nx a) z))) = _; omega] at this
      exact this
    have l2 : (upc μ 285 f) 285 (2 : Int32).toNatClampNeg = nI (z 2) := by rw [upc_s]; exact lm 2 (by decide)
    have l0 : (upc μ 285 f) 285 (0 : Int32).toNatClampNeg = nI (z 0) := by rw [upc_s]; exact lm 0 (by decide)
    refine k_X8_drawn_66 (br_f (by rw [nI_leI (by omega) (by omega)]; omega) ⟨by decide, by decide, ?_⟩)
    rw [dr_x ha, dr_3 (by omega), cmp_z _ (by omega)]
    refine nr_c (fun c => go f ?_) (fun c => ?_)
    · rw [show cd (nx a) z = z from if_neg c]
      exact lm
    · rw [l2, l0, l_rem (by omega) (by omega) (by omega), l_rem (by omega) (by omega) (by omega), lN_i, lN_i, show (2 : Int32) * nI (nx a % z 2) = nI (2 * (nx a % z 2)) from pk_mul 2 _, show (6 : Int32) + nI (2 * (nx a % z 2)) = nI (6 + 2 * (nx a % z 2)) from nI_add 6 _, nI_clamp (by omega), up_upc]
      refine ⟨vp_in_nI (n := 2) (by decide) (by decide), l_nz (by omega) (by omega), vp_in_nI (n := 0) (by decide) (by decide), l_nz (by omega) (by omega), vp_in_nI (by omega) (by decide), go _ ?_⟩
      rw [show cd (nx a) z = un z (6 + 2 * (nx a % z 2)) (nx a % z 0) from if_pos c]
      exact lm.up rfl
theorem op_drawn {μ : Mm} {K : Int32 → Mm → Prop} {x y w : Int32} (hI : Inv μ) (k : ∀ a μ1, Nx 171 [.ref 279, .int x, .int y, .int w] a μ1 → K a μ1) : cI (cM 30) 83 [.ref 0, .int x, .int y, .int w] μ K := by
  obtain ⟨z, hz⟩ := hI.2.2.2.2.1
  obtain ⟨vz, v9, lr, lm⟩ := hz
  have vz' := vz
  obtain ⟨v0, v1, v2, v3, v4, v5, v6, v7, v8⟩ := vz
  have r0 := lr.1
  have r3 := lr.2.2.2.1
  have r4 := lr.2.2.2.2.1
  have r5 := lr.2.2.2.2.2.1
  have r6 := lr.2.2.2.2.2.2.1
  have l0 := lm 0 (by decide)
  have l2 := lm 2 (by decide)
  have l3 := lm 3 (by decide)
  have l5 := lm 5 (by decide)
  refine e_X7_drawn (s_isThere rfl r0 (by omega) (fun h0 => nr_f (by decide) ?_) (fun h0 => nr_t rfl (k _ _ (fun G g => e_X8_drawn (s_isThereM (μ := up μ 279 0 0) l0 (by omega) (fun h => absurd h (by omega)) (fun _ => nr_t rfl (g _ (Inv.q hI (fun k hk => by simp (disch := omega) only [up_eq, upc_n]) (fun j hj => by simp (disch := omega) only [up_eq, upc_s, upc_n, upd_n])))))))))
  refine s_out (a := 0) (b := 60) (by decide) (by decide) (fun hx => nr_t rfl ?_) (fun hx => nr_f (by decide) (k _ _ (fun G g => e_X8_drawn (s_isThereM (μ := up μ 279 0 0) l0 (by omega) (fun _ => nr_f (by decide) (s_in (a := 0) (b := 60) (by decide) (by decide) rfl rfl (fun h => absurd h hx) (fun _ => br_t rfl (g _ (Inv.q hI (fun k hk => by simp (disch := omega) only [up_eq, upc_n]) (fun j hj => by simp (disch := omega) only [up_eq, upc_s, upc_n, upd_n])))))) (fun h => absurd h (by omega))))))
  refine s_outI (fun hy => nr_t rfl ?_) (fun hy => nr_f (by decide) (k _ _ (fun G g => e_X8_drawn (s_isThereM (μ := up μ 279 0 0) l0 (by omega) (fun _ => nr_f (by decide) (s_in (a := 0) (b := 60) (by decide) (by decide) rfl rfl (fun _ => br_f (by decide) (s_inI (a := 1) (b := 999999) rfl rfl (fun h => absurd h hy) (fun _ => br_t rfl (g _ (Inv.q hI (fun k hk => by simp (disch := omega) only [up_eq, upc_n]) (fun j hj => by simp (disch := omega) only [up_eq, upc_s, upc_n, upd_n])))))) (fun h => absurd hx h))) (fun h => absurd h (by omega))))))
  refine s_out (a := 0) (b := 1) (by decide) (by decide) (fun hw => br_t rfl ?_) (fun hw => br_f (by decide) (k _ _ (fun G g => e_X8_drawn (s_isThereM (μ := up μ 279 0 0) l0 (by omega) (fun _ => nr_f (by decide) (s_in (a := 0) (b := 60) (by decide) (by decide) rfl rfl (fun _ => br_f (by decide) (s_inI (a := 1) (b := 999999) rfl rfl (fun _ => br_f (by decide) (s_in (a := 0) (b := 1) (by decide) (by decide) rfl rfl (fun h => absurd h hw) (fun _ => nr_t rfl (g _ (Inv.q hI (fun k hk => by simp (disch := omega) only [up_eq, upc_n]) (fun j hj => by simp (disch := omega) only [up_eq, upc_s, upc_n, upd_n])))))) (fun h => absurd hy h))) (fun h => absurd hx h))) (fun h => absurd h (by omega))))))
  have hx' := hx
  have hy' := hy
  obtain ⟨N, -, hN, rfl⟩ := hx
  obtain ⟨b, hb, rfl⟩ : ∃ b, b < 2 ^ 31 ∧ y = nI b := by
    refine nI_of (x := y) (fun c => ?_)
    have h1 := hy.1
    rw [i_le] at h1
    rw [i_lt] at c
    have e1 : (1 : Int32).toInt = 1 := by decide
    have e2 : (0 : Int32).toInt = 0 := by decide
    omega
  refine s_become (by decide) (by decide) (by decide) (by decide) (by decide) lr v2 v3 (fun ν hν fr => ?_)
  rw [nI_l hb]
  refine s_drawC (d := 25) (μ := μ) hN N 0 0 b z ν (by omega) hb hν vz' h0 (by omega) (fun c h1 h2 => fr c (by omega)) (fun ν' lr' fr' => ?_)
  have ok := drZ_ok N b z vz' h0 (by omega)
  have lv := lr'.2.2.2.2.2.2.1
  rw [ok.2] at lv
  have f3 : (up ν' 279 0 0) 283 = μ 283 := by rw [up_eq, upc_n _ _ (by decide), fr' 283 (by omega) (by decide)]
  have l0' : (up ν' 279 0 0) 283 0 = nI (z 0) := by rw [f3]; exact l0
  have mod : ∀ a, (¬ w = 0 → a = nI (0 + drD N b z)) → (w = 0 → a = nI (lvz (drZ N b z) (z 3))) → K a ν' := by
    intro a a1 a0
    refine k _ _ (fun G g => e_X8_drawn (s_isThereM (μ := up ν' 279 0 0) l0' (by omega) (fun _ => nr_f (by decide) (s_in (a := 0) (b := 60) (by decide) (by decide) rfl rfl (fun _ => br_f (by decide) (s_inI (a := 1) (b := 999999) rfl rfl (fun _ => br_f (by decide) (s_in (a := 0) (b := 1) (by decide) (by decide) rfl rfl (fun _ => nr_f (by decide) ?_) (fun h => absurd hw h))) (fun h => absurd hy' h))) (fun h => absurd hx' h))) (fun h => absurd h (by omega))))
    have inv : ∀ f', Inv (upc (up ν' 279 0 0) 285 f') := fun f' => Inv.q hI (fun k hk => by rw [upc_n _ _ (by omega), up_eq, upc_n _ _ (by omega)]; exact fr' k (by omega) (by omega)) (fun j hj => by rw [upc_n _ _ (by decide), up_eq, upc_s, upd_n _ _ hj, fr' 279 (by decide) (by decide)])
    refine s_layThen (z := z) (by rw [f3]; exact lm) (fun f3 h3 => ?_)
    rw [nI_l hb]
    refine s_drawM (d := 25) hN N 0 0 b z f3 (by omega) hb h3 vz' h0 (by omega) (fun f' hf' => nr_c (fun c => ?_) (fun c => ?_))
    · rw [← a1 c]
      exact g _ (inv f')
    · refine s_living (Or.inr rfl) (z := drZ N b z) hf' ok.1 ?_
      rw [ok.2, oB_lvz _ v3, ← a0 c]
      exact g _ (inv f')
  refine nr_c (fun c => mod _ (fun _ => rfl) (fun h => absurd h c)) (fun c => ?_)
  rw [lv]
  exact mod _ (fun h => absurd c h) (fun _ => rfl)
