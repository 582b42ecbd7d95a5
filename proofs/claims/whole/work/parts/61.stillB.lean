/-! ===== still ===== -/
/-- the reference answers a too (a long) -/
def NxL (j : Nat) (as : List Value) (a : Int64) (μ : Mm) : Prop := ∀ G : Int64 → Mm → Prop, (∀ μ2, Inv μ2 → G a μ2) → cL (cM 30) j as μ G
def op5 (T v : Nat) : Nat := (2 ^ T - 1) &&& (31 ^^^ v)
theorem op_fin : ∀ T, T < 6 → ∀ v, v < 32 → (((1 : Int32) <<< (nI T &&& 31)) - 1) &&& (nI v ^^^ -1) = nI (op5 T v) ∧ op5 T v < 2 ^ T ∧ (∀ b, b < T → (op5 T v / 2 ^ b % 2 = 0 → v / 2 ^ b % 2 = 1)) := by decide +kernel
theorem sub_bit : ∀ s, s < 32 → ∀ o, o < 32 → ((nI s &&& (nI o ^^^ -1) = 0) ↔ (s &&& o = s)) := by decide +kernel
theorem ndd_cg {y w : Nat → Nat} {q : Nat} (e : ∀ x, x ≠ 5 → y x = w x) : ndd y q = ndd w q := by
  unfold ndd np gz
  rw [e (21 + 6 * q) (by omega), e (16 + 6 * q) (by omega), e (17 + 6 * q) (by omega), e (18 + 6 * q) (by omega), e (19 + 6 * q) (by omega), e (20 + 6 * q) (by omega), e (6 + 2 * w (17 + 6 * q)) (by omega), e 0 (by decide), e 1 (by decide), e 4 (by decide)]
theorem dz_nT {z : Nat → Nat} {q s : Nat} (hq : q < z 3) : dz s z (21 + 6 * q) = nT 1 q z s := by
  show _ = dz 0 (un z 5 (z 5 ||| s)) (21 + 6 * q)
  have e : ∀ i, i ≠ 5 → un z 5 (z 5 ||| s) i = z i := fun i hi => un_n _ _ hi
  rw [dz_5 hq, dz_5 (z := un z 5 (z 5 ||| s)) (by rw [e 3 (by decide)]; exact hq), e 2 (by decide)]
  refine ndd_cg (fun x hx => ?_)
  unfold tz
  by_cases c : 6 ≤ x ∧ x < 6 + 2 * z 2 ∧ x % 2 = 0
  · rw [if_pos c, if_pos c]
    unfold mv
    rw [un_s, Nat.or_zero, e 0 (by decide), e (6 + 2 * ((x - 6) / 2)) (by omega), e (7 + 2 * ((x - 6) / 2)) (by omega)]
  · rw [if_neg c, if_neg c, e x hx]
theorem s_stillI {d : Nat} {μ : Mm} {K : Int64 → Mm → Prop} {p q o s : Nat} {w : Int32} {z : Nat → Nat} {A B : Int64} {f : Nat → Int32} (lm : LM (μ 283) z) (hz : VL z) (hq : q < z 3) (h4 : z 4 ≤ 999) (hp : p ≤ 10) (ho : o < 32) (hs : s < 32)
    (n0 : ¬ dz s z (21 + 6 * q) = 0 → ∀ f', jX8_still (d + 4) K 69 [some (.ref 279), some (.int (nI q)), some (.int (nI p)), some (.int w), some (.long (A + (0 : Int64))), none, some (.long (B + lN (wy o s p (z 2)))), none, some (.int (nI o)), some (.int (nI (s + 1))), none, none, none, none, none] [] (upc μ 285 f'))
    (n1 : dz s z (21 + 6 * q) = 0 → ∀ f', jX8_still (d + 4) K 69 [some (.ref 279), some (.int (nI q)), some (.int (nI p)), some (.int w), some (.long (A + lN (wy o s p (z 2)))), none, some (.long (B + lN (wy o s p (z 2)))), none, some (.int (nI o)), some (.int (nI (s + 1))), none, none, none, none, none] [] (upc μ 285 f')) :
    ∀ m t, t + m = z 2 → jX8_still (d + 4) K 92 [some (.ref 279), some (.int (nI q)), some (.int (nI p)), some (.int w), some (.long A), none, some (.long B), none, some (.int (nI o)), some (.int (nI s)), some (.long (lN (wy o s p t))), none, some (.int (nI t)), none, none] [] (upc μ 285 f) := by
  obtain ⟨v0, v1, v2, v3, v4, v5, v6, v7, v8⟩ := id hz
  have l2 : (upc μ 285 f) 283 (2 : Int32).toNatClampNeg = nI (z 2) := lm 2 (by decide)
  intro m
  induction m with
  | zero =>
    intro t ht
    obtain rfl : t = z 2 := by omega
    refine k_X8_still_92 ⟨vp_in_nI (n := 2) (by decide) (by decide), ?_⟩
    rw [l2]
    refine br_t (nI_le (Nat.le_refl _) (by omega)) (s_layThen (z := z) lm (fun f1 hf1 => s_day (z := z) (Or.inr rfl) hf1 hz hs (fun f2 hf2 => ?_)))
    have w6 := ((VL_dz (s := s) hz (by omega)).2.2.2.2.2.2.2.2 q (by rw [dz_hd (by decide) (by decide)]; exact hq)).2.2.2.2.2
    rw [dz_4] at w6
    rw [upc_upc, upc_upc, n_suc]
    exact s_lives (Or.inr rfl) (z := dz s z) hf2 (by omega) (by omega) (fun c => br_t rfl (n0 c f2)) (fun c => br_f (by decide) (n1 c f2))
  | succ m ih =>
    intro t ht
    have e1 : ((nI o >>> (nI t &&& 31)) &&& 1) = nI (o / 2 ^ t % 2) := sh_b (by omega) (by omega)
    have e2 : ((nI s >>> (nI t &&& 31)) &&& 1) = nI (s / 2 ^ t % 2) := sh_b (by omega) (by omega)
    have e3 : (nI (o / 2 ^ t % 2) = 0) = (o / 2 ^ t % 2 = 0) := propext (nI_eq (b := 0) (by omega) (by decide))
    have e4 : (nI (s / 2 ^ t % 2) = 1) = (s / 2 ^ t % 2 = 1) := propext (nI_eq (b := 1) (by omega) (by decide))
    have e5 : (10 : Int64) - lN p = lN (10 - p) := lN_sub (a := 10) hp
    have e6 : lN (wy o s p t) * 1 = lN (wy o s p t * 1) := lN_mul _ 1
    have ih' := ih (t + 1) (by omega)
    refine k_X8_still_92 ⟨vp_in_nI (n := 2) (by decide) (by decide), ?_⟩
    rw [l2, e1, e2, e3, e4, nI_l (by omega), e5, e6, lN_mul, lN_mul, n_suc t]
    refine br_f (by rw [nI_leI (by omega) (by omega)]; omega) (nr_c (fun c1 => nr_c (fun c2 => ?_) (fun c2 => ?_)) (fun c1 => ?_))
    · rw [show wy o s p (t + 1) = wy o s p t * (10 - p) by show _ * (if o / 2 ^ t % 2 = 0 then 1 else if s / 2 ^ t % 2 = 1 then p else 10 - p) = _; rw [if_neg c1, if_neg c2]] at ih'
      exact ih'
    · rw [show wy o s p (t + 1) = wy o s p t * p by show _ * (if o / 2 ^ t % 2 = 0 then 1 else if s / 2 ^ t % 2 = 1 then p else 10 - p) = _; rw [if_neg c1, if_pos c2]] at ih'
      exact ih'
    · rw [show wy o s p (t + 1) = wy o s p t * 1 by show _ * (if o / 2 ^ t % 2 = 0 then 1 else if s / 2 ^ t % 2 = 1 then p else 10 - p) = _; rw [if_pos c1]] at ih'
      exact ih'
theorem s_stillO {d : Nat} {μ : Mm} {K : Int64 → Mm → Prop} {p q o l0 l1 b : Nat} {w : Int32} {z : Nat → Nat} (lm : LM (μ 283) z) (hz : VL z) (hq : q < z 3) (h4 : z 4 ≤ 999) (hp : p ≤ 10) (ho : o < 2 ^ z 2)
    (hT : ∀ s, s < 32 → (dz s z (21 + 6 * q) = 0 ↔ ¬ (if s / 2 ^ b % 2 = 1 then l1 else l0) = 0))
    (k : ∀ f, jX8_still (d + 4) K 208 [none, none, none, some (.int w), some (.long (lN (ab o p b l0 l1 (o + 1)))), none, some (.long (lN (be o p (o + 1)))), none, none, some (.long (lN (ab o p b l0 l1 (o + 1)))), none, some (.long (lN (be o p (o + 1)))), none, none, none] [] (upc μ 285 f)) :
    ∀ m s f, s + m = o + 1 → jX8_still (d + 4) K 69 [some (.ref 279), some (.int (nI q)), some (.int (nI p)), some (.int w), some (.long (lN (ab o p b l0 l1 s))), none, some (.long (lN (be o p s))), none, some (.int (nI o)), some (.int (nI s)), none, none, none, none, none] [] (upc μ 285 f) := by
  have v2 := hz.2.2.1
  have p5 : 2 ^ z 2 ≤ 2 ^ 5 := Nat.pow_le_pow_right (by decide) v2
  intro m
  induction m with
  | zero =>
    intro s f hs
    obtain rfl : s = o + 1 := by omega
    refine k_X8_still_69 (br_t ?_ (k f))
    rw [nI_ltI (by omega) (by omega)]
    omega
  | succ m ih =>
    intro s f hs
    have ih' := fun f => ih (s + 1) f (by omega)
    have hs32 : s < 32 := by omega
    refine k_X8_still_69 ?_
    rw [show (nI s &&& (nI o ^^^ -1) = 0) = (s &&& o = s) from propext (sub_bit s hs32 o (by omega)), n_suc]
    refine br_f (by rw [nI_ltI (by omega) (by omega)]; omega) (nr_c (fun c => ?_) (fun c => ?_))
    · have := ih' f
      rw [show ab o p b l0 l1 (s + 1) = ab o p b l0 l1 s by show _ + (if s &&& o = s then _ else 0) = _; rw [if_neg c, Nat.add_zero], show be o p (s + 1) = be o p s by show _ + (if s &&& o = s then _ else 0) = _; rw [if_neg c, Nat.add_zero]] at this
      exact this
    · have eb : be o p (s + 1) = be o p s + wy o s p 5 := by
        show _ + (if s &&& o = s then _ else 0) = _
        rw [if_pos c]
      have hw5 := wy_5 (s := s) (p := p) ho v2
      refine s_stillI (d := d) lm hz hq h4 hp (by omega) hs32 (fun cd f' => ?_) (fun cd f' => ?_) (z 2) 0 (by omega)
      · have ea : ab o p b l0 l1 (s + 1) = ab o p b l0 l1 s + 0 := by
          show _ + (if s &&& o = s then (if (if s / 2 ^ b % 2 = 1 then l1 else l0) = 0 then 0 else _) else 0) = _
          rw [if_pos c, if_pos (Decidable.byContradiction (fun h => cd ((hT s hs32).mpr h)))]
        have := ih' f'
        rw [ea, eb, ← lN_add, ← lN_add, ← hw5] at this
        exact this
      · have ea : ab o p b l0 l1 (s + 1) = ab o p b l0 l1 s + wy o s p 5 := by
          show _ + (if s &&& o = s then (if (if s / 2 ^ b % 2 = 1 then l1 else l0) = 0 then 0 else _) else 0) = _
          rw [if_pos c, if_neg ((hT s hs32).mp cd)]
        have := ih' f'
        rw [ea, eb, ← lN_add, ← lN_add, ← hw5] at this
        exact this
theorem s_gcd {d : Nat} {μ : Mm} {K : Int64 → Mm → Prop} {w : Int32} {A B : Nat} (hA : A < 2 ^ 40) (hB : B < 2 ^ 40) {g : Nat} (hg : 0 < g) (hg2 : g < 2 ^ 40) (k0 : w = 0 → K (lN (A / g)) μ) (k1 : ¬ w = 0 → K (lN (B / g)) μ) : ∀ y x, y < 2 ^ 40 → x < 2 ^ 40 → Nat.gcd x y = g → jX8_still d K 208 [none, none, none, some (.int w), some (.long (lN A)), none, some (.long (lN B)), none, none, some (.long (lN x)), none, some (.long (lN y)), none, none, none] [] μ := by
  intro y
  induction y using Nat.strongRecOn with
  | ind y ih =>
    intro x hy hx hxy
    refine k_X8_still_208 ?_
    rw [cmp_z _ (by omega)]
    refine br_c (fun c => ?_) (fun c => ?_)
    · subst c
      rw [Nat.gcd_zero_right] at hxy
      subst hxy
      have hne : ¬ lN x = 0 := fun h => by
        have : x = 0 := (pk_lEQ (b := 0) (by omega) (by decide)).mp h
        omega
      rw [pk_lDiv (by omega) hg (by omega), pk_lDiv (by omega) hg (by omega)]
      exact nr_c (fun h => ⟨hne, k1 h⟩) (fun h => ⟨hne, k0 h⟩)
    · have hne : ¬ lN y = 0 := fun h => c ((pk_lEQ (b := 0) (by omega) (by decide)).mp h)
      have hlt : x % y < y := Nat.mod_lt _ (by omega)
      rw [pk_lRem (by omega) (by omega) (by omega)]
      refine ⟨hne, ih (x % y) hlt y (by omega) hy ?_⟩
      rw [Nat.gcd_comm, ← Nat.gcd_rec, Nat.gcd_comm]
      exact hxy
/-- the class's common part of a and 10 -/
def sp (a : Nat) : Nat → Nat
  | 0 => 1
  | m + 1 => if m + 1 ≤ 1 then 1 else if a % (m + 1) = 0 ∧ 10 % (m + 1) = 0 then m + 1 else sp a m
theorem sp_fin : ∀ a, a < 11 → sp a 10 = Nat.gcd a 10 := by decide
theorem s_shared {d : Nat} {μ : Mm} {K : Int32 → Mm → Prop} {a : Nat} (ha : a ≤ 10) (k : K (nI (Nat.gcd a 10)) μ) : cI (cM (d + 1)) 95 [.int (nI a), .int 10] μ K := by
  have key : ∀ m, m ≤ 10 → K (nI (sp a m)) μ → jX7_sharedPart d K 6 [some (.int (nI a)), some (.int (nI 10)), some (.int (nI m))] [] μ := by
    intro m
    induction m with
    | zero =>
      intro _ k
      exact k_X7_sharedPart_6 (br_t (by decide) k)
    | succ m ih =>
      intro hm k
      refine k_X7_sharedPart_6 ?_
      rw [show nI (m + 1) + -1 = nI m from pk_m1 m, show (1 : Int32) = nI 1 from rfl, nI_leI (by omega) (by omega)]
      by_cases c : m + 1 ≤ 1
      · rw [show sp a (m + 1) = 1 from if_pos c] at k
        exact br_t c k
      · have e : sp a (m + 1) = if a % (m + 1) = 0 ∧ 10 % (m + 1) = 0 then m + 1 else sp a m := if_neg c
        have nz : ¬ nI (m + 1) = 0 := fun h => by
          have : m + 1 = 0 := (nI_eq (b := 0) (by omega) (by decide)).mp h
          omega
        have h1 : a % (m + 1) < m + 1 := Nat.mod_lt _ (by omega)
        have h2 : 10 % (m + 1) < m + 1 := Nat.mod_lt _ (by omega)
        rw [rem_n (by omega) (by omega) (by omega), rem_n (by omega) (by omega) (by omega), show (nI (a % (m + 1)) = 0) = (a % (m + 1) = 0) from propext (nI_eq (b := 0) (by omega) (by decide)), show (nI (10 % (m + 1)) = 0) = (10 % (m + 1) = 0) from propext (nI_eq (b := 0) (by omega) (by decide))]
        refine br_f c ⟨nz, nr_c (fun c1 => ?_) (fun c1 => ⟨nz, nr_c (fun c2 => ?_) (fun c2 => ?_)⟩)⟩
        · rw [e, if_neg (fun h => c1 h.1)] at k
          exact ih (by omega) k
        · rw [e, if_neg (fun h => c2 h.2)] at k
          exact ih (by omega) k
        · rw [e, if_pos ⟨c1, c2⟩] at k
          exact k
  have h10 : (if nI a < 10 then (10 : Int32) else nI a) = nI 10 := by
    by_cases c : nI a < 10
    · rw [if_pos c]
      rfl
    · rw [if_neg c]
      rw [show (10 : Int32) = nI 10 from rfl, nI_ltI (by omega) (by omega)] at c
      rw [show a = 10 by omega]
  refine e_X7_sharedPart ?_
  rw [h10]
  refine key 10 (by decide) ?_
  rw [sp_fin a (by omega)]
  exact k
theorem op_still {μ : Mm} {K : Int64 → Mm → Prop} {x y w : Int32} (hI : Inv μ) (k : ∀ a μ1, NxL 169 [.ref 279, .int x, .int y, .int w] a μ1 → K a μ1) : cL (cM 30) 81 [.ref 0, .int x, .int y, .int w] μ K := by
  obtain ⟨z, hz⟩ := hI.2.2.2.2.1
  obtain ⟨vz, v9, lr, lm⟩ := hz
  have vz' := vz
  obtain ⟨v0, v1, v2, v3, v4, v5, v6, v7, v8⟩ := vz
  have r0 := lr.1
  have r3 := lr.2.2.2.1
  have r4 := lr.2.2.2.2.1
  have r5 := lr.2.2.2.2.2.1
  have r6 := lr.2.2.2.2.2.2.1
  have l0 := lm 0 (by decide)
  have l2 := lm 2 (by decide)
  have l3 := lm 3 (by decide)
  have l5 := lm 5 (by decide)
  refine e_X7_still (s_isPerson r4 (by omega) (fun hx => br_f (by decide) ?_) (fun hx => br_t rfl (k _ _ (fun G g => e_X8_still (s_isPersonM (μ := up μ 279 0 0) l3 (by omega) (fun h => absurd h hx) (fun _ => br_t rfl (g _ (Inv.q hI (fun k hk => by simp (disch := omega) only [up_eq, upc_n]) (fun j hj => by simp (disch := omega) only [up_eq, upc_s, upc_n, upd_n])))))))))
  refine s_out (a := 0) (b := 10) (by decide) (by decide) (fun hy => nr_t rfl ?_) (fun hy => nr_f (by decide) (k _ _ (fun G g => e_X8_still (s_isPersonM (μ := up μ 279 0 0) l3 (by omega) (fun _ => br_f (by decide) (s_in (a := 0) (b := 10) (by decide) (by decide) rfl rfl (fun h => absurd h hy) (fun _ => br_t rfl (g _ (Inv.q hI (fun k hk => by simp (disch := omega) only [up_eq, upc_n]) (fun j hj => by simp (disch := omega) only [up_eq, upc_s, upc_n, upd_n])))))) (fun h => absurd hx h)))))
  refine s_out (a := 0) (b := 1) (by decide) (by decide) (fun hw => br_t rfl ?_) (fun hw => br_f (by decide) (k _ _ (fun G g => e_X8_still (s_isPersonM (μ := up μ 279 0 0) l3 (by omega) (fun _ => br_f (by decide) (s_in (a := 0) (b := 10) (by decide) (by decide) rfl rfl (fun _ => br_f (by decide) (s_in (a := 0) (b := 1) (by decide) (by decide) rfl rfl (fun h => absurd h hw) (fun _ => nr_t rfl (g _ (Inv.q hI (fun k hk => by simp (disch := omega) only [up_eq, upc_n]) (fun j hj => by simp (disch := omega) only [up_eq, upc_s, upc_n, upd_n])))))) (fun h => absurd hy h))) (fun h => absurd hx h)))))
  have hx' := hx
  have hy' := hy
  have hw' := hw
  obtain ⟨q, hq, rfl⟩ := hx
  obtain ⟨p, -, hp, rfl⟩ := hy
  have w2 := (v8 q hq).2.1
  have hv := pj_VF vz' hq
  have hv4 : VF (un (pj z q) 4 0) := by
    obtain ⟨b0, b1, b2, b3, b4, b5, b6, b7, b8, b9⟩ := hv
    exact ⟨b0, b1, b2, b3, Nat.zero_le _, b5, b6, b7, b8, b9⟩
  have l9' : itF 1 (un (pj z q) 4 0) 9 ≤ 1 := Nat.le_trans (it9_le 1 (un (pj z q) 4 0)) hv4.2.2.2.2.2.2.2.2.2
  obtain ⟨of, olt, obt⟩ := op_fin (z 2) (by omega) (z 5) v5
  have p5 : 2 ^ z 2 ≤ 2 ^ 5 := Nat.pow_le_pow_right (by decide) v2
  generalize hl0 : (if itZ 1 z (21 + 6 * q) = 0 then 1 else 0) = l0
  generalize hl1 : itF 1 (un (pj z q) 4 0) 9 = l1 at l9'
  have l0' : l0 ≤ 1 := by
    rw [← hl0]
    split <;> omega
  have hT : ∀ s, s < 32 → (dz s z (21 + 6 * q) = 0 ↔ ¬ (if s / 2 ^ z (17 + 6 * q) % 2 = 1 then l1 else l0) = 0) := by
    intro s hs
    rw [dz_nT hq]
    rcases Nat.mod_two_eq_zero_or_one (s / 2 ^ z (17 + 6 * q)) with e | e
    · rw [nT_0 vz' hq (by omega) hs e, if_neg (by omega), ← hl0]
      by_cases c : itZ 1 z (21 + 6 * q) = 0
      · rw [if_pos c]
        exact ⟨fun _ => by decide, fun _ => c⟩
      · rw [if_neg c]
        exact ⟨fun h => absurd h c, fun h => absurd rfl h⟩
    · rw [nT_1 vz' hq (by omega) hs e, if_pos e, hl1]
  have he : op5 (z 2) (z 5) / 2 ^ z (17 + 6 * q) % 2 = 0 → l0 = l1 := by
    intro h
    have hn := nT_n (n := 1) vz' hq (by omega) (obt _ w2 h)
    rw [hl1] at hn
    rw [← hl0]
    by_cases c : itZ 1 z (21 + 6 * q) = 0
    · rw [if_pos c]
      have := hn.mp c
      omega
    · rw [if_neg c]
      by_cases c2 : l1 = 0
      · exact c2.symm
      · exact absurd (hn.mpr c2) c
  obtain ⟨t1, t2, t3⟩ := st_all (o := op5 (z 2) (z 5)) (p := p) (b := z (17 + 6 * q)) (by omega) hp (by omega) l0' l9' he
  have hA := ab_le (o := op5 (z 2) (z 5)) (b := z (17 + 6 * q)) (l0 := l0) (l1 := l1) hp (op5 (z 2) (z 5) + 1)
  have hB := be_le (o := op5 (z 2) (z 5)) hp (op5 (z 2) (z 5) + 1)
  have mod : ∀ (f : Nat → Int32) (a : Int64), (w = 0 → a = lN (cs p l0 l1 / Nat.gcd (cs p l0 l1) 10)) → (¬ w = 0 → a = lN (10 / Nat.gcd (cs p l0 l1) 10)) → K a (upc μ 271 f) := by
    intro f a a0 a1
    refine k _ _ (fun G g => e_X8_still (s_isPersonM (μ := up (upc μ 271 f) 279 0 0) l3 (by omega) (fun _ => br_f (by decide) (s_in (a := 0) (b := 10) (by decide) (by decide) rfl rfl (fun _ => br_f (by decide) (s_in (a := 0) (b := 1) (by decide) (by decide) rfl rfl (fun _ => nr_f (by decide) ⟨vp_in_nI (n := 2) (by decide) (by decide), vp_in_nI (n := 5) (by decide) (by decide), ?_⟩) (fun h => absurd hw' h))) (fun h => absurd hy' h))) (fun h => absurd hx' h)))
    rw [show (up (upc μ 271 f) 279 0 0) 283 (2 : Int32).toNatClampNeg = nI (z 2) from l2, show (up (upc μ 271 f) 279 0 0) 283 (5 : Int32).toNatClampNeg = nI (z 5) from l5, of]
    have := s_stillO (d := 25) (μ := up (upc μ 271 f) 279 0 0) (K := G) (w := w) (b := z (17 + 6 * q)) (l0 := l0) (l1 := l1) lm vz' hq v9 hp olt hT (fun f2 => s_gcd (by omega) (by omega) t1 (Nat.lt_of_le_of_lt (Nat.gcd_le_right _ (Nat.pos_of_ne_zero (fun h0 => ?_))) (show be (op5 (z 2) (z 5)) p (op5 (z 2) (z 5) + 1) < 2 ^ 40 by omega)) (fun h => ?_) (fun h => ?_) _ _ (by omega) (by omega) rfl) (op5 (z 2) (z 5) + 1) 0 ((up (upc μ 271 f) 279 0 0) 285) (by omega)
    · rw [upc_id] at this
      exact this
    · rw [h0, Nat.zero_div] at t3
      have := (co_mul (cs p l0 l1) (by unfold cs; split <;> split <;> omega)).2.2.2
      omega
    · rw [t2, ← a0 h]
      exact g _ (Inv.q hI (fun k hk => by simp (disch := omega) only [up_eq, upc_n]) (fun j hj => by simp (disch := omega) only [up_eq, upc_s, upc_n, upd_n]))
    · rw [t3, ← a1 h]
      exact g _ (Inv.q hI (fun k hk => by simp (disch := omega) only [up_eq, upc_n]) (fun j hj => by simp (disch := omega) only [up_eq, upc_s, upc_n, upd_n]))
  have hc : cs p l0 l1 < 11 := by
    unfold cs
    split <;> split <;> omega
  have fin : ∀ (f : Nat → Int32) (c : Int32), c = nI (cs p l0 l1) → cI (cM 29) 95 [.int c, .int 10] (upc μ 271 f) (fun x109 μ109 => ((¬ w = 0 → (¬ x109 = 0 ∧ K ((10 : Int32) / x109).toInt64 μ109)) ∧ (w = 0 → (¬ x109 = 0 ∧ K (c / x109).toInt64 μ109)))) := by
    intro f c hcc
    subst hcc
    refine s_shared (by omega) ?_
    obtain ⟨g1, g2, g3, g4⟩ := co_mul _ hc
    have gl : Nat.gcd (cs p l0 l1) 10 ≤ 10 := Nat.gcd_le_right _ (by decide)
    have nz : ¬ nI (Nat.gcd (cs p l0 l1) 10) = 0 := fun h => by
      have : Nat.gcd (cs p l0 l1) 10 = 0 := (nI_eq (b := 0) (by omega) (by decide)).mp h
      omega
    have d1 : cs p l0 l1 / Nat.gcd (cs p l0 l1) 10 ≤ cs p l0 l1 := Nat.div_le_self _ _
    have d2 : 10 / Nat.gcd (cs p l0 l1) 10 ≤ 10 := Nat.div_le_self _ _
    rw [show (10 : Int32) / nI (Nat.gcd (cs p l0 l1) 10) = nI (10 / Nat.gcd (cs p l0 l1) 10) from pk_div (a := 10) (by decide) g3 (by omega), pk_div (by omega) g3 (by omega), nI_l (by omega), nI_l (by omega)]
    exact nr_c (fun h => ⟨nz, mod f _ (fun h0 => absurd h0 h) (fun _ => rfl)⟩) (fun h => ⟨nz, mod f _ (fun _ => rfl) (fun h1 => absurd h h1)⟩)
  -- the second look: his THING stands still
  have look : ∀ (f : Nat → Int32) (c0 c1 : Int32), (l1 = 0 → c0 = nI (cs p l0 l1)) → (¬ l1 = 0 → c1 = nI (cs p l0 l1)) → cV (cM 29) 12 [.ref 271, .ref 16, .int (nI q)] (upc μ 271 f) (fun μ73 => (cI (cM 29) 16 [.ref 271, .int 1] (up μ73 271 4 0) (fun x91 μ91 => ((x91 = 0 → (cI (cM 29) 95 [.int c0, .int 10] μ91 (fun x109 μ109 => ((¬ w = 0 → (¬ x109 = 0 ∧ K ((10 : Int32) / x109).toInt64 μ109)) ∧ (w = 0 → (¬ x109 = 0 ∧ K (c0 / x109).toInt64 μ109)))))) ∧ (¬ x91 = 0 → (cI (cM 29) 95 [.int c1, .int 10] μ91 (fun x109 μ109 => ((¬ w = 0 → (¬ x109 = 0 ∧ K ((10 : Int32) / x109).toInt64 μ109)) ∧ (w = 0 → (¬ x109 = 0 ∧ K (c1 / x109).toInt64 μ109)))))))))) := by
    intro f c0 c1 h0 h1
    refine s_begin (by decide) (LR_271 lr) vz' hq (fun f3 hf3 => ?_)
    rw [upc_upc, up_upc]
    refine s_livesB (n := 1) (φ := un (pj z q) 4 0) (Or.inl rfl) (hf3.up rfl) hv4 (show z 4 + 1 ≤ 2000 by omega) (fun f4 _ => ?_)
    rw [hl1, show (nI l1 = 0) = (l1 = 0) from propext (nI_eq (b := 0) (by omega) (by decide))]
    exact br_c (fun c => fin f4 _ (h0 c)) (fun c => fin f4 _ (h1 c))
  refine s_begin (by decide) lr vz' hq (fun f hf => s_livesP (n := 1) hf vz' hq (by omega) (fun c1 f2 => br_t rfl ?_) (fun c1 f2 _ => br_f (by decide) ?_))
  · rw [if_neg c1] at hl0
    subst hl0
    refine look f2 _ _ (fun h => ?_) (fun h => ?_)
    · rw [h]
      rfl
    · unfold cs
      rw [if_pos rfl, if_neg h]
      exact nI_add 0 p
  · rw [if_pos c1] at hl0
    subst hl0
    refine look f2 _ _ (fun h => ?_) (fun h => ?_)
    · unfold cs
      rw [if_neg (by decide), if_pos h, show (10 : Int32) - nI p = nI (10 - p) from sub_n (a := 10) hp]
      exact nI_add _ 0
    · unfold cs
      rw [if_neg (by decide), if_neg h, show (10 : Int32) - nI p = nI (10 - p) from sub_n (a := 10) hp]
      exact nI_add _ p
