/-! ===== days ===== -/
def pnI : Nat → Nat → Nat
  | 0, n => n
  | m + 1, n => pnI m (pn n)
def puI : Nat → Nat → (Nat → Nat → Nat) → (Nat → Nat) → Nat → Nat → Nat
  | 0, _, zs, _ => zs
  | m + 1, n, zs, z => puI m (pn n) (pu n zs z) (dz 0 z)
theorem pn_le {n : Nat} : pn n ≤ 24 := by
  unfold pn
  split <;> omega
theorem pu_ok {n : Nat} {zs : Nat → Nat → Nat} {z : Nat → Nat} (vz : VL z) (v9 : z 4 ≤ 999) (hv : ∀ j, j < n → VL (zs j) ∧ zs j 4 ≤ 999) (hn : n ≤ 24) : ∀ j, j < pn n → VL (pu n zs z j) ∧ pu n zs z j 4 ≤ 999 := by
  intro j hj
  unfold pu
  unfold pn at hj
  split
  · rw [if_pos (by assumption)] at hj
    split
    · exact ⟨vz, v9⟩
    · exact hv j (by omega)
  · rw [if_neg (by assumption)] at hj
    split
    · exact ⟨vz, v9⟩
    · exact hv (j + 1) (by omega)
theorem puI_ok : ∀ m n (zs : Nat → Nat → Nat) (z : Nat → Nat), VL z → z 4 + m ≤ 999 → n ≤ 24 → (∀ j, j < n → VL (zs j) ∧ zs j 4 ≤ 999) → ∀ j, j < pnI m n → VL (puI m n zs z j) ∧ puI m n zs z j 4 ≤ 999
  | 0, _, _, _, _, _, _, h => h
  | m + 1, n, zs, z, vz, v9, hn, h => puI_ok m (pn n) (pu n zs z) (dz 0 z) (VL_dz vz (by omega)) (by rw [dz_4]; omega) pn_le (pu_ok vz (by omega) h hn)
theorem AC.fr {μ μ' : Mm} {n o : Nat} {zs : Nat → Nat → Nat} (h : AC μ n o zs) (a : μ' 53 = μ 53) (c : ∀ k, 55 ≤ k → k ≤ 270 → μ' k = μ k) : AC μ' n o zs := by
  obtain ⟨c1, c2, c3, c4, c5⟩ := h
  exact ⟨c1, c2, by rw [a]; exact c3, by rw [a]; exact c4, fun j hj => (c5 j hj).fr (fun b hb => c _ (by omega) (by omega))⟩
theorem s_daysC {d : Nat} {μ : Mm} {K : Int32 → Mm → Prop} {N : Nat} (hN : N ≤ 24) : ∀ m i acc n o (zs : Nat → Nat → Nat) (z : Nat → Nat) (ν : Mm), i + m = N → AC ν n o zs → LR ν 16 z → VL z → z 4 + m ≤ 999 → (∀ a, a < 16 ∨ (24 < a ∧ a < 53) ∨ 271 < a → ν a = μ a) → (∀ ν' o', AC ν' (pnI m n) o' (puI m n zs z) → LR ν' 16 (itZ m z) → (∀ a, a < 16 ∨ (24 < a ∧ a < 53) ∨ 271 < a → ν' a = μ a) → K (nI (acc + sd m z)) ν') → jX7_days (d + 4) K 48 [some (.ref 0), some (.int (nI N)), some (.int (nI acc)), some (.int (nI i))] [] ν := by
  intro m
  induction m with
  | zero =>
    intro i acc n o zs z ν hi hac lr vz v9 fr k
    obtain rfl : i = N := by omega
    exact k_X7_days_48 (br_t (nI_le (Nat.le_refl _) (by omega)) (k ν o hac lr fr))
  | succ m ih =>
    intro i acc n o zs z ν hi hac lr vz v9 fr k
    refine k_X7_days_48 (br_f (by rw [nI_leI (by omega) (by omega)]; omega) (s_remember hac lr vz.2.2.1 vz.2.2.2.1 (fun ν1 o1 hac1 fr1 => s_passLand (Or.inl rfl) vz (lr.fr (fun i hi => fr1 _ (by omega))) (fun ν2 lr2 fr2 => ?_))))
    rw [nI_add, n_suc]
    refine ih (i + 1) (acc + dd 0 z) (pn n) o1 (pu n zs z) (dz 0 z) ν2 (by omega) (hac1.fr (fr2 _ (by decide) (by omega)) (fun k h1 h2 => fr2 _ (by omega) (by omega))) lr2 (VL_dz vz (by omega)) (by rw [dz_4]; omega) (fun a ha => ?_) (fun ν' o' q1 q2 q3 => ?_)
    · rw [fr2 a (by omega) (by omega), fr1 a (by omega)]
      exact fr a ha
    · have := k ν' o' q1 q2 q3
      rw [show acc + sd (m + 1) z = acc + dd 0 z + sd m (dz 0 z) by show acc + (dd 0 z + sd m (dz 0 z)) = _; omega] at this
      exact this
theorem s_daysM {d : Nat} {ρ : Mm} {K : Int32 → Mm → Prop} {N : Nat} (hN : N ≤ 24) : ∀ m i acc n (zs : Nat → Nat → Nat) (z : Nat → Nat) (ν : Mm), i + m = N → n ≤ 24 → AM ν n zs → LM (ν 283) z → VL z → z 4 + m ≤ 999 → (∀ a, a ≠ 279 → a ≠ 283 → a ≠ 286 → ν a = ρ a) → (∀ j, j ≠ 9 → ν 279 j = ρ 279 j) → (∀ ν', AM ν' (pnI m n) (puI m n zs z) → LM (ν' 283) (itZ m z) → (∀ a, a ≠ 279 → a ≠ 283 → a ≠ 286 → ν' a = ρ a) → (∀ j, j ≠ 9 → ν' 279 j = ρ 279 j) → K (nI (acc + sd m z)) ν') → jX8_days (d + 4) K 51 [some (.ref 279), some (.int (nI N)), some (.int (nI acc)), some (.int (nI i))] [] ν := by
  intro m
  induction m with
  | zero =>
    intro i acc n zs z ν hi hn ham lm vz v9 fr f9 k
    obtain rfl : i = N := by omega
    exact k_X8_days_51 (br_t (nI_le (Nat.le_refl _) (by omega)) (k ν ham lm fr f9))
  | succ m ih =>
    intro i acc n zs z ν hi hn ham lm vz v9 fr f9 k
    refine k_X8_days_51 (br_f (by rw [nI_leI (by omega) (by omega)]; omega) (s_keep ham hn lm (fun f g ham1 hg => s_day (s := 0) (z := z) (Or.inl rfl) lm vz (by decide) (fun x hx => ?_))))
    rw [nI_add, n_suc]
    refine ih (i + 1) (acc + dd 0 z) (pn n) (pu n zs z) (dz 0 z) _ (by omega) pn_le ham1 hx (VL_dz vz (by omega)) (by rw [dz_4]; omega) (fun a h1 h2 h3 => ?_) (fun j hj => ?_) (fun ν' q1 q2 q3 q4 => ?_)
    · rw [upc_n _ _ h2, upc_n _ _ h1, upc_n _ _ h3]
      exact fr a h1 h2 h3
    · show g j = _
      rw [hg j hj]
      exact f9 j hj
    · have := k ν' q1 q2 q3 q4
      rw [show acc + sd (m + 1) z = acc + dd 0 z + sd m (dz 0 z) by show acc + (dd 0 z + sd m (dz 0 z)) = _; omega] at this
      exact this
theorem op_days {μ : Mm} {K : Int32 → Mm → Prop} {x : Int32} (hI : Inv μ) (k : ∀ a μ1, Nx 142 [.ref 279, .int x] a μ1 → K a μ1) : cI (cM 30) 60 [.ref 0, .int x] μ K := by
  obtain ⟨z, hz⟩ := hI.2.2.2.2.1
  obtain ⟨vz, v9, lr, lm⟩ := hz
  have vz' := vz
  obtain ⟨v0, v1, v2, v3, v4, v5, v6, v7, v8⟩ := vz
  have r0 := lr.1
  have r3 := lr.2.2.2.1
  have r4 := lr.2.2.2.2.1
  have r5 := lr.2.2.2.2.2.1
  have r6 := lr.2.2.2.2.2.2.1
  have l0 := lm 0 (by decide)
  have l2 := lm 2 (by decide)
  have l3 := lm 3 (by decide)
  have l5 := lm 5 (by decide)
  have r2 := lr.2.2.1
  have l4 := lm 4 (by decide)
  refine e_X7_days (s_isThere rfl r0 (by omega) (fun h0 => nr_f (by decide) ?_) (fun h0 => nr_t rfl (k _ _ (fun G g => e_X8_days (s_isThereM (μ := up μ 279 0 0) l0 (by omega) (fun h => absurd h (by omega)) (fun _ => nr_t rfl (g _ (Inv.q hI (fun k hk => by simp (disch := omega) only [up_eq, upc_n]) (fun j hj => by simp (disch := omega) only [up_eq, upc_s, upc_n, upd_n])))))))))
  refine s_out (a := 1) (b := 24) (by decide) (by decide) (fun hy => br_t rfl ?_) (fun hy => br_f (by decide) (k _ _ (fun G g => e_X8_days (s_isThereM (μ := up μ 279 0 0) l0 (by omega) (fun _ => nr_f (by decide) (s_in (a := 1) (b := 24) (by decide) (by decide) rfl rfl (fun h => absurd h hy) (fun _ => nr_t rfl (g _ (Inv.q hI (fun k hk => by simp (disch := omega) only [up_eq, upc_n]) (fun j hj => by simp (disch := omega) only [up_eq, upc_s, upc_n, upd_n])))))) (fun h => absurd h (by omega))))))
  obtain ⟨N, h1N, hN, rfl⟩ := hy
  have full : ∀ v : Int32, v = nI (z 4) → ((v + nI N ≤ 999) = (z 4 + N ≤ 999)) := by
    intro v hv
    subst hv
    rw [nI_add, show (999 : Int32) = nI 999 from rfl]
    exact propext (nI_leI (by omega) (by omega))
  rw [full _ r2]
  refine br_c (fun hf => ?_) (fun hf => k _ _ (fun G g => e_X8_days (s_isThereM (μ := up μ 279 0 0) l0 (by omega) (fun _ => nr_f (by decide) (s_in (a := 1) (b := 24) (by decide) (by decide) rfl rfl (fun _ => nr_f (by decide) ⟨vp_in_nI (n := 4) (by decide) (by decide), ?_⟩) (fun h => absurd ⟨N, h1N, hN, rfl⟩ h))) (fun h => absurd h (by omega)))))
  · obtain ⟨n, o, zs, a1, a2, a3, a4, a5, a6⟩ := hI.2.2.2.2.2.1
    refine s_daysC (d := 25) (μ := μ) hN N 0 0 n o zs z μ (by omega) ⟨a1, a2, a3, a5, fun j hj => (a6 j hj).2.2.1⟩ lr vz' hf (fun _ _ => rfl) (fun ν o' hac lrν fr => ?_)
    have f3 : (up ν 279 0 0) 283 = μ 283 := by rw [up_eq, upc_n _ _ (by decide), fr 283 (by omega)]
    have l0' : (up ν 279 0 0) 283 0 = nI (z 0) := by rw [f3]; exact l0
    have l4' : (up ν 279 0 0) 283 4 = nI (z 4) := by rw [f3]; exact l4
    refine k _ _ (fun G g => e_X8_days (s_isThereM (μ := up ν 279 0 0) l0' (by omega) (fun _ => nr_f (by decide) (s_in (a := 1) (b := 24) (by decide) (by decide) rfl rfl (fun _ => nr_f (by decide) ⟨vp_in_nI (n := 4) (by decide) (by decide), ?_⟩) (fun h => absurd ⟨N, h1N, hN, rfl⟩ h))) (fun h => absurd h (by omega))))
    rw [show (4 : Int32).toNatClampNeg = 4 from rfl, full _ l4']
    refine br_t hf ?_
    refine s_daysM (d := 25) (ρ := up ν 279 0 0) hN N 0 0 n zs z _ (by omega) a1 ⟨?_, fun j hj i hi => ?_⟩ (by rw [f3]; exact lm) vz' hf (fun _ _ _ _ => rfl) (fun _ _ => rfl) (fun ν' ham lm' fr' f9 => ?_)
    · rw [up_eq, upc_s, upd_n _ _ (by decide), fr 279 (by omega)]
      exact a4
    · rw [up_eq, upc_n _ _ (by decide), fr 286 (by omega)]
      exact (a6 j hj).2.2.2 i hi
    have S : ∀ a, a ≠ 279 → a ≠ 283 → a ≠ 286 → ν' a = ν a := fun a h1 h2 h3 => by rw [fr' a h1 h2 h3, up_eq, upc_n _ _ h1]
    have ok := puI_ok N n zs z vz' hf a1 (fun j hj => ⟨(a6 j hj).1, (a6 j hj).2.1⟩)
    have w := itZ_VL N z vz' (by omega)
    have hac' : AC ν' (pnI N n) o' (puI N n zs z) := hac.fr (S _ (by decide) (by decide) (by decide)) (fun k h1 h2 => S _ (by omega) (by omega) (by omega))
    obtain ⟨c1, c2, c3, c4, c5⟩ := hac'
    refine g _ (Inv.g hI (z' := itZ N z) ⟨w.1, by rw [w.2.2.2.2.1]; exact hf, lrν.fr (fun i hi => S _ (by omega) (by omega) (by omega)), lm'⟩ ⟨pnI N n, o', puI N n zs z, c1, c2, c3, ham.1, c4, fun j hj => ⟨(ok j hj).1, (ok j hj).2, c5 j hj, ham.2 j hj⟩⟩ (hI.2.2.2.2.2.2.1.fr (fun a h1 h2 => ?_) ?_ ?_) (fun a ha => ?_) (fun j h0 h9 => ?_))
    · rw [S a (by omega) (by omega) (by omega), fr a (by omega)]
    · rw [S 288 (by decide) (by decide) (by decide), fr 288 (by omega)]
    · rw [S 289 (by decide) (by decide) (by decide), fr 289 (by omega)]
    · rw [S a (by omega) (by omega) (by omega), fr a (by omega)]
    · rw [f9 j h9, up_eq, upc_s, upd_n _ _ h0, fr 279 (by omega)]
  · rw [show (4 : Int32).toNatClampNeg = 4 from rfl, full _ (show (up μ 279 0 0) 283 4 = nI (z 4) from l4)]
    exact br_f hf (g _ (Inv.q hI (fun k hk => by simp (disch := omega) only [up_eq, upc_n]) (fun j hj => by simp (disch := omega) only [up_eq, upc_s, upc_n, upd_n])))
