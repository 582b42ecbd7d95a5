/-! ===== count, namesakes ===== -/
theorem or_2 {a k : Nat} (h : a < 2 ^ k) : a ||| 2 ^ k = a + 2 ^ k := by
  have := Nat.two_pow_add_eq_or_of_lt h 1
  rw [Nat.mul_one] at this
  rw [Nat.or_comm, ← this, Nat.add_comm]
theorem oB_lvz {z : Nat → Nat} : ∀ k, k ≤ 7 → oB (lvn 0 z) k = nI (lvz z k)
  | 0, _ => rfl
  | k + 1, hk => by
    have ih := oB_lvz (z := z) k (by omega)
    have e : lvz z (k + 1) = lvz z k + (if z (21 + 6 * k) = 0 then 2 ^ k else 0) := rfl
    by_cases c : z (21 + 6 * k) = 0
    · rw [oB_1 (lvn_1 (n := 0) c), ih, e, if_pos c, show (1 : Int32) <<< (nI k &&& 31) = nI 1 <<< (nI k &&& nI 31) from rfl, sh_1 (by omega), nI_or, or_2 (lvz_lt z k)]
    · rw [oB_0 (lvn_0 (n := 0) c), or0, ih, e, if_neg c]
      rfl
def cB (μ : Mm) : Nat → Nat
  | 0 => 0
  | k + 1 => cB μ k + (if μ 280 k < 0 then 0 else 1)
theorem cB_le (μ : Mm) : ∀ k, cB μ k ≤ k
  | 0 => Nat.le_refl _
  | k + 1 => by
    have := cB_le μ k
    show cB μ k + _ ≤ _
    split <;> omega
theorem row_miss {μ : Mm} (h : IR μ) {r : Nat} (hr : r < 8) : (μ 4 r = -1 ↔ μ 280 r < 0) := by
  rcases h r hr with ⟨a, b⟩ | ⟨n, hn, a, b, c, -⟩
  · exact ⟨fun _ => a, fun _ => b⟩
  · constructor
    · intro e
      rw [c, ← Int32.toInt_inj, nI_toInt (by omega)] at e
      exact absurd e (by simp)
    · intro e
      rcases a with a | a | a <;> rw [a] at e <;> exact absurd e (by decide)
theorem s_missing {d : Nat} {μ : Mm} {K : Int32 → Mm → Prop} {r : Nat} (h : IR μ) (hr : r < 8) (k1 : μ 280 r < 0 → K 1 μ) (k0 : ¬ μ 280 r < 0 → K 0 μ) : cI (cM (d + 1)) 42 [.ref 1, .int (nI r)] μ K := by
  refine e_X6_isMissing ⟨vp_in_nI hr (by decide), ?_⟩
  rw [nI_clamp (by omega), row_miss h hr]
  exact nr_c (fun c => ⟨Or.inl rfl, k0 c⟩) (fun c => ⟨Or.inr rfl, k1 c⟩)
theorem op_count {μ : Mm} {K : Int32 → Mm → Prop} {x : Int32} (hI : Inv μ) (k : ∀ a μ1, Nx 184 [.ref 279, .int x] a μ1 → K a μ1) : cI (cM 30) 90 [.ref 0, .int x] μ K := by
  obtain ⟨z, hz⟩ := hI.2.2.2.2.1
  obtain ⟨vz, v9, lr, lm⟩ := hz
  have vz' := vz
  obtain ⟨v0, v1, v2, v3, v4, v5, v6, v7, v8⟩ := vz
  have r0 := lr.1
  have r3 := lr.2.2.2.1
  have r4 := lr.2.2.2.2.1
  have r5 := lr.2.2.2.2.2.1
  have r6 := lr.2.2.2.2.2.2.1
  have l0 := lm 0 (by decide)
  have l2 := lm 2 (by decide)
  have l3 := lm 3 (by decide)
  have l5 := lm 5 (by decide)
  have hR := hI.1
  have P : ∀ b, (∀ G : Int32 → Mm → Prop, G b (up μ 279 0 0) → ((x = 0 → jX8_count 29 G 58 [some (.ref 279), none, some (.int 0), some (.int 0)] [] (up μ 279 0 0)) ∧ (¬ x = 0 → ((x = 1 → (vp_in 2 58 ∧ G (μ 283 (2 : Int32).toNatClampNeg) (up μ 279 0 0))) ∧ (¬ x = 1 → ((x = 2 → (vp_in 3 58 ∧ G (μ 283 (3 : Int32).toNatClampNeg) (up μ 279 0 0))) ∧ (¬ x = 2 → ((x = 3 → (vp_in 4 58 ∧ G (μ 283 (4 : Int32).toNatClampNeg) (up μ 279 0 0))) ∧ (¬ x = 3 → ((x = 4 → (cI (cM 29) 137 [.ref 283] (up μ 279 0 0) (fun x114 μ114 => G x114 μ114))) ∧ (¬ x = 4 → ((x = 5 → (vp_in 0 58 ∧ G (μ 283 (0 : Int32).toNatClampNeg) (up μ 279 0 0))) ∧ (¬ x = 5 → ((x = 6 → G (μ 279 9) (up μ 279 0 0)) ∧ (¬ x = 6 → ((x = 7 → G (μ 279 11) (up μ 279 0 0)) ∧ (¬ x = 7 → G (-1000001) (up μ 279 0 0)))))))))))))))))) → K b μ := by
    intro b hb
    exact k _ _ (fun G g => e_X8_count (hb G (g _ (Inv.q hI (fun k hk => by simp (disch := omega) only [up_eq, upc_n]) (fun j hj => by simp (disch := omega) only [up_eq, upc_s, upc_n, upd_n])))))
  obtain ⟨an, -, -, -, -, a1, a2, -, -⟩ := hI.2.2.2.2.2.1
  obtain ⟨tn, -, t1, t2, -⟩ := hI.2.2.1
  have vp : ∀ n : Nat, n < 58 → vp_in (nI n) 58 := fun n hn => vp_in_nI hn (by decide)
  have r2 := lr.2.2.1
  have l4 := lm 4 (by decide)
  refine e_X7_count ?_
  refine br_c (fun x0 => ?_) (fun x0 => ?_)
  · have fin : K (nI (cB μ 8)) μ := P _ (fun G hG => br_t x0 (by
      have key : ∀ m i, i + m = 8 → jX8_count 29 G 58 [some (.ref 279), none, some (.int (nI (cB μ i))), some (.int (nI i))] [] (up μ 279 0 0) := by
        intro m
        induction m with
        | zero =>
          intro i hi
          obtain rfl : i = 8 := by omega
          exact k_X8_count_58 (br_t (by decide) hG)
        | succ m ih =>
          intro i hi
          have i2 := ih (i + 1) (by omega)
          have e : cB μ (i + 1) = cB μ i + (if μ 280 i < 0 then 0 else 1) := rfl
          have cl : (up μ 279 0 0) 280 (nI i).toNatClampNeg = μ 280 i := by rw [nI_clamp (by omega)]; rfl
          refine k_X8_count_58 ?_
          rw [cl, show (8 : Int32) = nI 8 from rfl, nI_leI (by omega) (by omega), show nI i + 1 = nI (i + 1) by rw [show (1 : Int32) = nI 1 from rfl, nI_add], show nI (cB μ i) + 1 = nI (cB μ i + 1) by rw [show (1 : Int32) = nI 1 from rfl, nI_add], show nI (cB μ i) + 0 = nI (cB μ i + 0) by rw [show (0 : Int32) = nI 0 from rfl, nI_add]]
          refine br_f (by omega) ⟨vp_in_nI (by omega) (by decide), br_c (fun c => ?_) (fun c => ?_)⟩
          · rw [e, if_pos c] at i2
            exact i2
          · rw [e, if_neg c] at i2
            exact i2
      exact key 8 0 (by decide)))
    have key : ∀ m i, i + m = 8 → jX6_standing 28 K 4 [some (.ref 1), some (.int (nI (cB μ i))), some (.int (nI i))] [] μ := by
      intro m
      induction m with
      | zero =>
        intro i hi
        obtain rfl : i = 8 := by omega
        exact k_X6_standing_4 (br_t (by decide) fin)
      | succ m ih =>
        intro i hi
        have i2 := ih (i + 1) (by omega)
        have e : cB μ (i + 1) = cB μ i + (if μ 280 i < 0 then 0 else 1) := rfl
        refine k_X6_standing_4 ?_
        rw [show (8 : Int32) = nI 8 from rfl, nI_leI (by omega) (by omega), show nI i + 1 = nI (i + 1) by rw [show (1 : Int32) = nI 1 from rfl, nI_add], show nI (cB μ i) + 1 = nI (cB μ i + 1) by rw [show (1 : Int32) = nI 1 from rfl, nI_add], show nI (cB μ i) + 0 = nI (cB μ i + 0) by rw [show (0 : Int32) = nI 0 from rfl, nI_add]]
        refine br_f (by omega) (s_missing hR (by omega) (fun c => br_f (by decide) ?_) (fun c => br_t rfl ?_))
        · rw [e, if_pos c] at i2
          exact i2
        · rw [e, if_neg c] at i2
          exact i2
    exact e_X6_standing (key 8 0 (by decide))
  refine br_c (fun x1 => P _ (fun G hG => br_f x0 (br_t x1 ⟨vp 2 (by decide), ?_⟩))) (fun x1 => ?_)
  · rw [show μ 283 (2 : Int32).toNatClampNeg = nI (z 2) from l2, ← r3]; exact hG
  refine br_c (fun x2 => P _ (fun G hG => br_f x0 (br_f x1 (br_t x2 ⟨vp 3 (by decide), ?_⟩)))) (fun x2 => ?_)
  · rw [show μ 283 (3 : Int32).toNatClampNeg = nI (z 3) from l3, ← r4]; exact hG
  refine br_c (fun x3 => P _ (fun G hG => br_f x0 (br_f x1 (br_f x2 (br_t x3 ⟨vp 4 (by decide), ?_⟩))))) (fun x3 => ?_)
  · rw [show μ 283 (4 : Int32).toNatClampNeg = nI (z 4) from l4, ← r2]; exact hG
  refine br_c (fun x4 => P _ (fun G hG => br_f x0 (br_f x1 (br_f x2 (br_f x3 (br_t x4 (s_living (z := z) (Or.inl rfl) lm vz' ?_))))))) (fun x4 => ?_)
  · rw [oB_lvz _ v3, ← r6]; exact hG
  refine br_c (fun x5 => P _ (fun G hG => br_f x0 (br_f x1 (br_f x2 (br_f x3 (br_f x4 (br_t x5 ⟨vp 0 (by decide), ?_⟩))))))) (fun x5 => ?_)
  · rw [show μ 283 (0 : Int32).toNatClampNeg = nI (z 0) from l0, ← r0]; exact hG
  refine br_c (fun x6 => P _ (fun G hG => br_f x0 (br_f x1 (br_f x2 (br_f x3 (br_f x4 (br_f x5 (br_t x6 ?_)))))))) (fun x6 => ?_)
  · rw [a2, ← a1]; exact hG
  refine br_c (fun x7 => P _ (fun G hG => br_f x0 (br_f x1 (br_f x2 (br_f x3 (br_f x4 (br_f x5 (br_f x6 (br_t x7 ?_))))))))) (fun x7 => P _ (fun G hG => br_f x0 (br_f x1 (br_f x2 (br_f x3 (br_f x4 (br_f x5 (br_f x6 (br_f x7 hG)))))))))
  rw [t2, ← t1]; exact hG
