/-! ===== the law's loop ===== -/
theorem Inv_0 : Inv μ0 := by
  have z0 : LR μ0 16 z00 := ⟨rfl, rfl, rfl, rfl, rfl, rfl, rfl, fun t ht => absurd ht (Nat.not_lt_zero t), fun q hq => absurd hq (Nat.not_lt_zero q)⟩
  refine ⟨fun r hr => Or.inl ?_, rfl, ⟨0, by decide, rfl, rfl, fun i hi => absurd hi (Nat.not_lt_zero i)⟩, rfl, ⟨z00, ⟨Nat.zero_le _, Nat.zero_le _, Nat.zero_le _, Nat.zero_le _, Nat.zero_le _, (by decide : (0 : Nat) < 32), Or.inl ⟨rfl, rfl, rfl⟩, fun t ht => absurd ht (Nat.not_lt_zero t), fun q hq => absurd hq (Nat.not_lt_zero q)⟩, Nat.zero_le _, z0, fun i _ => rfl⟩, ⟨0, 0, fun _ => z00, by decide, by decide, rfl, rfl, rfl, fun j hj => absurd hj (Nat.not_lt_zero j)⟩, fun k hk => Or.inl ?_, ⟨0, by decide, rfl, rfl, fun i hi => absurd hi (Nat.not_lt_zero i)⟩⟩
  · rcases (show r = 0 ∨ r = 1 ∨ r = 2 ∨ r = 3 ∨ r = 4 ∨ r = 5 ∨ r = 6 ∨ r = 7 by omega) with rfl | rfl | rfl | rfl | rfl | rfl | rfl | rfl <;> exact ⟨by decide, rfl⟩
  · rcases (show k = 0 ∨ k = 1 by omega) with rfl | rfl <;> exact ⟨rfl, rfl⟩
theorem cmp_self (a : Int64) : lg_cmp a a = 0 := by
  unfold lg_cmp
  rw [if_neg (fun h => Int64.lt_irrefl h), if_pos rfl]
theorem lx_lt {L i : Nat} (hL : L < 5000) (hi : i < 5000) : (nI L - 6 < nI i) = (L < i + 6) := by
  refine propext ?_
  by_cases c : 6 ≤ L
  · rw [show nI L - 6 = nI (L - 6) from sub_n (b := 6) c, nI_ltI (by omega) (by omega)]
    omega
  · refine ⟨fun _ => by omega, fun _ => ?_⟩
    rw [i_lt, nI_toInt (n := i) (by omega)]
    have h : (nI L - 6).toInt < 0 := by
      rcases (show L = 0 ∨ L = 1 ∨ L = 2 ∨ L = 3 ∨ L = 4 ∨ L = 5 by omega) with rfl | rfl | rfl | rfl | rfl | rfl <;> decide
    omega
set_option maxHeartbeats 4000000 in
theorem law_loop {Lx : Nat} {xs : Nat → Int32} (hL : Lx ≤ 384) : ∀ m i (μ : Mm), i ≤ 390 → Lx < i + 6 * m + 6 → Inv μ → jL Lx xs 30 (fun x _ => x = 1) 18 [some (.ref 291), some (.ref 0), some (.ref 279), some (.int (nI i))] [] μ := by
  intro m
  induction m with
  | zero =>
    intro i μ hi hm hI
    refine k_L_18 (br_t ?_ ⟨Or.inr rfl, rfl⟩)
    rw [lx_lt (by omega) (by omega)]
    omega
  | succ m ih =>
    intro i μ hi hm hI
    by_cases c : Lx < i + 6
    · refine k_L_18 (br_t ?_ ⟨Or.inr rfl, rfl⟩)
      rw [lx_lt (by omega) (by omega)]
      exact c
    have v0 : vp_in (nI i) Lx := vp_in_nI (by omega) (by omega)
    have vv : ∀ j, j < 6 → vp_in (nI i + nI j) Lx := fun j hj => by rw [nI_add]; exact vp_in_nI (by omega) (by omega)
    have v1 : vp_in (nI i + 1) Lx := vv 1 (by decide)
    have v2 : vp_in (nI i + 2) Lx := vv 2 (by decide)
    have v3 : vp_in (nI i + 3) Lx := vv 3 (by decide)
    have v4 : vp_in (nI i + 4) Lx := vv 4 (by decide)
    have v5 : vp_in (nI i + 5) Lx := vv 5 (by decide)
    have go : ∀ μ2, Inv μ2 → jL Lx xs 30 (fun x _ => x = 1) 18 [some (.ref 291), some (.ref 0), some (.ref 279), some (.int (nI i + 6))] [] μ2 := fun μ2 h2 => by
      rw [show nI i + 6 = nI (i + 6) from nI_add i 6]
      exact ih (i + 6) μ2 (by omega) (by omega) h2
    clear ih vv
    refine k_L_18 (br_f (by rw [lx_lt (by omega) (by omega)]; exact c) ⟨v0, ?_⟩)
    refine br_c (fun _ => ⟨v1, v2, v3, op_row hI (fun a μ1 nx => ⟨v1, v2, v3, nx _ (fun μ2 h2 => br_t rfl (go μ2 h2))⟩)⟩) (fun _ => ?_)
    refine br_c (fun _ => ⟨v1, v2, v3, op_set hI (fun a μ1 nx => ⟨v1, v2, v3, nx _ (fun μ2 h2 => br_t rfl (go μ2 h2))⟩)⟩) (fun _ => ?_)
    refine br_c (fun _ => ⟨v1, v2, v3, v4, v5, op_copy hI (fun a μ1 nx => ⟨v1, v2, v3, v4, v5, nx _ (fun μ2 h2 => br_t rfl (go μ2 h2))⟩)⟩) (fun _ => ?_)
    refine br_c (fun _ => ⟨v1, op_drop hI (fun a μ1 nx => ⟨v1, nx _ (fun μ2 h2 => br_t rfl (go μ2 h2))⟩)⟩) (fun _ => ?_)
    refine br_c (fun _ => ⟨v1, op_feed hI (fun a μ1 nx => ⟨v1, nx _ (fun μ2 h2 => br_t rfl (go μ2 h2))⟩)⟩) (fun _ => ?_)
    refine br_c (fun _ => op_land hI (fun a μ1 nx => nx _ (fun μ2 h2 => br_t rfl (go μ2 h2)))) (fun _ => ?_)
    refine br_c (fun _ => op_fault hI (fun a μ1 nx => nx _ (fun μ2 h2 => br_t rfl (go μ2 h2)))) (fun _ => ?_)
    refine br_c (fun _ => op_undo hI (fun a μ1 nx => nx _ (fun μ2 h2 => br_t rfl (go μ2 h2)))) (fun _ => ?_)
    refine br_c (fun _ => ⟨v1, op_days hI (fun a μ1 nx => ⟨v1, nx _ (fun μ2 h2 => br_t rfl (go μ2 h2))⟩)⟩) (fun _ => ?_)
    refine br_c (fun _ => ⟨v1, v2, op_carry hI (fun a μ1 nx => ⟨v1, v2, nx _ (fun μ2 h2 => br_t rfl (go μ2 h2))⟩)⟩) (fun _ => ?_)
    refine br_c (fun _ => ⟨v1, v2, op_nail hI (fun a μ1 nx => ⟨v1, v2, nx _ (fun μ2 h2 => br_t rfl (go μ2 h2))⟩)⟩) (fun _ => ?_)
    refine br_c (fun _ => ⟨v1, v2, op_keepIn hI (fun a μ1 nx => ⟨v1, v2, nx _ (fun μ2 h2 => br_t rfl (go μ2 h2))⟩)⟩) (fun _ => ?_)
    refine br_c (fun _ => ⟨v1, v2, op_call hI (fun a μ1 nx => ⟨v1, v2, nx _ (fun μ2 h2 => br_t rfl (go μ2 h2))⟩)⟩) (fun _ => ?_)
    refine br_c (fun _ => ⟨v1, v2, op_move hI (fun a μ1 nx => ⟨v1, v2, nx _ (fun μ2 h2 => br_t rfl (go μ2 h2))⟩)⟩) (fun _ => ?_)
    refine br_c (fun _ => ⟨v1, v2, op_person hI (fun a μ1 nx => ⟨v1, v2, nx _ (fun μ2 h2 => br_t rfl (go μ2 h2))⟩)⟩) (fun _ => ?_)
    refine br_c (fun _ => ⟨v1, v2, op_thing hI (fun a μ1 nx => ⟨v1, v2, nx _ (fun μ2 h2 => br_t rfl (go μ2 h2))⟩)⟩) (fun _ => ?_)
    refine br_c (fun _ => ⟨v1, v2, op_ahead hI (fun a μ1 nx => ⟨v1, v2, nx _ (fun μ2 h2 => br_t rfl (go μ2 h2))⟩)⟩) (fun _ => ?_)
    refine br_c (fun _ => ⟨v1, op_liveAhead hI (fun a μ1 nx => ⟨v1, nx _ (fun μ2 h2 => br_t rfl (go μ2 h2))⟩)⟩) (fun _ => ?_)
    refine br_c (fun _ => ⟨v1, op_dies hI (fun a μ1 nx => ⟨v1, nx _ (fun μ2 h2 => br_t rfl (go μ2 h2))⟩)⟩) (fun _ => ?_)
    refine br_c (fun _ => ⟨v1, v2, v3, v4, op_keepDays hI (fun a μ1 nx => ⟨v1, v2, v3, v4, nx _ (fun μ2 h2 => br_t rfl (go μ2 h2))⟩)⟩) (fun _ => ?_)
    refine br_c (fun _ => ⟨v1, v2, v3, op_nails hI (fun a μ1 nx => ⟨v1, v2, v3, nx _ (fun μ2 h2 => br_t rfl (go μ2 h2))⟩)⟩) (fun _ => ?_)
    refine br_c (fun _ => ⟨v1, v2, op_names hI (fun a μ1 nx => ⟨v1, v2, nx _ (fun μ2 h2 => br_t rfl (go μ2 h2))⟩)⟩) (fun _ => ?_)
    refine br_c (fun _ => ⟨v1, op_safest hI (fun a μ1 nx => ⟨v1, nx _ (fun μ2 h2 => br_t rfl (go μ2 h2))⟩)⟩) (fun _ => ?_)
    refine br_c (fun _ => ⟨v1, v2, op_meet hI (fun a μ1 nx => ⟨v1, v2, nx _ (fun μ2 h2 => br_t rfl (go μ2 h2))⟩)⟩) (fun _ => ?_)
    refine br_c (fun _ => ⟨v1, op_fatal hI (fun a μ1 nx => ⟨v1, nx _ (fun μ2 h2 => br_t rfl (go μ2 h2))⟩)⟩) (fun _ => ?_)
    refine br_c (fun _ => ⟨v1, v2, v3, v4, op_called hI (fun a μ1 nx => ⟨v1, v2, v3, v4, nx _ (fun μ2 h2 => br_t rfl (go μ2 h2))⟩)⟩) (fun _ => ?_)
    refine br_c (fun _ => ⟨v1, v2, v3, v4, op_who hI (fun a μ1 nx => ⟨v1, v2, v3, v4, nx _ (fun μ2 h2 => br_t rfl (go μ2 h2))⟩)⟩) (fun _ => ?_)
    refine br_c (fun _ => ⟨v1, v2, v3, v4, op_steps hI (fun a μ1 nx => ⟨v1, v2, v3, v4, nx _ (fun μ2 h2 => br_t rfl (go μ2 h2))⟩)⟩) (fun _ => ?_)
    refine br_c (fun _ => ⟨v1, op_namesakes hI (fun a μ1 nx => ⟨v1, nx _ (fun μ2 h2 => br_t rfl (go μ2 h2))⟩)⟩) (fun _ => ?_)
    refine br_c (fun _ => ⟨v1, v2, v3, op_still hI (fun a μ1 nx => ⟨v1, v2, v3, nx _ (fun μ2 h2 => br_t (cmp_self a) (go μ2 h2))⟩)⟩) (fun _ => ?_)
    refine br_c (fun _ => op_life hI (fun a μ1 nx => nx _ (fun μ2 h2 => br_t rfl (go μ2 h2)))) (fun _ => ?_)
    refine br_c (fun _ => ⟨v1, v2, v3, op_drawn hI (fun a μ1 nx => ⟨v1, v2, v3, nx _ (fun μ2 h2 => br_t rfl (go μ2 h2))⟩)⟩) (fun _ => ?_)
    refine br_c (fun _ => ⟨v1, op_image hI (fun a μ1 nx => ⟨v1, nx _ (fun μ2 h2 => br_t rfl (go μ2 h2))⟩)⟩) (fun _ => ?_)
    refine br_c (fun _ => ⟨v1, op_restore hI (fun a μ1 nx => ⟨v1, nx _ (fun μ2 h2 => br_t rfl (go μ2 h2))⟩)⟩) (fun _ => ?_)
    refine br_c (fun _ => ⟨v1, op_kind hI (fun a μ1 nx => ⟨v1, nx _ (fun μ2 h2 => br_t rfl (go μ2 h2))⟩)⟩) (fun _ => ?_)
    refine br_c (fun _ => ⟨v1, v2, op_as hI (fun a μ1 nx => ⟨v1, v2, nx _ (fun μ2 h2 => br_t rfl (go μ2 h2))⟩)⟩) (fun _ => ?_)
    refine br_c (fun _ => ⟨v1, v2, op_ask hI (fun a μ1 nx => ⟨v1, v2, nx _ (fun μ2 h2 => br_t rfl (go μ2 h2))⟩)⟩) (fun _ => ?_)
    refine br_c (fun _ => ⟨v1, op_trace hI (fun a μ1 nx => ⟨v1, nx _ (fun μ2 h2 => br_t rfl (go μ2 h2))⟩)⟩) (fun _ => ?_)
    refine br_c (fun _ => ⟨v1, op_count hI (fun a μ1 nx => ⟨v1, nx _ (fun μ2 h2 => br_t rfl (go μ2 h2))⟩)⟩) (fun _ => ?_)
    refine br_c (fun _ => op_status hI (fun a μ1 nx => nx _ (fun μ2 h2 => br_t rfl (go μ2 h2)))) (fun _ => ?_)
    exact go μ hI
theorem law_math : LawMath := fun Lx xs hL => law_loop hL 64 0 μ0 (by decide) (by omega) Inv_0
