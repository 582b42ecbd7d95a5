/-! ===== land: the reference's TOKENS ===== -/
def mk (t : Nat) : Int32 := if t = 0 then 1 else if t = 1 then 3 else if t = 2 then 0 else if t = 44 ∨ t = 59 then 4 else 2
/-- the reference's TOKEN begins at p, and no FAULT is there -/
def MS (b : Nat → Nat) (N : Nat) (ν : Mm) (p : Nat) : Prop := ν 279 11 = nI N ∧ (∀ i, i < N → ν 287 i = nI (b i)) ∧ p ≤ N ∧ ν 279 16 = 0 ∧ ν 279 13 = nI p ∧ ν 279 14 = mk (tk b N p) ∧ (¬ tk b N p = 2 → ν 279 12 = nI (nt b N p)) ∧ (tk b N p = 1 → ν 279 15 = nI (vl b N p)) ∧ (3 ≤ tk b N p → ν 279 15 = nI (tk b N p))
theorem inB {x a b : Nat} (hx : x < 5000) (hb : b < 5000) : inR (nI x) a b ↔ (a ≤ x ∧ x ≤ b) := by
  constructor
  · rintro ⟨n, h1, h2, h3⟩
    have := (nI_eq (by omega) (by omega)).mp h3
    omega
  · rintro ⟨h1, h2⟩
    exact ⟨x, h1, h2, rfl⟩
theorem s_run {d : Nat} {ν : Mm} {K : Mm → Prop} {b : Nat → Nat} {N p : Nat} (hN : N ≤ 100) (hb : ∀ i, i < N → b i < 256) (h7 : ∀ i, i < N → ν 287 i = nI (b i)) (k : ∀ x, MS b N (upc ν 279 x) p → (∀ j, j < 12 ∨ 15 < j → x j = ν 279 j) → K (upc ν 279 x)) (h16 : ν 279 16 = 0) (h11 : ν 279 11 = nI N) (hd0 : dg b N p) :
    ∀ r c (y : Nat → Int32), c + r = N → p + 1 ≤ c → (∀ i, p ≤ i → i < c → dg b N i) → y 12 = nI c → y 13 = nI p → y 15 = nI (if c = p + 1 then b p - 48 else 10 * (b p - 48) + (b (p + 1) - 48)) → (∀ j, j < 12 ∨ 15 < j → y j = ν 279 j) → jX8_nextToken (d + 1) K 165 [some (.ref 279)] [] (upc ν 279 y) := by
  have hc0 : ¬ (b p = 44 ∨ b p = 59 ∨ (97 ≤ b p ∧ b p ≤ 122)) := by
    have := hd0.2
    omega
  have hp := hd0.1
  -- the run ends here
  have fin : ∀ c (y : Nat → Int32), c ≤ N → p + 1 ≤ c → (∀ i, p ≤ i → i < c → dg b N i) → ¬ dg b N c → y 12 = nI c → y 13 = nI p → y 15 = nI (if c = p + 1 then b p - 48 else 10 * (b p - 48) + (b (p + 1) - 48)) → (∀ j, j < 12 ∨ 15 < j → y j = ν 279 j) → ((((upc ν 279 y) 279 12 - (upc ν 279 y) 279 13) ≤ 2 → K (up (upc ν 279 y) 279 14 3)) ∧ (¬ ((upc ν 279 y) 279 12 - (upc ν 279 y) 279 13) ≤ 2 → K (up (upc ν 279 y) 279 14 0))) := by
    intro c y hc1 hc2 hall hend y12 y13 y15 yj
    have e11 : y 11 = nI N := by rw [yj 11 (by decide)]; exact h11
    have e16 : y 16 = 0 := by rw [yj 16 (by decide)]; exact h16
    rw [show (upc ν 279 y) 279 12 = nI c from y12, show (upc ν 279 y) 279 13 = nI p from y13, sub_n (by omega), show (nI (c - p) ≤ 2) = (c - p ≤ 2) from propext (nI_leI (b := 2) (by omega) (by decide)), up_upc, up_upc]
    refine br_c (fun q => ?_) (fun q => ?_)
    · have h1 : ¬ (dg b N (p + 1) ∧ dg b N (p + 2)) := by
        rintro ⟨g1, g2⟩
        rcases (show c = p + 1 ∨ c = p + 2 by omega) with e | e
        · rw [e] at hend
          exact hend g1
        · rw [e] at hend
          exact hend g2
      have tk' : tk b N p = 1 := by
        unfold tk
        rw [if_neg (by omega), if_neg hc0, if_pos hd0, if_neg h1]
      have en : nt b N p = c := by
        unfold nt
        rw [if_neg (by omega)]
        by_cases e : c = p + 1
        · rw [if_neg (fun h => hend (by rw [e]; exact h.2)), e]
        · rw [if_pos ⟨hd0, hall (p + 1) (by omega) (by omega)⟩]
          omega
      have ev : vl b N p = if c = p + 1 then b p - 48 else 10 * (b p - 48) + (b (p + 1) - 48) := by
        unfold vl
        by_cases e : c = p + 1
        · rw [if_neg (fun h => hend (by rw [e]; exact h)), if_pos e]
        · rw [if_pos (hall (p + 1) (by omega) (by omega)), if_neg e]
      refine k _ ⟨e11, h7, by omega, e16, y13, ?_, fun _ => ?_, fun _ => ?_, fun h => by omega⟩ (fun j hj => ?_)
      · rw [tk']
        rfl
      · rw [en]
        exact y12
      · rw [ev]
        exact y15
      · rw [upd_n _ _ (by omega)]
        exact yj j hj
    · have tk' : tk b N p = 2 := by
        unfold tk
        rw [if_neg (by omega), if_neg hc0, if_pos hd0, if_pos ⟨hall (p + 1) (by omega) (by omega), hall (p + 2) (by omega) (by omega)⟩]
      refine k _ ⟨e11, h7, by omega, e16, y13, ?_, fun h => absurd tk' h, fun h => by omega, fun h => by omega⟩ (fun j hj => ?_)
      · rw [tk']
        rfl
      · rw [upd_n _ _ (by omega)]
        exact yj j hj
  intro r
  induction r with
  | zero =>
    intro c y hr hc hall y12 y13 y15 yj
    obtain rfl : c = N := by omega
    have e11 : (upc ν 279 y) 279 11 = nI c := by
      show y 11 = _
      rw [yj 11 (by decide)]
      exact h11
    have hle : (upc ν 279 y) 279 11 ≤ (upc ν 279 y) 279 12 := by
      rw [e11, show (upc ν 279 y) 279 12 = nI c from y12]
      exact nI_le (Nat.le_refl _) (by omega)
    exact k_X8_nextToken_165 (br_t hle (fin c y (Nat.le_refl _) hc hall (fun h => by have := h.1; omega) y12 y13 y15 yj))
  | succ r ih =>
    intro c y hr hc hall y12 y13 y15 yj
    have e11 : (upc ν 279 y) 279 11 = nI N := by
      show y 11 = _
      rw [yj 11 (by decide)]
      exact h11
    have e12 : (upc ν 279 y) 279 12 = nI c := y12
    have e13 : (upc ν 279 y) 279 13 = nI p := y13
    have hbc := hb c (by omega)
    have hb0 := hd0.2.2
    have hb1 := hd0.2.1
    have go : ∀ v : Nat, dg b N c → v = (if c + 1 = p + 1 then b p - 48 else 10 * (b p - 48) + (b (p + 1) - 48)) → jX8_nextToken (d + 1) K 165 [some (.ref 279)] [] (upc ν 279 (upd (upd y 15 (nI v)) 12 (nI (c + 1)))) := by
      intro v hd hv
      refine ih (c + 1) _ (by omega) (by omega) (fun i h1 h2 => ?_) rfl y13 ?_ (fun j hj => ?_)
      · by_cases e : i = c
        · rw [e]
          exact hd
        · exact hall i h1 (by omega)
      · show nI v = _
        rw [hv]
      · rw [upd_n _ _ (by omega), upd_n _ _ (by omega)]
        exact yj j hj
    have hgt : ¬ (upc ν 279 y) 279 11 ≤ (upc ν 279 y) 279 12 := by
      rw [e11, e12, nI_leI (by omega) (by omega)]
      omega
    have f := fin c y (by omega) hc hall
    refine k_X8_nextToken_165 (br_f hgt ⟨by rw [e12]; exact vp_in_nI (by omega) (by decide), ?_⟩)
    rw [show (upc ν 279 y) 287 (((upc ν 279 y) 279 12)).toNatClampNeg = nI (b c) by rw [e12, nI_clamp (by omega)]; exact h7 c (by omega)]
    refine s_in (a := 48) (b := 57) (by decide) (by decide) rfl rfl (fun h => br_f (by decide) ?_) (fun h => br_t rfl (f (fun g => h ((inB (by omega) (by decide)).mpr g.2)) y12 y13 y15 yj))
    have hg := (inB (by omega) (by decide)).mp h
    have hdc : dg b N c := ⟨by omega, hg.1, hg.2⟩
    rw [e12, e13, sub_n (by omega), show (2 ≤ nI (c - p)) = (2 ≤ c - p) from propext (nI_leI (a := 2) (by decide) (by omega)), n_suc, nI_clamp (by omega)]
    refine br_c (fun q => ?_) (fun q => ⟨vp_in_nI (by omega) (by decide), ?_⟩)
    · rw [show (upc ν 279 y) 279 15 = nI (10 * (b p - 48) + (b (p + 1) - 48)) by show y 15 = _; rw [y15, if_neg (by omega)], up_upc, up_upc]
      exact go _ hdc (by rw [if_neg (by omega)])
    · obtain rfl : c = p + 1 := by omega
      rw [show (upc ν 279 y) 279 15 = nI (b p - 48) by show y 15 = _; rw [y15, if_pos rfl], show (upc ν 279 y) 287 (p + 1) = nI (b (p + 1)) from h7 _ (by omega), show (10 : Int32) * nI (b p - 48) = nI (10 * (b p - 48)) from pk_mul 10 _, nI_add, show nI (10 * (b p - 48) + b (p + 1)) - 48 = nI (10 * (b p - 48) + b (p + 1) - 48) from sub_n (b := 48) (by omega), up_upc, up_upc]
      exact go _ hdc (by rw [if_neg (by omega)]; omega)
theorem s_next {d : Nat} {ν : Mm} {K : Mm → Prop} {b : Nat → Nat} {N p : Nat} (hN : N ≤ 100) (hb : ∀ i, i < N → b i < 256) (h11 : ν 279 11 = nI N) (h7 : ∀ i, i < N → ν 287 i = nI (b i)) (h12 : ν 279 12 = nI p) (h16 : ν 279 16 = 0) (hp : p ≤ N) (k : ∀ x, MS b N (upc ν 279 x) p → (∀ j, j < 12 ∨ 15 < j → x j = ν 279 j) → K (upc ν 279 x)) : cV (cM (d + 2)) 114 [.ref 279] ν K := by
  -- a TOKEN of one byte, or none
  have one : ∀ (y : Nat → Int32) (s : Int32), p < N → ¬ dg b N p → ¬ s = 3 → s = mk (tk b N p) → y 12 = nI p → y 13 = nI p → y 15 = nI (b p) → (∀ j, j < 12 ∨ 15 < j → y j = ν 279 j) → (3 ≤ tk b N p → tk b N p = b p) → ¬ tk b N p = 1 → jX8_nextToken (d + 1) K 118 [some (.ref 279)] [.int s, .ref 279] (upc ν 279 y) := by
    intro y s hpN hd hs hmk y12 y13 y15 yj h3 h1
    have e11 : y 11 = nI N := by rw [yj 11 (by decide)]; exact h11
    have e16 : y 16 = 0 := by rw [yj 16 (by decide)]; exact h16
    have hgt : ¬ (upc ν 279 y) 279 11 ≤ (upc ν 279 y) 279 12 := by
      rw [show (upc ν 279 y) 279 11 = nI N from e11, show (upc ν 279 y) 279 12 = nI p from y12, nI_leI (by omega) (by omega)]
      omega
    have en : nt b N p = p + 1 := by
      unfold nt
      rw [if_neg (by omega), if_neg (fun h => hd h.1)]
    refine k_X8_nextToken_118 (br_f hgt (nr_f hs ?_))
    rw [show (upc ν 279 y) 279 12 = nI p from y12, n_suc, up_upc, up_upc]
    refine k _ ⟨e11, h7, hp, e16, y13, hmk, fun _ => ?_, fun h => absurd h h1, fun h => ?_⟩ (fun j hj => ?_)
    · rw [en]
      rfl
    · rw [h3 h]
      exact y15
    · rw [upd_n _ _ (by omega), upd_n _ _ (by omega)]
      exact yj j hj
  refine e_X8_nextToken ?_
  rw [h11, h12, nI_leI (by omega) (by omega), show (nI p = nI N) = (p = N) from propext (nI_eq (by omega) (by omega)), nI_clamp (by omega), show up ν 279 13 (nI p) = upc ν 279 (upd (ν 279) 13 (nI p)) from rfl, up_upc]
  refine br_c (fun q => ?_) (fun q => ⟨vp_in_nI (by omega) (by decide), ?_⟩)
  · obtain rfl : p = N := by omega
    refine nr_t rfl ?_
    have tk' : tk b p p = 0 := by
      unfold tk
      rw [if_pos (Nat.le_refl _)]
    have en : nt b p p = p := by
      unfold nt
      rw [if_pos (Nat.le_refl _)]
    have hle : (upc ν 279 (upd (upd (ν 279) 13 (nI p)) 15 (-1000000))) 279 11 ≤ (upc ν 279 (upd (upd (ν 279) 13 (nI p)) 15 (-1000000))) 279 12 := by
      rw [show (upc ν 279 (upd (upd (ν 279) 13 (nI p)) 15 (-1000000))) 279 11 = nI p from h11, show (upc ν 279 (upd (upd (ν 279) 13 (nI p)) 15 (-1000000))) 279 12 = nI p from h12]
      exact nI_le (Nat.le_refl _) (by omega)
    refine k_X8_nextToken_118 (br_t hle (nr_f (by decide) ?_))
    rw [show (upc ν 279 (upd (upd (ν 279) 13 (nI p)) 15 (-1000000))) 279 12 = nI p from h12, show nI p + 0 = nI p from Int32.add_zero _, up_upc, up_upc]
    refine k _ ⟨h11, h7, hp, h16, rfl, ?_, fun _ => ?_, fun h => by omega, fun h => by omega⟩ (fun j hj => ?_)
    · rw [tk']
      rfl
    · rw [en]
      rfl
    · rw [upd_n _ _ (by omega), upd_n _ _ (by omega), upd_n _ _ (by omega), upd_n _ _ (by omega)]
  · have hbp := hb p (by omega)
    rw [h7 p (by omega), up_upc]
    generalize hy : upd (upd (ν 279) 13 (nI p)) 15 (nI (b p)) = y
    have y12 : y 12 = nI p := by rw [← hy]; exact h12
    have y13 : y 13 = nI p := by rw [← hy]; rfl
    have y15 : y 15 = nI (b p) := by rw [← hy]; rfl
    have yj : ∀ j, j < 12 ∨ 15 < j → y j = ν 279 j := fun j hj => by rw [← hy, upd_n _ _ (by omega), upd_n _ _ (by omega)]
    have c15 : (upc ν 279 y) 279 15 = nI (b p) := y15
    refine nr_f (by omega) (s_in (a := 97) (b := 122) (by decide) (by decide) rfl rfl (fun h => br_f (by decide) ?_) (fun h => br_t rfl ?_))
    · have hg := (inB (by omega) (by decide)).mp h
      have tk' : tk b N p = b p := by
        unfold tk
        rw [if_neg (by omega), if_pos (Or.inr (Or.inr hg))]
      refine one y 2 (by omega) (fun hd => by have := hd.2; omega) (by decide) ?_ y12 y13 y15 yj (fun _ => tk') (by omega)
      unfold mk
      rw [tk', if_neg (by omega), if_neg (by omega), if_neg (by omega), if_neg (by omega)]
    · have hnl : ¬ (97 ≤ b p ∧ b p ≤ 122) := fun g => h ((inB (by omega) (by decide)).mpr g)
      rw [c15]
      refine s_in (a := 48) (b := 57) (by decide) (by decide) rfl rfl (fun h2 => br_f (by decide) ?_) (fun h2 => br_t rfl ?_)
      · have hg := (inB (by omega) (by decide)).mp h2
        have hd : dg b N p := ⟨by omega, hg⟩
        have e11 : (upc ν 279 y) 279 11 = nI N := by
          show y 11 = _
          rw [yj 11 (by decide)]
          exact h11
        have hgt : ¬ (upc ν 279 y) 279 11 ≤ (upc ν 279 y) 279 12 := by
          rw [e11, show (upc ν 279 y) 279 12 = nI p from y12, nI_leI (by omega) (by omega)]
          omega
        refine k_X8_nextToken_118 (br_f hgt (nr_t rfl ?_))
        rw [show (upc ν 279 y) 279 12 = nI p from y12, c15, n_suc, show nI (b p) - 48 = nI (b p - 48) from sub_n (b := 48) (by omega), up_upc, up_upc, up_upc]
        refine s_run hN hb h7 k h16 h11 hd (N - (p + 1)) (p + 1) _ (by omega) (Nat.le_refl _) (fun i h1 h2 => ?_) rfl y13 ?_ (fun j hj => ?_)
        · obtain rfl : i = p := by omega
          exact hd
        · rw [if_pos rfl]
          rfl
        · rw [upd_n _ _ (by omega), upd_n _ _ (by omega), upd_n _ _ (by omega)]
          exact yj j hj
      · have hnd : ¬ dg b N p := fun g => h2 ((inB (by omega) (by decide)).mpr g.2)
        have q1 : ((upc ν 279 y) 279 15 = 44) = (b p = 44) := by rw [c15]; exact propext (nI_eq (b := 44) (by omega) (by decide))
        have q2 : ((upc ν 279 y) 279 15 = 59) = (b p = 59) := by rw [c15]; exact propext (nI_eq (b := 59) (by omega) (by decide))
        rw [q1, q2]
        have sign : (b p = 44 ∨ b p = 59) → jX8_nextToken (d + 1) K 118 [some (.ref 279)] [.int 4, .ref 279] (upc ν 279 y) := by
          intro hs
          have tk' : tk b N p = b p := by
            unfold tk
            rw [if_neg (by omega), if_pos (by omega)]
          refine one y 4 (by omega) hnd (by decide) ?_ y12 y13 y15 yj (fun _ => tk') (by omega)
          unfold mk
          rw [tk', if_neg (by omega), if_neg (by omega), if_neg (by omega), if_pos hs]
        refine br_c (fun g1 => sign (Or.inl g1)) (fun g1 => nr_c (fun g2 => ?_) (fun g2 => sign (Or.inr g2)))
        have tk' : tk b N p = 2 := by
          unfold tk
          rw [if_neg (by omega), if_neg (by omega), if_neg hnd]
        refine one y 0 (by omega) hnd (by decide) ?_ y12 y13 y15 yj (fun h => by omega) (by omega)
        rw [tk']
        rfl
