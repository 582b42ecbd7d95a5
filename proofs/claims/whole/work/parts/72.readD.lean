/-! ===== land: the reference reads, piece by piece ===== -/
def MF (ν : Mm) (k p : Nat) : Prop := (1 ≤ k ∧ k ≤ 3) ∧ ν 279 16 = nI k ∧ ν 279 17 = nI p
def F9 (μ ν : Mm) : Prop := (∀ a, a ≠ 279 → ν a = μ a) ∧ (∀ j, j < 12 ∨ 17 < j → ν 279 j = μ 279 j)
theorem F9.tr {μ ν ρ : Mm} (h : F9 μ ν) (h2 : F9 ν ρ) : F9 μ ρ := ⟨fun a ha => by rw [h2.1 a ha, h.1 a ha], fun j hj => by rw [h2.2 j hj, h.2 j hj]⟩
theorem F9.rf (μ : Mm) : F9 μ μ := ⟨fun _ _ => rfl, fun _ _ => rfl⟩
theorem MF.ne {ν : Mm} {k p : Nat} (h : MF ν k p) : ¬ ν 279 16 = 0 := by
  rw [h.2.1]
  intro c
  have h1 := h.1
  have : k = 0 := (nI_eq (b := 0) (by omega) (by decide)).mp c
  omega
/-- a FAULT is there: nothing more happens -/
theorem x_bad {d : Nat} {ν : Mm} {K : Mm → Prop} {k p : Nat} {l : Int32} (h : MF ν k p) (kk : K ν) : cV (cM (d + 1)) 113 [.ref 279, .int l] ν K := e_X8_bad (nr_f h.ne kk)
theorem x_must {d : Nat} {ν : Mm} {K : Mm → Prop} {k p : Nat} {l : Int32} (h : MF ν k p) (kk : K ν) : cV (cM (d + 2)) 115 [.ref 279, .int l] ν K := e_X8_must (nr_c (fun _ => nr_f h.ne kk) (fun _ => x_bad h (nr_f h.ne kk)))
theorem x_letter {d : Nat} {ν : Mm} {K : Int32 → Mm → Prop} {k p : Nat} {l : Int32} (h : MF ν k p) (kk : K 0 ν) : cI (cM (d + 1)) 116 [.ref 279, .int l] ν K := e_X8_isLetter (nr_f h.ne ⟨Or.inl rfl, kk⟩)
theorem x_num {d : Nat} {ν : Mm} {K : Int32 → Mm → Prop} {k p : Nat} {l m : Int32} (h : MF ν k p) (kk : K l ν) : cI (cM (d + 3)) 117 [.ref 279, .int l, .int m] ν K := e_X8_number (nr_f h.ne (nr_f h.ne (k_X8_number_47 (nr_f h.ne (x_must h kk)))))
theorem x_sign {d : Nat} {ν : Mm} {K : Mm → Prop} {k p : Nat} {l : Int32} (h : MF ν k p) (kk : K ν) : cV (cM (d + 3)) 118 [.ref 279, .int l] ν K := e_X8_mustSign (nr_c (fun _ => x_must h kk) (fun _ => nr_c (fun _ => x_must h kk) (fun _ => x_must h kk)))
theorem x_sort {d : Nat} {ν : Mm} {K : Int32 → Mm → Prop} {k p : Nat} (h : MF ν k p) (kk : K 0 ν) : cI (cM (d + 1)) 123 [.ref 279] ν K := e_X8_isSort (nr_f h.ne ⟨Or.inl rfl, kk⟩)
/-- no FAULT yet -/
theorem MS.fr {b : Nat → Nat} {N p : Nat} {ν ν' : Mm} (h : MS b N ν p) (a9 : ν' 279 = ν 279) (a7 : ν' 287 = ν 287) : MS b N ν' p := by
  unfold MS at h ⊢
  rw [a9, a7]
  exact h
theorem m_bad {d : Nat} {ν : Mm} {K : Mm → Prop} {b : Nat → Nat} {N p k : Nat} (h : MS b N ν p) (hk : 1 ≤ k ∧ k ≤ 3) (kk : ∀ ν', MF ν' k p → F9 ν ν' → K ν') : cV (cM (d + 1)) 113 [.ref 279, .int (nI k)] ν K := by
  refine e_X8_bad (nr_t h.2.2.2.1 (kk _ ⟨hk, ?_, ?_⟩ ⟨fun a ha => ?_, fun j hj => ?_⟩))
  · rw [up_eq, upc_s, upd_n _ _ (by decide), up_eq, upc_s, upd_s]
  · rw [up_eq, upc_s, upd_s]
    exact h.2.2.2.2.1
  · rw [up_eq, upc_n _ _ ha, up_eq, upc_n _ _ ha]
  · rw [up_eq, upc_s, upd_n _ _ (by omega), up_eq, upc_s, upd_n _ _ (by omega)]
theorem m_next {d : Nat} {ν : Mm} {K : Mm → Prop} {b : Nat → Nat} {N p : Nat} (hN : N ≤ 100) (hb : ∀ i, i < N → b i < 256) (h : MS b N ν p) (h2 : ¬ tk b N p = 2) (kk : ∀ ν', MS b N ν' (nt b N p) → F9 ν ν' → K ν') : cV (cM (d + 2)) 114 [.ref 279] ν K := by
  obtain ⟨m1, m2, m3, m4, m5, m6, m7, m8, m9⟩ := h
  refine s_next (p := nt b N p) hN hb m1 m2 (m7 h2) m4 (nt_le m3) (fun x hx xj => kk _ hx ⟨fun a ha => upc_n _ _ ha, fun j hj => ?_⟩)
  rw [upc_s]
  exact xj j (by omega)
theorem m_must {d : Nat} {ν : Mm} {K : Mm → Prop} {b : Nat → Nat} {N p : Nat} {l : Int32} (hN : N ≤ 100) (hb : ∀ i, i < N → b i < 256) (h : MS b N ν p) (hl : ¬ l = 0) (h2 : ¬ tk b N p = 2) (kk : ∀ ν', MS b N ν' (nt b N p) → F9 ν ν' → K ν') : cV (cM (d + 3)) 115 [.ref 279, .int l] ν K := e_X8_must (nr_f hl (nr_t h.2.2.2.1 (m_next hN hb h h2 kk)))
theorem m_must0 {d : Nat} {ν : Mm} {K : Mm → Prop} {b : Nat → Nat} {N p : Nat} (h : MS b N ν p) (kk : ∀ ν', MF ν' 1 p → F9 ν ν' → K ν') : cV (cM (d + 2)) 115 [.ref 279, .int 0] ν K := e_X8_must (nr_t rfl (m_bad (k := 1) h (by decide) (fun ν' a1 a2 => nr_f a1.ne (kk ν' a1 a2))))
theorem mk_2 {t : Nat} (h : t < 256) : (mk t = 2) ↔ (3 ≤ t ∧ ¬ t = 44 ∧ ¬ t = 59) := by
  unfold mk
  by_cases h0 : t = 0
  · rw [if_pos h0]
    exact ⟨fun c => absurd c (by decide), fun c => by omega⟩
  by_cases h1 : t = 1
  · rw [if_neg h0, if_pos h1]
    exact ⟨fun c => absurd c (by decide), fun c => by omega⟩
  by_cases h2 : t = 2
  · rw [if_neg h0, if_neg h1, if_pos h2]
    exact ⟨fun c => absurd c (by decide), fun c => by omega⟩
  by_cases h3 : t = 44 ∨ t = 59
  · rw [if_neg h0, if_neg h1, if_neg h2, if_pos h3]
    exact ⟨fun c => absurd c (by decide), fun c => by omega⟩
  · rw [if_neg h0, if_neg h1, if_neg h2, if_neg h3]
    exact ⟨fun _ => by omega, fun _ => rfl⟩
theorem mk_4 {t : Nat} (h : t < 256) : (mk t = 4) ↔ (t = 44 ∨ t = 59) := by
  unfold mk
  by_cases h0 : t = 0
  · rw [if_pos h0]
    exact ⟨fun c => absurd c (by decide), fun c => by omega⟩
  by_cases h1 : t = 1
  · rw [if_neg h0, if_pos h1]
    exact ⟨fun c => absurd c (by decide), fun c => by omega⟩
  by_cases h2 : t = 2
  · rw [if_neg h0, if_neg h1, if_pos h2]
    exact ⟨fun c => absurd c (by decide), fun c => by omega⟩
  by_cases h3 : t = 44 ∨ t = 59
  · rw [if_neg h0, if_neg h1, if_neg h2, if_pos h3]
    exact ⟨fun _ => h3, fun _ => rfl⟩
  · rw [if_neg h0, if_neg h1, if_neg h2, if_neg h3]
    exact ⟨fun c => absurd c (by decide), fun c => absurd c h3⟩
theorem mk_3 {t : Nat} (h : t < 256) : (mk t = 3) ↔ (t = 1) := by
  unfold mk
  by_cases h0 : t = 0
  · rw [if_pos h0]
    exact ⟨fun c => absurd c (by decide), fun c => by omega⟩
  by_cases h1 : t = 1
  · rw [if_neg h0, if_pos h1]
    exact ⟨fun _ => h1, fun _ => rfl⟩
  by_cases h2 : t = 2
  · rw [if_neg h0, if_neg h1, if_pos h2]
    exact ⟨fun c => absurd c (by decide), fun c => by omega⟩
  by_cases h3 : t = 44 ∨ t = 59
  · rw [if_neg h0, if_neg h1, if_neg h2, if_pos h3]
    exact ⟨fun c => absurd c (by decide), fun c => by omega⟩
  · rw [if_neg h0, if_neg h1, if_neg h2, if_neg h3]
    exact ⟨fun c => absurd c (by decide), fun c => absurd c h1⟩
theorem mk_1 {t : Nat} (h : t < 256) : (mk t = 1) ↔ (t = 0) := by
  unfold mk
  by_cases h0 : t = 0
  · rw [if_pos h0]
    exact ⟨fun _ => h0, fun _ => rfl⟩
  by_cases h1 : t = 1
  · rw [if_neg h0, if_pos h1]
    exact ⟨fun c => absurd c (by decide), fun c => by omega⟩
  by_cases h2 : t = 2
  · rw [if_neg h0, if_neg h1, if_pos h2]
    exact ⟨fun c => absurd c (by decide), fun c => by omega⟩
  by_cases h3 : t = 44 ∨ t = 59
  · rw [if_neg h0, if_neg h1, if_neg h2, if_pos h3]
    exact ⟨fun c => absurd c (by decide), fun c => by omega⟩
  · rw [if_neg h0, if_neg h1, if_neg h2, if_neg h3]
    exact ⟨fun c => absurd c (by decide), fun c => absurd c h0⟩
theorem m_letter {d : Nat} {ν : Mm} {K : Int32 → Mm → Prop} {b : Nat → Nat} {N p c : Nat} (hb : ∀ i, i < N → b i < 256) (h : MS b N ν p) (hc : 60 ≤ c ∧ c < 256) (k1 : tk b N p = c → K 1 ν) (k0 : ¬ tk b N p = c → K 0 ν) : cI (cM (d + 1)) 116 [.ref 279, .int (nI c)] ν K := by
  have tl := tk_le (p := p) hb
  obtain ⟨m1, m2, m3, m4, m5, m6, m7, m8, m9⟩ := h
  refine e_X8_isLetter (nr_t m4 ?_)
  rw [m6, show (mk (tk b N p) = 2) = (3 ≤ tk b N p ∧ ¬ tk b N p = 44 ∧ ¬ tk b N p = 59) from propext (mk_2 tl)]
  refine nr_c (fun q => ⟨Or.inl rfl, k0 (by omega)⟩) (fun q => ?_)
  rw [m9 q.1, nI_eq (by omega) (by omega)]
  exact nr_c (fun e => ⟨Or.inl rfl, k0 e⟩) (fun e => ⟨Or.inr rfl, k1 e⟩)
theorem m_sign {d : Nat} {ν : Mm} {K : Mm → Prop} {b : Nat → Nat} {N p c : Nat} (hN : N ≤ 100) (hb : ∀ i, i < N → b i < 256) (h : MS b N ν p) (hc : c = 44 ∨ c = 59) (k1 : tk b N p = c → ∀ ν', MS b N ν' (nt b N p) → F9 ν ν' → K ν') (k0 : ¬ tk b N p = c → ∀ ν', MF ν' 1 p → F9 ν ν' → K ν') : cV (cM (d + 4)) 118 [.ref 279, .int (nI c)] ν K := by
  have tl := tk_le (p := p) hb
  have m6 := h.2.2.2.2.2.1
  have m9 := h.2.2.2.2.2.2.2.2
  refine e_X8_mustSign ?_
  rw [m6, show (mk (tk b N p) = 4) = (tk b N p = 44 ∨ tk b N p = 59) from propext (mk_4 tl)]
  refine nr_c (fun q => m_must0 h (k0 (by omega))) (fun q => ?_)
  rw [m9 (by omega), nI_eq (by omega) (by omega)]
  exact nr_c (fun e => m_must0 h (k0 e)) (fun e => m_must hN hb h (by decide) (by omega) (k1 e))
theorem m_num {d : Nat} {ν : Mm} {K : Int32 → Mm → Prop} {b : Nat → Nat} {N p lo hi : Nat} (hN : N ≤ 100) (hb : ∀ i, i < N → b i < 256) (h : MS b N ν p) (hl : lo < 5000) (hh : hi < 5000) (k1 : tk b N p = 1 → (lo ≤ vl b N p ∧ vl b N p ≤ hi) → ∀ ν', MS b N ν' (nt b N p) → F9 ν ν' → K (nI (vl b N p)) ν') (k2 : tk b N p = 1 → ¬ (lo ≤ vl b N p ∧ vl b N p ≤ hi) → ∀ ν', MF ν' 2 p → F9 ν ν' → K (nI lo) ν') (k0 : ¬ tk b N p = 1 → ∀ ν', MF ν' 1 p → F9 ν ν' → K (nI lo) ν') : cI (cM (d + 4)) 117 [.ref 279, .int (nI lo), .int (nI hi)] ν K := by
  have tl := tk_le (p := p) hb
  have m4 := h.2.2.2.1
  have m6 := h.2.2.2.2.2.1
  have m8 := h.2.2.2.2.2.2.2.1
  refine e_X8_number (nr_t m4 ?_)
  rw [m6, show (mk (tk b N p) = 3) = (tk b N p = 1) from propext (mk_3 tl)]
  refine br_c (fun q => nr_t m4 ?_) (fun q => m_bad (k := 1) h (by decide) (fun ν' a1 a2 => nr_f a1.ne (k_X8_number_47 (nr_f a1.ne (x_must a1 (k0 q ν' a1 a2))))))
  have vb := vl_le q
  rw [m8 q]
  refine s_in (a := lo) (b := hi) hl hh rfl rfl (fun g => nr_f (by decide) ?_) (fun g => nr_t rfl (m_bad (k := 2) h (by decide) (fun ν' a1 a2 => k_X8_number_47 (nr_f a1.ne (x_must a1 (k2 q (fun e => g ((inB (by omega) hh).mpr e)) ν' a1 a2))))))
  have g' := (inB (by omega) hh).mp g
  refine k_X8_number_47 (nr_t m4 ?_)
  rw [m8 q]
  exact m_must hN hb h (by decide) (by omega) (k1 q g')
theorem s_kindBy {d : Nat} {μ : Mm} {K : Int32 → Mm → Prop} {t : Nat} (ht : t < 256) (k0 : srt t = 0 → K (-1000000) μ) (k1 : ¬ srt t = 0 → K (nI (srt t)) μ) : cI (cM (d + 1)) 122 [.int (nI t)] μ K := by
  unfold srt at k0 k1
  have q : ∀ c, c < 256 → ((nI t = nI c) = (t = c)) := fun c hc => propext (nI_eq (by omega) (by omega))
  refine e_X8_kindBy ?_
  rw [show (nI t = 98) = (t = 98) from q 98 (by decide), show (nI t = 107) = (t = 107) from q 107 (by decide), show (nI t = 114) = (t = 114) from q 114 (by decide), show (nI t = 115) = (t = 115) from q 115 (by decide), show (nI t = 119) = (t = 119) from q 119 (by decide)]
  refine nr_c (fun c1 => nr_c (fun c2 => nr_c (fun c3 => nr_c (fun c4 => nr_c (fun c5 => ?_) (fun c => ?_)) (fun c => ?_)) (fun c => ?_)) (fun c => ?_)) (fun c => ?_)
  · rw [if_neg c1, if_neg c2, if_neg c3, if_neg c4, if_neg c5] at k0
    exact k0 rfl
  · rw [if_neg c1, if_neg c2, if_neg c3, if_neg c4, if_pos c] at k1
    exact k1 (by decide)
  · rw [if_neg c1, if_neg c2, if_neg c3, if_pos c] at k1
    exact k1 (by decide)
  · rw [if_neg c1, if_neg c2, if_pos c] at k1
    exact k1 (by decide)
  · rw [if_neg c1, if_pos c] at k1
    exact k1 (by decide)
  · rw [if_pos c] at k1
    exact k1 (by decide)
theorem srt_lo {t : Nat} (h : ¬ srt t = 0) : 60 ≤ t ∧ t < 256 := by
  unfold srt at h
  by_cases c1 : t = 119
  · omega
  by_cases c2 : t = 107
  · omega
  by_cases c3 : t = 98
  · omega
  by_cases c4 : t = 115
  · omega
  by_cases c5 : t = 114
  · omega
  rw [if_neg c1, if_neg c2, if_neg c3, if_neg c4, if_neg c5] at h
  exact absurd rfl h
theorem m_sort {d : Nat} {ν : Mm} {K : Int32 → Mm → Prop} {b : Nat → Nat} {N p : Nat} (hb : ∀ i, i < N → b i < 256) (h : MS b N ν p) (k1 : ¬ srt (tk b N p) = 0 → K 1 ν) (k0 : srt (tk b N p) = 0 → K 0 ν) : cI (cM (d + 2)) 123 [.ref 279] ν K := by
  have tl := tk_le (p := p) hb
  have sl := srt_le (tk b N p)
  have m4 := h.2.2.2.1
  have m6 := h.2.2.2.2.2.1
  have m9 := h.2.2.2.2.2.2.2.2
  refine e_X8_isSort (nr_t m4 ?_)
  rw [m6, show (mk (tk b N p) = 2) = (3 ≤ tk b N p ∧ ¬ tk b N p = 44 ∧ ¬ tk b N p = 59) from propext (mk_2 tl)]
  refine nr_c (fun q => ⟨Or.inl rfl, k0 (Decidable.byContradiction (fun e => by have := srt_lo e; omega))⟩) (fun q => ?_)
  rw [m9 q.1]
  exact s_kindBy tl (fun e => br_t rfl ⟨Or.inl rfl, k0 e⟩) (fun e => br_f (nI_nn (by omega)) ⟨Or.inr rfl, k1 e⟩)
