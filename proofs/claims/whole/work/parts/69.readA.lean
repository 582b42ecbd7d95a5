/-! ===== land: how a LAND is told; the class reads ===== -/
abbrev Rr : Type := Nat × Nat × (Nat → Nat)
def sg (b : Nat → Nat) (N c p : Nat) (z : Nat → Nat) (f : Rr) : Rr := if tk b N p = c then f else (1, p, z)
def nm (b : Nat → Nat) (N lo hi p : Nat) (z : Nat → Nat) (f : Rr) : Rr := if tk b N p = 1 then (if lo ≤ vl b N p ∧ vl b N p ≤ hi then f else (2, p, z)) else (1, p, z)
def nj (b : Nat → Nat) (N : Nat) : Nat → Nat → Nat
  | 0, p => p
  | k + 1, p => nt b N (nj b N k p)
def srt (t : Nat) : Nat := if t = 119 then 1 else if t = 107 then 2 else if t = 98 then 3 else if t = 115 then 4 else if t = 114 then 5 else 0
def z00 : Nat → Nat := fun _ => 0
def pLaw (b : Nat → Nat) (N : Nat) : Rr := sg b N 110 0 z00 (nm b N 2 16 (nj b N 1 0) z00 (sg b N 44 (nj b N 2 0) z00 (nm b N 0 9 (nj b N 3 0) z00 (sg b N 59 (nj b N 4 0) z00 (0, nj b N 5 0, un (un z00 0 (vl b N (nj b N 1 0))) 1 (vl b N (nj b N 3 0)))))))
def pThing (b : Nat → Nat) (N p : Nat) (z : Nat → Nat) : Rr := if tk b N p = 116 then (if z 2 = 5 then (3, p, z) else nm b N 0 (z 0 - 1) (nj b N 1 p) z (sg b N 44 (nj b N 2 p) z (nm b N 0 15 (nj b N 3 p) z (sg b N 59 (nj b N 4 p) z (0, nj b N 5 p, un (un (un z (6 + 2 * z 2) (vl b N (nj b N 1 p))) (7 + 2 * z 2) (vl b N (nj b N 3 p))) 2 (z 2 + 1)))))) else (1, p, z)
def pPerson (b : Nat → Nat) (N p : Nat) (z : Nat → Nat) : Rr := if srt (tk b N p) = 0 then (1, p, z) else if z 3 = 7 then (3, p, z) else nm b N 0 (z 2 - 1) (nj b N 1 p) z (sg b N 44 (nj b N 2 p) z (nm b N 0 (z 0 - 1) (nj b N 3 p) z (sg b N 44 (nj b N 4 p) z (nm b N 0 9 (nj b N 5 p) z (sg b N 59 (nj b N 6 p) z (0, nj b N 7 p, un (un (un (un (un z (16 + 6 * z 3) (srt (tk b N p))) (17 + 6 * z 3) (vl b N (nj b N 1 p))) (18 + 6 * z 3) (vl b N (nj b N 3 p))) (19 + 6 * z 3) (vl b N (nj b N 5 p))) 3 (z 3 + 1)))))))
def pT (b : Nat → Nat) (N : Nat) : Nat → Nat → (Nat → Nat) → Rr
  | 0, p, z => (0, p, z)
  | m + 1, p, z => if tk b N p = 116 then (if (pThing b N p z).1 = 0 then pT b N m (pThing b N p z).2.1 (pThing b N p z).2.2 else pThing b N p z) else (0, p, z)
def pP (b : Nat → Nat) (N : Nat) : Nat → Nat → (Nat → Nat) → Rr
  | 0, p, z => (0, p, z)
  | m + 1, p, z => if tk b N p = 0 then (0, p, z) else (if (pPerson b N p z).1 = 0 then pP b N m (pPerson b N p z).2.1 (pPerson b N p z).2.2 else pPerson b N p z)
/-- a LAND as far as it is told -/
def VZ (z : Nat → Nat) : Prop := (2 ≤ z 0 ∧ z 0 ≤ 16) ∧ z 1 ≤ 9 ∧ z 2 ≤ 5 ∧ z 3 ≤ 7 ∧ z 4 = 0 ∧ z 5 = 0 ∧
  (∀ t, t < z 2 → z (6 + 2 * t) < z 0 ∧ z (7 + 2 * t) ≤ 15) ∧
  (∀ q, q < z 3 → (1 ≤ z (16 + 6 * q) ∧ z (16 + 6 * q) ≤ 5) ∧ z (17 + 6 * q) < z 2 ∧ z (18 + 6 * q) < z 0 ∧ z (19 + 6 * q) ≤ 9) ∧
  (∀ q, q < 7 → z (20 + 6 * q) = 0 ∧ z (21 + 6 * q) = 0)
theorem srt_le (t : Nat) : srt t ≤ 5 := by
  unfold srt
  repeat' split
  all_goals decide
def FCs (μ ν : Mm) : Prop := (∀ a, a ≠ 5 → a < 7 ∨ 15 < a → ν a = μ a) ∧ ν 5 3 = μ 5 3
def FCf (μ ν : Mm) (k p : Nat) : Prop := (∀ a, a ≠ 5 → a < 7 ∨ 15 < a → ν a = μ a) ∧ ν 5 3 = nI k ∧ ν 5 4 = nI p
/-- what is owed behind a piece that comes to r -/
def CPo (K : Int32 → Mm → Prop) (μ : Mm) (b : Nat → Nat) (N : Nat) (r : Rr) : Prop := (r.1 = 0 → ∀ ν', CS b N ν' r.2.1 → LR ν' 7 r.2.2 → FCs μ ν' → K 1 ν') ∧ (¬ r.1 = 0 → ∀ ν', FCf μ ν' r.1 r.2.1 → K 0 ν')
theorem CS.fr {b : Nat → Nat} {N p : Nat} {ν ν' : Mm} (h : CS b N ν p) (a5 : ν' 5 = ν 5) (a6 : ν' 6 = ν 6) : CS b N ν' p := by
  unfold CS at h ⊢
  rw [a5, a6]
  exact h
theorem c_blame {d : Nat} {ν : Mm} {K : Int32 → Mm → Prop} {b : Nat → Nat} {N p k : Nat} (h : CS b N ν p) (kk : ∀ ν', (∀ a, a ≠ 5 → ν' a = ν a) → ν' 5 3 = nI k → ν' 5 4 = nI p → K 0 ν') : cI (cM (d + 1)) 38 [.ref 5, .int (nI k)] ν K := by
  refine e_X5_blame ⟨Or.inl rfl, kk _ (fun a ha => ?_) ?_ ?_⟩
  · rw [up_eq, upc_n _ _ ha, up_eq, upc_n _ _ ha]
  · rw [up_eq, upc_s, upd_n _ _ (by decide), up_eq, upc_s, upd_s]
  · rw [up_eq, upc_s, upd_s]
    exact h.2.2.2.1
theorem c_goOn {d : Nat} {ν : Mm} {K : Int32 → Mm → Prop} {b : Nat → Nat} {N p : Nat} (hN : N ≤ 100) (hb : ∀ i, i < N → b i < 256) (h : CS b N ν p) (h2 : ¬ tk b N p = 2) (kk : ∀ ν', CS b N ν' (nt b N p) → (∀ a, a ≠ 5 → ν' a = ν a) → ν' 5 3 = ν 5 3 → ν' 5 9 = ν 5 9 → K 1 ν') : cI (cM (d + 3)) 39 [.ref 5] ν K := by
  obtain ⟨c2, c6, cp, c5, c7, cn, cv⟩ := h
  refine e_X5_goOn ?_
  rw [cn h2]
  refine s_look (p := nt b N p) hN hb (by rw [up_eq, upc_s, upd_n _ _ (by decide)]; exact c2) c6 (by rw [up_eq, upc_s, upd_s]) (nt_le cp) (fun x hx xj => ⟨Or.inr rfl, kk _ hx (fun a ha => ?_) ?_ ?_⟩)
  · rw [upc_n _ _ ha, up_eq, upc_n _ _ ha]
  · rw [upc_s, xj 3 (by decide) (by decide) (by decide), up_eq, upc_s, upd_n _ _ (by decide)]
  · rw [upc_s, xj 9 (by decide) (by decide) (by decide), up_eq, upc_s, upd_n _ _ (by decide)]
theorem c_sign {d : Nat} {ν : Mm} {K : Int32 → Mm → Prop} {b : Nat → Nat} {N p c : Nat} (hN : N ≤ 100) (hb : ∀ i, i < N → b i < 256) (h : CS b N ν p) (hc : c ≠ 2) (hc2 : c < 256)
    (k1 : tk b N p = c → ∀ ν', CS b N ν' (nt b N p) → (∀ a, a ≠ 5 → ν' a = ν a) → ν' 5 3 = ν 5 3 → K 1 ν') (k0 : ¬ tk b N p = c → ∀ ν', (∀ a, a ≠ 5 → ν' a = ν a) → ν' 5 3 = nI 1 → ν' 5 4 = nI p → K 0 ν') : cI (cM (d + 4)) 36 [.ref 5, .int (nI c)] ν K := by
  have tl := tk_le (p := p) hb
  refine e_X5_takeSign ?_
  rw [h.2.2.2.2.1, nI_eq (by omega) (by omega)]
  refine nr_c (fun q => c_blame (k := 1) h (fun ν' a1 a2 a3 => ⟨Or.inl rfl, k0 q ν' a1 a2 a3⟩)) (fun q => c_goOn hN hb h (by omega) (fun ν' a1 a2 a3 _ => ⟨Or.inr rfl, k1 q ν' a1 a2 a3⟩))
theorem c_num {d : Nat} {ν : Mm} {K : Int32 → Mm → Prop} {b : Nat → Nat} {N p lo hi : Nat} (hN : N ≤ 100) (hb : ∀ i, i < N → b i < 256) (h : CS b N ν p) (hl : lo < 5000) (hh : hi < 5000)
    (k1 : tk b N p = 1 → (lo ≤ vl b N p ∧ vl b N p ≤ hi) → ∀ ν', CS b N ν' (nt b N p) → (∀ a, a ≠ 5 → ν' a = ν a) → ν' 5 3 = ν 5 3 → ν' 5 9 = nI (vl b N p) → K 1 ν') (k2 : tk b N p = 1 → ¬ (lo ≤ vl b N p ∧ vl b N p ≤ hi) → ∀ ν', (∀ a, a ≠ 5 → ν' a = ν a) → ν' 5 3 = nI 2 → ν' 5 4 = nI p → K 0 ν') (k0 : ¬ tk b N p = 1 → ∀ ν', (∀ a, a ≠ 5 → ν' a = ν a) → ν' 5 3 = nI 1 → ν' 5 4 = nI p → K 0 ν') : cI (cM (d + 4)) 37 [.ref 5, .int (nI lo), .int (nI hi)] ν K := by
  have tl := tk_le (p := p) hb
  refine e_X5_takeNumber ?_
  rw [h.2.2.2.2.1, show (nI (tk b N p) = 1) = (tk b N p = 1) from propext (nI_eq (b := 1) (by omega) (by decide))]
  refine br_c (fun q => ?_) (fun q => c_blame (k := 1) h (fun ν' a1 a2 a3 => ⟨Or.inl rfl, k0 q ν' a1 a2 a3⟩))
  have v8 := h.2.2.2.2.2.2 q
  have vb := vl_le q
  rw [v8]
  refine s_out hl hh (fun g => br_t rfl ?_) (fun g => br_f (by decide) (c_blame (k := 2) h (fun ν' a1 a2 a3 => ⟨Or.inl rfl, k2 q (fun e => g ((inB (by omega) hh).mpr e)) ν' a1 a2 a3⟩)))
  have g' := (inB (by omega) hh).mp g
  rw [v8]
  have h' : CS b N (up ν 5 9 (nI (vl b N p))) p := by
    obtain ⟨c2, c6, cp, c5, c7, cn, cv⟩ := h
    exact ⟨c2, c6, cp, c5, c7, cn, cv⟩
  refine c_goOn hN hb h' (by omega) (fun ν' a1 a2 a3 a4 => ⟨Or.inr rfl, k1 q g' ν' a1 (fun a ha => ?_) ?_ ?_⟩)
  · rw [a2 a ha, up_eq, upc_n _ _ ha]
  · rw [a3, up_eq, upc_s, upd_n _ _ (by decide)]
  · rw [a4, up_eq, upc_s, upd_s]
