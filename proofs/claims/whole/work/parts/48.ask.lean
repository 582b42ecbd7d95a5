/-! ===== ask ===== -/
def pl (t : Nat → Int32) (n : Nat) : List Int32 → Nat → Int32
  | [] => t
  | v :: l => pl (upd t n v) (n + 1) l
def TC (μ : Mm) (z : Nat → Nat) (q : Nat) (ν : Mm) (n : Nat) (t : Nat → Int32) : Prop := ν 277 1 = nI n ∧ ν 277 2 = nI q ∧ ν 277 3 = nI (z (16 + 6 * q)) ∧ ν 277 4 = nI (z (17 + 6 * q)) ∧ ν 277 5 = nI (z (18 + 6 * q)) ∧ (∀ i, i < n → ν 278 i = t i) ∧ (∀ k, k ≠ 277 → k ≠ 278 → ν k = μ k)
def TM (μ : Mm) (ν : Mm) (n : Nat) (t : Nat → Int32) : Prop := ν 279 22 = nI n ∧ (∀ i, i < n → ν 290 i = t i) ∧ (∀ k, k ≠ 279 → k ≠ 290 → ν k = μ k) ∧ (∀ j, ¬ j = 0 → ¬ j = 22 → ν 279 j = μ 279 j)
theorem s_leave {d : Nat} {μ ν : Mm} {z : Nat → Nat} {q n : Nat} {t : Nat → Int32} {K : Mm → Prop} {v : Int32} (h : TC μ z q ν n t) (hn : n < 16) (k : ∀ ν', TC μ z q ν' (n + 1) (upd t n v) → K ν') : cV (cM (d + 1)) 4 [.ref 277, .int v] ν K := by
  obtain ⟨h1, h2, h3, h4, h5, h6, h7⟩ := h
  refine e_X1_leave ?_
  rw [h1, nI_clamp (by omega), n_suc]
  refine br_f (by rw [show (16 : Int32) = nI 16 from rfl, nI_leI (by omega) (by omega)]; omega) ⟨vp_in_nI hn (by decide), k _ ⟨rfl, h2, h3, h4, h5, fun i hi => ?_, fun a ha hb => ?_⟩⟩
  · show upd (ν 278) n v i = upd t n v i
    by_cases e : i = n
    · rw [e, upd_s, upd_s]
    · rw [upd_n _ _ e, upd_n _ _ e]
      exact h6 i (by omega)
  · rw [up_eq, upc_n _ _ ha, up_eq, upc_n _ _ hb]
    exact h7 a ha hb
theorem s_began {d : Nat} {μ ν : Mm} {n : Nat} {t : Nat → Int32} {K : Mm → Prop} {v : Int32} (h : TM μ ν n t) (hn : n < 16) (k : ∀ ν', TM μ ν' (n + 1) (upd t n v) → K ν') : cV (cM (d + 1)) 177 [.ref 279, .int v] ν K := by
  obtain ⟨h1, h6, h7, h8⟩ := h
  refine e_X8_began ?_
  rw [h1, nI_clamp (by omega), n_suc]
  refine br_f (by rw [show (16 : Int32) = nI 16 from rfl, nI_leI (by omega) (by omega)]; omega) ⟨vp_in_nI hn (by decide), k _ ⟨rfl, fun i hi => ?_, fun a ha hb => ?_, fun j h0 h22 => ?_⟩⟩
  · show upd (ν 290) n v i = upd t n v i
    by_cases e : i = n
    · rw [e, upd_s, upd_s]
    · rw [upd_n _ _ e, upd_n _ _ e]
      exact h6 i (by omega)
  · rw [up_eq, upc_n _ _ ha, up_eq, upc_n _ _ hb]
    exact h7 a ha hb
  · rw [up_eq, upc_s, upd_n _ _ h22, up_eq, upc_n _ _ (by decide)]
    exact h8 j h0 h22
def mL (s : Nat) : List Int32 := if s = 1 then [21, 20] else if s = 2 then [24, 21, 20] else if s = 3 then [22, 21, 20] else if s = 4 then [23, 20, 13, 10] else [23, 20, 14, 13, 10]
def mA (s : Nat) (Q N P : Int32) : Int32 := if s = 1 then Q + P else if s = 2 then 2 * (Q + P) else if s = 3 then (Q + P) - 1000 else if s = 4 then Q - (N - 100) else Q - (2 * (N - 100))
def zL (s : Nat) : List Int32 := if s = 4 then [13, 10] else [14, 13, 10]
def zA (s : Nat) (N : Int32) : Int32 := if s = 4 then N - 100 else 2 * (N - 100)
theorem s_lentSize {d : Nat} {μ ν : Mm} {z : Nat → Nat} {q n : Nat} {t : Nat → Int32} {K : Int32 → Mm → Prop} (h : TC μ z q ν n t) (hn : n < 16) (k : ∀ ν', TC μ z q ν' (n + 1) (upd t n 10) → K (nI (z (17 + 6 * q))) ν') : cI (cM (d + 2)) 7 [.ref 277] ν K :=
  e_X1_lentSize (s_leave h hn (fun ν' h' => by rw [h'.2.2.2.1]; exact k ν' h'))
theorem s_lentMark {d : Nat} {μ ν : Mm} {z : Nat → Nat} {q n : Nat} {t : Nat → Int32} {K : Int32 → Mm → Prop} (h : TC μ z q ν n t) (hn : n < 16) (k : ∀ ν', TC μ z q ν' (n + 1) (upd t n 20) → K (nI q) ν') : cI (cM (d + 2)) 10 [.ref 277] ν K :=
  e_X1_lentMark (s_leave h hn (fun ν' h' => by rw [h'.2.1]; exact k ν' h'))
theorem s_markW {d : Nat} {μ ν : Mm} {z : Nat → Nat} {q n : Nat} {t : Nat → Int32} {K : Int32 → Mm → Prop} (h : TC μ z q ν n t) (hn : n < 15) (k : ∀ ν', TC μ z q ν' (n + 1 + 1) (upd (upd t n 21) (n + 1) 20) → K (nI q + nI (z (18 + 6 * q))) ν') : cI (cM (d + 3)) 11 [.ref 277] ν K :=
  e_X1_markOfWalker (s_leave h (by omega) (fun ν1 h1 => s_lentMark h1 (by omega) (fun ν2 h2 => by rw [h2.2.2.2.2.1]; exact k ν2 h2)))
theorem s_sizeS {d : Nat} {μ ν : Mm} {z : Nat → Nat} {q n : Nat} {t : Nat → Int32} {K : Int32 → Mm → Prop} (h : TC μ z q ν n t) (hn : n < 15) (k : ∀ ν', TC μ z q ν' (n + 1 + 1) (upd (upd t n 13) (n + 1) 10) → K (nI (z (17 + 6 * q)) - 100) ν') : cI (cM (d + 3)) 9 [.ref 277] ν K :=
  e_X1_sizeOfStayer (s_leave h (by omega) (fun ν1 h1 => s_lentSize h1 (by omega) (fun ν2 h2 => k ν2 h2)))
theorem s_plain {d : Nat} {μ ν : Mm} {z : Nat → Nat} {q n : Nat} {t : Nat → Int32} {K : Int32 → Mm → Prop} (h : TM μ ν n t) (lm : LM (μ 283) z) (hq : q < 7) (hn : n < 16) (k : ∀ ν', TM μ ν' (n + 1) (upd t n 10) → K (nI (z (17 + 6 * q))) ν') : cI (cM (d + 2)) 178 [.ref 279, .int (nI q)] ν K := by
  refine e_X8_plainSize (s_began h hn (fun ν' h' => s_of (c := 1) (z := z) (Or.inl rfl) (by rw [h'.2.2.1 283 (by decide) (by decide)]; exact lm) hq (by decide) ?_))
  rw [show 16 + 6 * q + 1 = 17 + 6 * q by omega]
  exact k ν' h'
theorem s_sizeAS {d : Nat} {μ ν : Mm} {z : Nat → Nat} {q n : Nat} {t : Nat → Int32} {K : Int32 → Mm → Prop} (h : TC μ z q ν n t) (hs : z (16 + 6 * q) = 4 ∨ z (16 + 6 * q) = 5) (hn : n < 10) (k : ∀ ν', TC μ z q ν' (n + (zL (z (16 + 6 * q))).length) (pl t n (zL (z (16 + 6 * q)))) → K (zA (z (16 + 6 * q)) (nI (z (17 + 6 * q)))) ν') : cI (cM (d + 4)) 187 [.ref 277] ν K := by
  refine e_X1_sizeAmongStayers ?_
  have h3 := h.2.2.1
  rcases hs with e | e
  · rw [e] at k h3
    rw [h3]
    exact nr_f (by decide) (s_sizeS h (by omega) (fun ν' h' => k ν' h'))
  · rw [e] at k h3
    rw [h3]
    exact nr_t rfl (s_leave h (by omega) (fun ν1 h1 => s_sizeS h1 (by omega) (fun ν' h' => k ν' h')))
theorem s_sizeC2 {d : Nat} {μ ν : Mm} {z : Nat → Nat} {q n : Nat} {t : Nat → Int32} {K : Int32 → Mm → Prop} (h : TC μ z q ν n t) (hs : z (16 + 6 * q) = 4 ∨ z (16 + 6 * q) = 5) (hn : n < 10) (k : ∀ ν', TC μ z q ν' (n + (zL (z (16 + 6 * q))).length) (pl t n (zL (z (16 + 6 * q)))) → K (zA (z (16 + 6 * q)) (nI (z (17 + 6 * q)))) ν') : cI (cM (d + 5)) 5 [.ref 277] ν K := by
  refine e_X1_size ?_
  have h3 := h.2.2.1
  rcases hs with e | e
  · have e4 := e
    rw [e] at h3
    rw [h3]
    exact br_f (by decide) (br_f (by decide) (br_f (by decide) (br_t rfl (s_sizeAS h (Or.inl e4) hn k))))
  · have e4 := e
    rw [e] at h3
    rw [h3]
    exact br_f (by decide) (br_f (by decide) (br_f (by decide) (br_f (by decide) (br_t rfl (s_sizeAS h (Or.inr e4) hn k)))))
theorem s_markAW {d : Nat} {μ ν : Mm} {z : Nat → Nat} {q n : Nat} {t : Nat → Int32} {K : Int32 → Mm → Prop} (h : TC μ z q ν n t) (hs : 1 ≤ z (16 + 6 * q) ∧ z (16 + 6 * q) ≤ 3) (hn : n < 8) (k : ∀ ν', TC μ z q ν' (n + (mL (z (16 + 6 * q))).length) (pl t n (mL (z (16 + 6 * q)))) → K (mA (z (16 + 6 * q)) (nI q) (nI (z (17 + 6 * q))) (nI (z (18 + 6 * q)))) ν') : cI (cM (d + 4)) 186 [.ref 277] ν K := by
  refine e_X1_markAmongWalkers ?_
  have h3 := h.2.2.1
  rcases (show z (16 + 6 * q) = 1 ∨ z (16 + 6 * q) = 2 ∨ z (16 + 6 * q) = 3 by omega) with e | e | e
  · rw [e] at k h3
    rw [h3]
    exact br_f (by decide) (br_f (by decide) (s_markW h (by omega) (fun ν' h' => k ν' h')))
  · rw [e] at k h3
    rw [h3]
    exact br_t rfl (s_leave h (by omega) (fun ν1 h1 => s_markW h1 (by omega) (fun ν' h' => k ν' h')))
  · rw [e] at k h3
    rw [h3]
    exact br_f (by decide) (br_t rfl (s_leave h (by omega) (fun ν1 h1 => s_markW h1 (by omega) (fun ν' h' => k ν' h'))))
theorem s_markC {d : Nat} {μ ν : Mm} {z : Nat → Nat} {q n : Nat} {t : Nat → Int32} {K : Int32 → Mm → Prop} (h : TC μ z q ν n t) (hs : 1 ≤ z (16 + 6 * q) ∧ z (16 + 6 * q) ≤ 5) (hn : n < 8) (k : ∀ ν', TC μ z q ν' (n + (mL (z (16 + 6 * q))).length) (pl t n (mL (z (16 + 6 * q)))) → K (mA (z (16 + 6 * q)) (nI q) (nI (z (17 + 6 * q))) (nI (z (18 + 6 * q)))) ν') : cI (cM (d + 5)) 6 [.ref 277] ν K := by
  refine e_X1_mark ?_
  have h3 := h.2.2.1
  rcases (show z (16 + 6 * q) = 1 ∨ z (16 + 6 * q) = 2 ∨ z (16 + 6 * q) = 3 ∨ z (16 + 6 * q) = 4 ∨ z (16 + 6 * q) = 5 by omega) with e | e | e | e | e
  · have hw : 1 ≤ z (16 + 6 * q) ∧ z (16 + 6 * q) ≤ 3 := by omega
    rw [e] at h3
    rw [h3]
    exact br_t rfl (s_markAW h hw hn k)
  · have hw : 1 ≤ z (16 + 6 * q) ∧ z (16 + 6 * q) ≤ 3 := by omega
    rw [e] at h3
    rw [h3]
    exact br_f (by decide) (br_t rfl (s_markAW h hw hn k))
  · have hw : 1 ≤ z (16 + 6 * q) ∧ z (16 + 6 * q) ≤ 3 := by omega
    rw [e] at h3
    rw [h3]
    exact br_f (by decide) (br_f (by decide) (br_t rfl (s_markAW h hw hn k)))
  · have e4 := e
    rw [e] at k h3
    rw [h3]
    refine br_f (by decide) (br_f (by decide) (br_f (by decide) (br_t rfl (s_leave h (by omega) (fun ν1 h1 => s_lentMark h1 (by omega) (fun ν2 h2 => s_sizeAS h2 (Or.inl e4) (by omega) (fun ν3 h3 => ?_)))))))
    rw [e4] at h3 ⊢
    exact k ν3 h3
  · have e4 := e
    rw [e] at k h3
    rw [h3]
    refine br_f (by decide) (br_f (by decide) (br_f (by decide) (br_f (by decide) (br_t rfl (s_leave h (by omega) (fun ν1 h1 => s_lentMark h1 (by omega) (fun ν2 h2 => s_sizeAS h2 (Or.inr e4) (by omega) (fun ν3 h3 => ?_))))))))
    rw [e4] at h3 ⊢
    exact k ν3 h3
def gL (s : Nat) : List Int32 := if s = 1 then [11, 10] else if s = 2 then [12, 11, 10] else [11, 10]
def gA (s : Nat) (Q N P : Int32) : Int32 := if s = 2 then -(N + mA 2 Q N P) else N + mA s Q N P
theorem s_sizeC {d : Nat} {μ ν : Mm} {z : Nat → Nat} {q n : Nat} {t : Nat → Int32} {K : Int32 → Mm → Prop} (h : TC μ z q ν n t) (hs : 1 ≤ z (16 + 6 * q) ∧ z (16 + 6 * q) ≤ 3) (hn : n < 4) (k : ∀ ν', TC μ z q ν' (n + (gL (z (16 + 6 * q))).length + (mL (z (16 + 6 * q))).length) (pl (pl t n (gL (z (16 + 6 * q)))) (n + (gL (z (16 + 6 * q))).length) (mL (z (16 + 6 * q)))) → K (gA (z (16 + 6 * q)) (nI q) (nI (z (17 + 6 * q))) (nI (z (18 + 6 * q)))) ν') : cI (cM (d + 7)) 5 [.ref 277] ν K := by
  refine e_X1_size ?_
  have h3 := h.2.2.1
  rcases (show z (16 + 6 * q) = 1 ∨ z (16 + 6 * q) = 2 ∨ z (16 + 6 * q) = 3 by omega) with e | e | e
  · have e4 := e
    rw [e] at k h3
    rw [h3]
    refine br_t rfl (e_X1_sizeOfWalker (s_leave h (by omega) (fun ν1 h1 => s_lentSize h1 (by omega) (fun ν2 h2 => s_markAW h2 (by omega) (by omega) (fun ν3 h3 => ?_)))))
    rw [e4] at h3 ⊢
    exact k ν3 h3
  · have e4 := e
    rw [e] at k h3
    rw [h3]
    refine br_f (by decide) (br_t rfl (s_leave h (by omega) (fun ν0 h0 => e_X1_sizeOfWalker (s_leave h0 (by omega) (fun ν1 h1 => s_lentSize h1 (by omega) (fun ν2 h2 => s_markAW h2 (by omega) (by omega) (fun ν3 h3 => ?_)))))))
    rw [e4] at h3 ⊢
    rw [show ∀ a : Int32, 0 - a = -a from fun a => Int32.zero_sub a]
    exact k ν3 h3
  · have e4 := e
    rw [e] at k h3
    rw [h3]
    refine br_f (by decide) (br_f (by decide) (br_t rfl (e_X1_sizeOfWalker (s_leave h (by omega) (fun ν1 h1 => s_lentSize h1 (by omega) (fun ν2 h2 => s_markAW h2 (by omega) (by omega) (fun ν3 h3 => ?_)))))))
    rw [e4] at h3 ⊢
    exact k ν3 h3
