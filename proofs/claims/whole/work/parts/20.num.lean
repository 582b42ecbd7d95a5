/-! ===== numbers: what is small is a natural number ===== -/
theorem lt0 : (0 : Int32) = nI 0 := rfl
theorem lt1 : (1 : Int32) = nI 1 := rfl
theorem lt2 : (2 : Int32) = nI 2 := rfl
theorem lt3 : (3 : Int32) = nI 3 := rfl
theorem lt4 : (4 : Int32) = nI 4 := rfl
theorem lt5 : (5 : Int32) = nI 5 := rfl
theorem lt6 : (6 : Int32) = nI 6 := rfl
theorem lt7 : (7 : Int32) = nI 7 := rfl
theorem lt8 : (8 : Int32) = nI 8 := rfl
theorem lt9 : (9 : Int32) = nI 9 := rfl
theorem lt10 : (10 : Int32) = nI 10 := rfl
theorem lt11 : (11 : Int32) = nI 11 := rfl
theorem lt12 : (12 : Int32) = nI 12 := rfl
theorem lt13 : (13 : Int32) = nI 13 := rfl
theorem lt14 : (14 : Int32) = nI 14 := rfl
theorem lt15 : (15 : Int32) = nI 15 := rfl
theorem lt16 : (16 : Int32) = nI 16 := rfl
theorem lt17 : (17 : Int32) = nI 17 := rfl
theorem lt18 : (18 : Int32) = nI 18 := rfl
theorem lt19 : (19 : Int32) = nI 19 := rfl
theorem lt20 : (20 : Int32) = nI 20 := rfl
theorem lt21 : (21 : Int32) = nI 21 := rfl
theorem lt22 : (22 : Int32) = nI 22 := rfl
theorem lt23 : (23 : Int32) = nI 23 := rfl
theorem lt24 : (24 : Int32) = nI 24 := rfl
theorem lt25 : (25 : Int32) = nI 25 := rfl
theorem lt26 : (26 : Int32) = nI 26 := rfl
theorem lt27 : (27 : Int32) = nI 27 := rfl
theorem lt28 : (28 : Int32) = nI 28 := rfl
theorem lt29 : (29 : Int32) = nI 29 := rfl
theorem lt30 : (30 : Int32) = nI 30 := rfl
theorem lt31 : (31 : Int32) = nI 31 := rfl
theorem lt32 : (32 : Int32) = nI 32 := rfl
theorem lt33 : (33 : Int32) = nI 33 := rfl
theorem lt34 : (34 : Int32) = nI 34 := rfl
theorem lt35 : (35 : Int32) = nI 35 := rfl
theorem lt36 : (36 : Int32) = nI 36 := rfl
theorem lt37 : (37 : Int32) = nI 37 := rfl
theorem lt38 : (38 : Int32) = nI 38 := rfl
theorem lt39 : (39 : Int32) = nI 39 := rfl
theorem lt40 : (40 : Int32) = nI 40 := rfl
theorem lt41 : (41 : Int32) = nI 41 := rfl
theorem lt42 : (42 : Int32) = nI 42 := rfl
theorem lt43 : (43 : Int32) = nI 43 := rfl
theorem lt44 : (44 : Int32) = nI 44 := rfl
theorem lt45 : (45 : Int32) = nI 45 := rfl
theorem lt46 : (46 : Int32) = nI 46 := rfl
theorem lt47 : (47 : Int32) = nI 47 := rfl
theorem lt48 : (48 : Int32) = nI 48 := rfl
theorem lt49 : (49 : Int32) = nI 49 := rfl
theorem lt50 : (50 : Int32) = nI 50 := rfl
theorem lt51 : (51 : Int32) = nI 51 := rfl
theorem lt52 : (52 : Int32) = nI 52 := rfl
theorem lt53 : (53 : Int32) = nI 53 := rfl
theorem lt54 : (54 : Int32) = nI 54 := rfl
theorem lt55 : (55 : Int32) = nI 55 := rfl
theorem lt56 : (56 : Int32) = nI 56 := rfl
theorem lt57 : (57 : Int32) = nI 57 := rfl
theorem lt58 : (58 : Int32) = nI 58 := rfl
theorem lt59 : (59 : Int32) = nI 59 := rfl
theorem lt60 : (60 : Int32) = nI 60 := rfl
theorem lt61 : (61 : Int32) = nI 61 := rfl
theorem lt62 : (62 : Int32) = nI 62 := rfl
theorem lt63 : (63 : Int32) = nI 63 := rfl
theorem lt64 : (64 : Int32) = nI 64 := rfl
theorem lt97 : (97 : Int32) = nI 97 := rfl
theorem lt98 : (98 : Int32) = nI 98 := rfl
theorem lt99 : (99 : Int32) = nI 99 := rfl
theorem lt100 : (100 : Int32) = nI 100 := rfl
theorem lt107 : (107 : Int32) = nI 107 := rfl
theorem lt110 : (110 : Int32) = nI 110 := rfl
theorem lt114 : (114 : Int32) = nI 114 := rfl
theorem lt115 : (115 : Int32) = nI 115 := rfl
theorem lt116 : (116 : Int32) = nI 116 := rfl
theorem lt119 : (119 : Int32) = nI 119 := rfl
theorem lt122 : (122 : Int32) = nI 122 := rfl
theorem lt208 : (208 : Int32) = nI 208 := rfl
theorem lt255 : (255 : Int32) = nI 255 := rfl
theorem lt999 : (999 : Int32) = nI 999 := rfl
theorem lt1000 : (1000 : Int32) = nI 1000 := rfl
theorem vp_t {n N : Nat} (h : n < N) (hN : N < 2 ^ 31) : vp_in (nI n) N = True := eq_true (vp_in_nI h hN)
theorem nI_or (a b : Nat) : nI a ||| nI b = nI (a ||| b) := by
  apply Int32.toBitVec_inj.1
  show BitVec.ofNat 32 a ||| BitVec.ofNat 32 b = BitVec.ofNat 32 (a ||| b)
  apply BitVec.eq_of_getLsbD_eq
  intro i hi
  simp [hi]
theorem nI_and (a b : Nat) : nI a &&& nI b = nI (a &&& b) := by
  apply Int32.toBitVec_inj.1
  show BitVec.ofNat 32 a &&& BitVec.ofNat 32 b = BitVec.ofNat 32 (a &&& b)
  apply BitVec.eq_of_getLsbD_eq
  intro i hi
  simp [hi]
theorem nI_xor (a b : Nat) : nI a ^^^ nI b = nI (a ^^^ b) := by
  apply Int32.toBitVec_inj.1
  show BitVec.ofNat 32 a ^^^ BitVec.ofNat 32 b = BitVec.ofNat 32 (a ^^^ b)
  apply BitVec.eq_of_getLsbD_eq
  intro i hi
  simp [hi]
theorem sh_l : ∀ n, n < 32 → ((nI n &&& 31).toBitVec.smod 32).toNat = n := by decide +kernel
theorem sh_1 {t : Nat} (ht : t < 31) : nI 1 <<< (nI t &&& nI 31) = nI (2 ^ t) := by
  have h := pk_shlN (n := 1) (nI t &&& 31) t (sh_l t (by omega)) (by rw [Nat.one_mul]; exact Nat.pow_lt_pow_right (by decide) (by omega))
  rw [Nat.one_mul] at h
  exact h
theorem sh_b {a t : Nat} (ha : a < 2 ^ 31) (ht : t < 32) : (nI a >>> (nI t &&& nI 31)) &&& nI 1 = nI (a / 2 ^ t % 2) := by
  rw [show nI t &&& nI 31 = nI t &&& 31 from rfl, pk_shrN ha (nI t &&& 31) t (sh_l t ht)]
  exact pk_andN (Nat.lt_of_le_of_lt (Nat.div_le_self _ _) (by omega)) 1 rfl
theorem rem_n {a b : Nat} (ha : a < 2 ^ 31) (h0 : 0 < b) (hb : b < 2 ^ 31) : nI a - nI a / nI b * nI b = nI (a % b) := pk_rem ha h0 hb
theorem sub_n {a b : Nat} (h : b ≤ a) : nI a - nI b = nI (a - b) := pk_sub h
/-- branches whose way is known -/
theorem nr_t {c A B : Prop} (h : c) (b : B) : (¬ c → A) ∧ (c → B) := ⟨fun n => absurd h n, fun _ => b⟩
theorem nr_f {c A B : Prop} (h : ¬ c) (a : A) : (¬ c → A) ∧ (c → B) := ⟨fun _ => a, fun n => absurd n h⟩
theorem nr_c {c A B : Prop} (a : ¬ c → A) (b : c → B) : (¬ c → A) ∧ (c → B) := ⟨a, b⟩
theorem z01 {x : Int32} (h : x = 0 ∨ x = 1) {A : Prop} (a : A) : (x = 0 ∨ x = 1) ∧ A := ⟨h, a⟩
/-- memories -/
theorem upc_upc (μ : Mm) (k : Nat) (f g : Nat → Int32) : upc (upc μ k f) k g = upc μ k g := by
  funext a
  unfold upc
  cases Nat.beq a k <;> rfl
theorem upc_id (μ : Mm) (k : Nat) : upc μ k (μ k) = μ := by
  funext a
  unfold upc
  cases h : Nat.beq a k with
  | false => rfl
  | true => rw [beq_e h]; rfl
theorem upd_s (f : Nat → Int32) (k : Nat) (v : Int32) : upd f k v k = v := if_pos rfl
theorem upd_n (f : Nat → Int32) {k j : Nat} (v : Int32) (h : j ≠ k) : upd f k v j = f j := if_neg h
/-- a row of 58 numbers -/
def LM (f : Nat → Int32) (z : Nat → Nat) : Prop := ∀ i, i < 58 → f i = nI (z i)
def un (z : Nat → Nat) (i v : Nat) : Nat → Nat := fun j => if j = i then v else z j
theorem un_s (z : Nat → Nat) (i v : Nat) : un z i v i = v := if_pos rfl
theorem un_n (z : Nat → Nat) {i j : Nat} (v : Nat) (h : j ≠ i) : un z i v j = z j := if_neg h
theorem LM.up {f : Nat → Int32} {z : Nat → Nat} (h : LM f z) {i : Nat} {v : Int32} {n : Nat} (hv : v = nI n) : LM (upd f i v) (un z i n) := by
  intro j hj
  unfold upd un
  by_cases e : j = i
  · rw [if_pos e, if_pos e, hv]
  · rw [if_neg e, if_neg e, h j hj]
theorem LM.cg {f : Nat → Int32} {z y : Nat → Nat} (h : LM f z) (e : ∀ i, i < 58 → z i = y i) : LM f y := fun i hi => by rw [h i hi, e i hi]
