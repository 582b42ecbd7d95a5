/-! ===== THE LITTLE MACHINE: a memory of ints over a layout that stands still, steps that are predicates, and what it says of the machine (the rows below prove it once for every method) ===== -/
abbrev Mm : Type := Nat → Nat → Int32
abbrev Ls : Type := List (Option Value)
abbrev Go : Type := Nat → Ls → List Value → Mm → Prop
abbrev Rt : Type := Option Value → Mm → Prop
abbrev Cm : Type := Nat → List Value → Mm → Rt → Prop
abbrev Sx : Type := Cm → Ls → List Value → Mm → Go → Rt → Prop
def up (μ : Mm) (k j : Nat) (v : Int32) : Mm := fun a => cond (Nat.beq a k) (upd (μ k) j v) (μ a)
def cpc (μ : Mm) (ka sp kb dp n : Nat) : Mm := fun a => cond (Nat.beq a kb) (va_cpy (μ ka) (μ kb) sp dp n) (μ a)
/-- the layout: which cell is what. lo: a cell's place within its Land -/
def nC : Nat := 291
def lo (k : Nat) : Nat := cond (Nat.ble 7 k && Nat.blt k 34) ((k - 7) % 9) (cond (Nat.ble 35 k && Nat.blt k 53) ((k - 35) % 9) (cond (Nat.ble 55 k && Nat.blt k 271) ((k - 55) % 9) 99))
def ob (k : Nat) : Nat := cond (Nat.beq (lo k) 0) 4 (cond (Nat.beq k 0) 7 (cond (Nat.beq k 1) 6 (cond (Nat.beq k 5) 5 (cond (Nat.beq k 53) 0 (cond (Nat.beq k 271 || Nat.beq k 272 || Nat.beq k 274) 2 (cond (Nat.beq k 273) 3 (cond (Nat.beq k 277) 1 (cond (Nat.beq k 279) 8 99))))))))
def ak (k : Nat) : Nat := cond (Nat.beq (ob k) 99 && Nat.blt k 291) (cond (Nat.beq k 34 || Nat.beq k 54) 3 (cond (Nat.beq k 288) 2 1)) 0
def al (k : Nat) : Nat := cond (Nat.blt (lo k) 99) (cond (Nat.ble (lo k) 2) 5 7) (cond (Nat.beq k 2) 320 (cond (Nat.beq k 3 || Nat.beq k 4) 8 (cond (Nat.beq k 6) 100 (cond (Nat.beq k 34) 2 (cond (Nat.beq k 54) 24 (cond (Nat.beq k 275 || Nat.beq k 276) 208 (cond (Nat.beq k 278) 16 (cond (Nat.beq k 280 || Nat.beq k 281) 8 (cond (Nat.beq k 282) 320 (cond (Nat.ble 283 k && Nat.ble k 285) 58 (cond (Nat.beq k 286) 1392 (cond (Nat.beq k 287) 100 (cond (Nat.beq k 288) 2 (cond (Nat.beq k 289) 116 16))))))))))))))
def rf (ci j : Nat) : Bool := cond (Nat.beq ci 8) (Nat.ble 2 j && Nat.ble j 8 || Nat.beq j 10 || Nat.ble 19 j && Nat.ble j 21) (cond (Nat.beq ci 7) (Nat.blt j 10) (cond (Nat.beq ci 4) (Nat.ble 7 j) (cond (Nat.beq ci 3) (Nat.blt j 3) (cond (Nat.beq ci 6) true (cond (Nat.beq ci 5) (Nat.blt j 2) (cond (Nat.beq ci 2) false (Nat.beq j 0)))))))
def tg (k j : Nat) : Nat := cond (Nat.beq (lo k) 0) (k + j - 6) (cond (Nat.beq k 54) (55 + 9 * j) (cond (Nat.beq k 34) (35 + 9 * j) (cond (Nat.beq k 0) (([1, 5, 16, 25, 34, 53, 271, 272, 273, 277] : List Nat).getD j 0) (cond (Nat.beq k 1) (2 + j) (cond (Nat.beq k 5) (6 + j) (cond (Nat.beq k 53) 54 (cond (Nat.beq k 273) (274 + j) (cond (Nat.beq k 277) 278 (([0, 0, 280, 281, 282, 283, 284, 285, 286, 0, 287, 0, 0, 0, 0, 0, 0, 0, 0, 288, 289, 290, 0] : List Nat).getD j 0))))))))) 
def nf (ci : Nat) : Nat := ([3, 6, 10, 5, 15, 10, 3, 11, 23] : List Nat).getD ci 0
/-- reading a stack, a local -/
def pI (st : List Value) (k : Int32 → List Value → Prop) : Prop := match st with
  | .int x :: r => k x r
  | _ => False
def pL (st : List Value) (k : Int64 → List Value → Prop) : Prop := match st with
  | .long x :: r => k x r
  | _ => False
def pR (st : List Value) (k : Nat → List Value → Prop) : Prop := match st with
  | .ref x :: r => k x r
  | _ => False
def pN (st : List Value) (k : Prop) : Prop := match st with
  | [] => k
  | _ => False
theorem pI_e {st : List Value} {k : Int32 → List Value → Prop} (h : pI st k) : ∃ x r, st = .int x :: r ∧ k x r := by
  unfold pI at h
  split at h
  · exact ⟨_, _, rfl, h⟩
  · exact h.elim
theorem pL_e {st : List Value} {k : Int64 → List Value → Prop} (h : pL st k) : ∃ x r, st = .long x :: r ∧ k x r := by
  unfold pL at h
  split at h
  · exact ⟨_, _, rfl, h⟩
  · exact h.elim
theorem pR_e {st : List Value} {k : Nat → List Value → Prop} (h : pR st k) : ∃ x r, st = .ref x :: r ∧ k x r := by
  unfold pR at h
  split at h
  · exact ⟨_, _, rfl, h⟩
  · exact h.elim
theorem pN_e {st : List Value} {k : Prop} (h : pN st k) : st = [] ∧ k := by
  unfold pN at h
  split at h
  · exact ⟨rfl, h⟩
  · exact h.elim
def lg : Ls → Nat → Option Value
  | [], _ => none
  | a :: _, 0 => a
  | _ :: r, i + 1 => lg r i
def oI (o : Option Value) (k : Int32 → Prop) : Prop := match o with
  | some (.int x) => k x
  | _ => False
def oL (o : Option Value) (k : Int64 → Prop) : Prop := match o with
  | some (.long x) => k x
  | _ => False
def oR (o : Option Value) (k : Nat → Prop) : Prop := match o with
  | some (.ref x) => k x
  | _ => False
theorem oI_e {o : Option Value} {k : Int32 → Prop} (h : oI o k) : ∃ x, o = some (.int x) ∧ k x := by
  unfold oI at h
  split at h
  · exact ⟨_, rfl, h⟩
  · exact h.elim
theorem oL_e {o : Option Value} {k : Int64 → Prop} (h : oL o k) : ∃ x, o = some (.long x) ∧ k x := by
  unfold oL at h
  split at h
  · exact ⟨_, rfl, h⟩
  · exact h.elim
theorem oR_e {o : Option Value} {k : Nat → Prop} (h : oR o k) : ∃ x, o = some (.ref x) ∧ k x := by
  unfold oR at h
  split at h
  · exact ⟨_, rfl, h⟩
  · exact h.elim
/-- a store into a local: one that held a long just ahead is gone -/
def kl (a : Option Value) : Option Value := match a with
  | some (.long _) => none
  | some (.double _) => none
  | x => x
def s1 : Ls → Nat → Value → Ls
  | [], _, _ => []
  | _ :: r, 0, v => some v :: r
  | a :: r, 1, v => kl a :: s1 r 0 v
  | a :: r, i + 2, v => a :: s1 r (i + 1) v
def hd0 : Ls → Ls
  | [] => []
  | _ :: r => none :: r
def s2 : Ls → Nat → Value → Ls
  | [], _, _ => []
  | _ :: r, 0, v => some v :: hd0 r
  | a :: r, 1, v => kl a :: s2 r 0 v
  | a :: r, i + 2, v => a :: s2 r (i + 1) v
def mkL : List Bool → Ls → Ls
  | b :: bs, x :: xs => cond b x none :: mkL bs xs
  | _, _ => []
def il : List Value → Ls
  | [] => []
  | .long x :: r => some (.long x) :: none :: il r
  | .double x :: r => some (.double x) :: none :: il r
  | v :: r => some v :: il r
/-- THE STEPS -/
def mF : Sx := fun _ _ _ _ _ _ => False
def mPush (v : Value) (nx : Nat) : Sx := fun _ L st μ go _ => go nx L (v :: st) μ
def mLdI (i nx : Nat) : Sx := fun _ L st μ go _ => oI (lg L i) fun x => go nx L (.int x :: st) μ
def mLdL (i nx : Nat) : Sx := fun _ L st μ go _ => oL (lg L i) fun x => go nx L (.long x :: st) μ
def mLdR (i nx : Nat) : Sx := fun _ L st μ go _ => oR (lg L i) fun x => go nx L (.ref x :: st) μ
def mStI (i nx : Nat) : Sx := fun _ L st μ go _ => pI st fun x r => go nx (s1 L i (.int x)) r μ
def mStR (i nx : Nat) : Sx := fun _ L st μ go _ => pR st fun x r => go nx (s1 L i (.ref x)) r μ
def mStL (i nx : Nat) : Sx := fun _ L st μ go _ => pL st fun x r => go nx (s2 L i (.long x)) r μ
def mInc (i : Nat) (n : Int32) (nx : Nat) : Sx := fun _ L st μ go _ => oI (lg L i) fun x => go nx (s1 L i (.int (x + n))) st μ
def mBin (f : Int32 → Int32 → Int32) (nx : Nat) : Sx := fun _ L st μ go _ => pI st fun y r => pI r fun x r => go nx L (.int (f x y) :: r) μ
def mDiv (f : Int32 → Int32 → Int32) (nx : Nat) : Sx := fun _ L st μ go _ => pI st fun y r => pI r fun x r => ¬ y = 0 ∧ go nx L (.int (f x y) :: r) μ
def mUn (f : Int32 → Int32) (nx : Nat) : Sx := fun _ L st μ go _ => pI st fun x r => go nx L (.int (f x) :: r) μ
def mI2L (nx : Nat) : Sx := fun _ L st μ go _ => pI st fun x r => go nx L (.long x.toInt64 :: r) μ
def mL2I (nx : Nat) : Sx := fun _ L st μ go _ => pL st fun x r => go nx L (.int x.toInt32 :: r) μ
def mLBin (f : Int64 → Int64 → Int64) (nx : Nat) : Sx := fun _ L st μ go _ => pL st fun y r => pL r fun x r => go nx L (.long (f x y) :: r) μ
def mLDiv (f : Int64 → Int64 → Int64) (nx : Nat) : Sx := fun _ L st μ go _ => pL st fun y r => pL r fun x r => ¬ y = 0 ∧ go nx L (.long (f x y) :: r) μ
def mLCmp (nx : Nat) : Sx := fun _ L st μ go _ => pL st fun y r => pL r fun x r => go nx L (.int (lg_cmp x y) :: r) μ
def mDupR (nx : Nat) : Sx := fun _ L st μ go _ => pR st fun x r => go nx L (.ref x :: .ref x :: r) μ
def mDupI (nx : Nat) : Sx := fun _ L st μ go _ => pI st fun x r => go nx L (.int x :: .int x :: r) μ
def mDup2 (nx : Nat) : Sx := fun _ L st μ go _ => pI st fun x r => pR r fun a r => go nx L (.int x :: .ref a :: .int x :: .ref a :: r) μ
def mIf (c : Int32 → Prop) (tgt nx : Nat) : Sx := fun _ L st μ go _ => pI st fun x r => (c x → go tgt L r μ) ∧ (¬ c x → go nx L r μ)
def mIfN (c : Int32 → Prop) (tgt nx : Nat) : Sx := fun _ L st μ go _ => pI st fun x r => (¬ c x → go tgt L r μ) ∧ (c x → go nx L r μ)
def mCp (c : Int32 → Int32 → Prop) (tgt nx : Nat) : Sx := fun _ L st μ go _ => pI st fun y r => pI r fun x r => (c x y → go tgt L r μ) ∧ (¬ c x y → go nx L r μ)
def mCpN (c : Int32 → Int32 → Prop) (tgt nx : Nat) : Sx := fun _ L st μ go _ => pI st fun y r => pI r fun x r => (¬ c x y → go tgt L r μ) ∧ (c x y → go nx L r μ)
def mGoto (tgt : Nat) : Sx := fun _ L st μ go _ => go tgt L st μ
def sw (x : Int32) (d : Nat) (g : Nat → Prop) : List (Int32 × Nat) → Prop
  | [] => g d
  | q :: qs => (x = q.1 → g q.2) ∧ (¬ x = q.1 → sw x d g qs)
def mSw (qs : List (Int32 × Nat)) (d : Nat) : Sx := fun _ L st μ go _ => pI st fun x r => sw x d (fun t => go t L r μ) qs
def mGetI (ci j nx : Nat) : Sx := fun _ L st μ go _ => pR st fun k r => cond (Nat.beq (ob k) ci) (go nx L (.int (μ k j) :: r) μ) False
def mGetR (ci j nx : Nat) : Sx := fun _ L st μ go _ => pR st fun k r => cond (Nat.beq (ob k) ci) (go nx L (.ref (tg k j) :: r) μ) False
def mPutI (ci j nx : Nat) : Sx := fun _ L st μ go _ => pI st fun v r => pR r fun k r => cond (Nat.beq (ob k) ci) (go nx L r (up μ k j v)) False
def mPutZ (ci j nx : Nat) : Sx := fun _ L st μ go _ => pI st fun v r => pR r fun k r => cond (Nat.beq (ob k) ci) ((v = 0 ∨ v = 1) ∧ go nx L r (up μ k j v)) False
def mALd (nx : Nat) : Sx := fun _ L st μ go _ => pI st fun i r => pR r fun k r => cond (Nat.beq (ak k) 1) (vp_in i (al k) ∧ go nx L (.int (μ k i.toNatClampNeg) :: r) μ) False
def mASt (nx : Nat) : Sx := fun _ L st μ go _ => pI st fun v r => pI r fun i r => pR r fun k r => cond (Nat.beq (ak k) 1) (vp_in i (al k) ∧ go nx L r (up μ k i.toNatClampNeg v)) False
def mZLd (nx : Nat) : Sx := fun _ L st μ go _ => pI st fun i r => pR r fun k r => cond (Nat.beq (ak k) 2) (vp_in i (al k) ∧ go nx L (.int (μ k i.toNatClampNeg) :: r) μ) False
def mZSt (nx : Nat) : Sx := fun _ L st μ go _ => pI st fun v r => pI r fun i r => pR r fun k r => cond (Nat.beq (ak k) 2) (vp_in i (al k) ∧ (v = 0 ∨ v = 1) ∧ go nx L r (up μ k i.toNatClampNeg v)) False
def mRLd (nx : Nat) : Sx := fun _ L st μ go _ => pI st fun i r => pR r fun k r => cond (Nat.beq (ak k) 3) (vp_in i (al k) ∧ go nx L (.ref (tg k i.toNatClampNeg) :: r) μ) False
def mLen (nx : Nat) : Sx := fun _ L st μ go _ => pR st fun k r => cond (Nat.beq (ak k) 1) (go nx L (.int (nI (al k)) :: r) μ) False
def mXLd (Lx : Nat) (xs : Nat → Int32) (nx : Nat) : Sx := fun _ L st μ go _ => pI st fun i r => pR r fun k r => cond (Nat.beq k 291) (vp_in i Lx ∧ go nx L (.int (xs i.toNatClampNeg) :: r) μ) False
def mXLen (Lx : Nat) (nx : Nat) : Sx := fun _ L st μ go _ => pR st fun k r => cond (Nat.beq k 291) (go nx L (.int (nI Lx) :: r) μ) False
/-- a call's answer, by its kind: none, an int, a long -/
def vN (v : Option Value) (k : Prop) : Prop := match v with
  | none => k
  | _ => False
def vI (v : Option Value) (k : Int32 → Prop) : Prop := match v with
  | some (.int x) => k x
  | _ => False
def vL (v : Option Value) (k : Int64 → Prop) : Prop := match v with
  | some (.long x) => k x
  | _ => False
def rV (K : Mm → Prop) : Rt := fun v μ => vN v (K μ)
def rI (K : Int32 → Mm → Prop) : Rt := fun v μ => vI v fun x => K x μ
def rL (K : Int64 → Mm → Prop) : Rt := fun v μ => vL v fun x => K x μ
def cV (C : Cm) (j : Nat) (a : List Value) (μ : Mm) (K : Mm → Prop) : Prop := C j a μ (rV K)
def cI (C : Cm) (j : Nat) (a : List Value) (μ : Mm) (K : Int32 → Mm → Prop) : Prop := C j a μ (rI K)
def cL (C : Cm) (j : Nat) (a : List Value) (μ : Mm) (K : Int64 → Mm → Prop) : Prop := C j a μ (rL K)
def cK (kd : Nat) (C : Cm) (j : Nat) (a : List Value) (μ : Mm) (G : List Value → Mm → Prop) : Prop := match kd with
  | 0 => cV C j a μ (fun μ' => G [] μ')
  | 1 => cI C j a μ (fun x μ' => G [.int x] μ')
  | _ => cL C j a μ (fun x μ' => G [.long x] μ')
theorem vN_e {v : Option Value} {k : Prop} (h : vN v k) : v = none ∧ k := by
  unfold vN at h
  split at h
  · exact ⟨rfl, h⟩
  · exact h.elim
theorem vI_e {v : Option Value} {k : Int32 → Prop} (h : vI v k) : ∃ x, v = some (.int x) ∧ k x := by
  unfold vI at h
  split at h
  · exact ⟨_, rfl, h⟩
  · exact h.elim
theorem vL_e {v : Option Value} {k : Int64 → Prop} (h : vL v k) : ∃ x, v = some (.long x) ∧ k x := by
  unfold vL at h
  split at h
  · exact ⟨_, rfl, h⟩
  · exact h.elim
theorem cK_u {kd : Nat} {C : Cm} {j : Nat} {a : List Value} {μ : Mm} {G : List Value → Mm → Prop} (h : cK kd C j a μ G) : ∃ Q' : Rt, C j a μ Q' ∧ ∀ v μ', Q' v μ' → G v.toList μ' := by
  unfold cK at h
  split at h
  · exact ⟨_, h, fun v μ' q => by obtain ⟨rfl, q⟩ := vN_e q; exact q⟩
  · exact ⟨_, h, fun v μ' q => by obtain ⟨x, rfl, q⟩ := vI_e q; exact q⟩
  · exact ⟨_, h, fun v μ' q => by obtain ⟨x, rfl, q⟩ := vL_e q; exact q⟩
theorem cK_mono {kd : Nat} {C : Cm} (hm : ∀ j a μ (Q Q' : Rt), (∀ v μ, Q v μ → Q' v μ) → C j a μ Q → C j a μ Q') {j : Nat} {a : List Value} {μ : Mm} {G G' : List Value → Mm → Prop} (hG : ∀ vs μ, G vs μ → G' vs μ) (h : cK kd C j a μ G) : cK kd C j a μ G' := by
  unfold cK at h ⊢
  split
  · exact hm _ _ _ _ _ (fun v μ q => by obtain ⟨rfl, q⟩ := vN_e q; exact hG _ _ q) h
  · exact hm _ _ _ _ _ (fun v μ q => by obtain ⟨x, rfl, q⟩ := vI_e q; exact hG _ _ q) h
  · rename_i h3 h4
    split at h
    · exact absurd rfl h3
    · exact absurd rfl h4
    · exact hm _ _ _ _ _ (fun v μ q => by obtain ⟨x, rfl, q⟩ := vL_e q; exact hG _ _ q) h
def mCallS (kd j n nx : Nat) : Sx := fun CM L st μ go _ => cond (Nat.beq (st.take n).length n && Nat.ble (st.drop n).length 4) (cK kd CM j (st.take n).reverse μ fun vs μ' => go nx L (vs ++ st.drop n) μ') False
def mCallV (kd j n ci nx : Nat) : Sx := fun CM L st μ go _ => cond (Nat.beq (st.take n).length n) (pR (st.drop n) fun k r => cond (Nat.beq (ob k) ci && Nat.ble r.length 4) (cK kd CM j (.ref k :: (st.take n).reverse) μ fun vs μ' => go nx L (vs ++ r) μ') False) False
def mCpy (nx : Nat) : Sx := fun _ L st μ go _ => pI st fun n r => pI r fun dp r => pR r fun kb r => pI r fun sp r => pR r fun ka r => cond (Nat.beq (ak ka) 1 && Nat.beq (ak kb) 1 && Nat.ble r.length 4) (¬ sp < 0 ∧ ¬ dp < 0 ∧ ¬ n < 0 ∧ sp.toNatClampNeg + n.toNatClampNeg ≤ al ka ∧ dp.toNatClampNeg + n.toNatClampNeg ≤ al kb ∧ go nx L r (cpc μ ka sp.toNatClampNeg kb dp.toNatClampNeg n.toNatClampNeg)) False
def mMax (nx : Nat) : Sx := fun _ L st μ go _ => pI st fun y r => pI r fun x r => cond (Nat.ble r.length 4) (go nx L (.int (if x < y then y else x) :: r) μ) False
def mMin (nx : Nat) : Sx := fun _ L st μ go _ => pI st fun y r => pI r fun x r => cond (Nat.ble r.length 4) (go nx L (.int (if y < x then y else x) :: r) μ) False
def mRI : Sx := fun _ _ st μ _ ret => pI st fun x r => pN r (ret (some (.int x)) μ)
def mRZ : Sx := fun _ _ st μ _ ret => pI st fun x r => pN r ((x = 0 ∨ x = 1) ∧ ret (some (.int x)) μ)
def mRL : Sx := fun _ _ st μ _ ret => pL st fun x r => pN r (ret (some (.long x)) μ)
def mRV : Sx := fun _ _ st μ _ ret => pN st (ret none μ)
/-- a table of steps, by place; a run to the next cut; all that it comes to -/
def nd (c : Nat) (a b : Nat → Sx) : Nat → Sx := fun pc => cond (Nat.ble c pc) (b pc) (a pc)
def lf (c : Nat) (f : Sx) : Nat → Sx := fun pc => cond (Nat.beq pc c) f mF
def gc (o : Option (List Bool)) (a : List Bool → Prop) (b : Prop) : Prop := match o with
  | some kb => a kb
  | none => b
def ctl : List (Nat × List Bool) → Nat → Option (List Bool)
  | [], _ => none
  | q :: qs, pc => cond (Nat.beq q.1 pc) (some q.2) (ctl qs pc)
def rn (tb : Nat → Sx) (ct : List (Nat × List Bool)) (CM : Cm) (ret : Rt) (X : Go) : Nat → Nat → Ls → List Value → Mm → Prop
  | 0, _, _, _, _ => False
  | k + 1, pc, L, st, μ => tb pc CM L st μ (fun pc' L' st' μ' => gc (ctl ct pc') (fun kb => X pc' (mkL kb L') st' μ') (rn tb ct CM ret X k pc' L' st' μ')) ret
def Rc (tb : Nat → Sx) (ct : List (Nat × List Bool)) (CM : Cm) (ret : Rt) (pc : Nat) (L : Ls) (st : List Value) (μ : Mm) : Prop :=
  ∀ X : Go, (∀ pc L st μ, rn tb ct CM ret X 400 pc L st μ → X pc L st μ) → X pc L st μ
