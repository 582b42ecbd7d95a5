theorem arrV_cong {c : ClassId} {n : Nat} {f g : Nat → Value} (h : ∀ j, j < n → f j = g j) : arrV c n f = arrV c n g := by
  unfold arrV
  congr 1
  apply Array.ext
  · simp
  · intro i h1 h2
    simp only [Array.getElem_ofFn]
    exact h i (by simpa using h1)
/-- what lies behind an array's end doesn't count -/
theorem Cw.arrq {w : Wp} {H0 : Heap} {a k n : Nat} {c : ClassId} {f g : Nat → Option Nat} {X : List (Nat × va_E)} {H : Heap} {locs : List Loc} (h : Cw w H0 a ((k, .inl (c, n, .inr (.inr (.inr (.inr f))))) :: X) H locs) (hfg : ∀ j, j < n → f j = g j) : Cw w H0 a ((k, .inl (c, n, .inr (.inr (.inr (.inr g))))) :: X) H locs := by
  refine ⟨fun i q hq => ?_, h.2⟩
  have hi : i < a := by
    have := (List.getElem?_eq_some_iff.mp hq).1
    simpa [cw] using this
  have h1 := h.1 i _ (cw_get w _ hi)
  rw [cw_get w _ hi] at hq
  cases hq
  by_cases e : k = i
  · subst e
    rw [gx_s] at h1 ⊢
    show H[w.2.1 + k]? = some (vp_cell c (n, .inr (.inr (.inr (.inr g)))))
    rw [vp_cell_q, ← arrV_cong (f := fun j => va_rf (f j)) (fun j hj => by rw [hfg j hj])]
    exact h1
  · rw [gx_n e] at h1 ⊢
    exact h1
theorem acts_lay : ∀ i, i < 24 → lo (55 + 9 * i) = 0 ∧ 55 + 9 * i < 291 ∧ ob (55 + 9 * i) = 4 := by decide +kernel
def fA (w : Wp) (b i : Nat) : Nat → Option Nat := fun j => if j < i then some (w.2.1 + (b + 9 * j)) else none
theorem fA_s (w : Wp) (b i : Nat) : va_up (fA w b i) i (some (w.2.1 + (b + 9 * i))) = fA w b (i + 1) := by
  funext j
  unfold va_up fA
  by_cases h : j = i
  · subst h
    rw [if_pos rfl, if_pos (Nat.lt_succ_self j)]
  · rw [if_neg h]
    by_cases h2 : j < i
    · rw [if_pos h2, if_pos (Nat.lt_succ_of_lt h2)]
    · rw [if_neg h2, if_neg (by omega)]
theorem fA_0 (w : Wp) (b : Nat) : fA w b 0 = fun _ => none := rfl

set_option maxRecDepth 100000 in
set_option maxHeartbeats 4000000 in
theorem c_X0_init (l : Launch) (w : Wp) (X : List (Nat × va_E)) (hX : ∀ q, 53 < q → xl X q = none) (he : gx w X 53 = .inr (0, [.null, .int 0, .int 0])) : Met l yX0_init (.code yX0_init cX0_init 2 none :: tW) ({ frames := 3, cells := 217, slots := 1632, locals := 100 }) (Pk w [.ref (w.2.1 + 53)] (54) X) (Qk w (271) ((53, ent w (μ0 53) 53) :: X)) 217 1632 (fun q => w.2.1 ≤ q) := by
  refine mk_met (by decide) ?_ (by decide)
  intro p e s m args below meth c ls M hin hsz hl hC hret
  have hC := hC.intro he
  refine lv_aload_n M.1 M.2.1 dX0_init_0 rfl (lv_at hl 0 rfl) ?_
  refine mk_super M hl mv_1_182 mv_1_18 mv_1_19 (by decide) (by decide) dX0_init_1 ?_
  refine lv_aload_n M.1 M.2.1 dX0_init_4 rfl (lv_at hl 0 rfl) ?_
  refine lv_bipush (v := 24) M.1 M.2.1 dX0_init_5 (by decide) ?_
  refine mk_newq (n := 24) (N := 24) M (by omega) hC mv_1_183 (by decide) rfl (by decide) (by decide) (by decide) dX0_init_7 (fun H hC => ?_)
  refine mk_put (k := 53) M hin hC (by decide) (by rw [gx_n (by decide), gx_s]) (T := TX0) rfl uw_0 tyX0 tyX0_ok nmX0 (j := 0) (by decide) mv_1_185 rfl rfl rfl (Or.inr ⟨_, rfl⟩) (Nat.le_of_ble_eq_true rfl) dX0_init_10 (fun H locs hC => ?_)
  refine lv_iconst (v := 0) M.1 M.2.1 dX0_init_13 (by decide) ?_
  refine lv_istore_n (lv' := [(1, .int 0), (0, .ref (w.2.1 + 53))]) M.1 M.2.1 dX0_init_14 rfl hl (by decide) rfl (fun ls hl => ?_)
  have hC : Cw w s.heap (55 + 9 * 0) ((54, .inl (w.2.2.2.2.2, 24, .inr (.inr (.inr (.inr (fA w 55 0)))))) :: (53, .inr (0, [.ref (w.2.1 + 54), .int 0, .int 0])) :: X) H locs := hC.eq fun q hq => by
    by_cases h1 : 53 = q
    · subst h1
      rw [gx_s, gx_n (by decide), gx_s]
      rfl
    · rw [gx_n h1]
      by_cases h2 : 54 = q
      · subst h2
        rw [gx_s, gx_s]
        rfl
      · rw [gx_n h2, gx_n h2, gx_n h1, gx_n h1]
  have key : ∀ n i : Nat, i + n = 24 → ∀ (H : Heap) (locs : List Loc) (ls : Array Slot), lv_has ls 2 [(1, .int (nI i)), (0, .ref (w.2.1 + 53))] → Cw w s.heap (55 + 9 * i) ((54, .inl (w.2.2.2.2.2, 24, .inr (.inr (.inr (.inr (fA w 55 i)))))) :: (53, .inr (0, [.ref (w.2.1 + 54), .int 0, .int 0])) :: X) H locs → W p l e ({ frames := 3, cells := 217, slots := 1632, locals := 100 }) s m args below meth c H locs (1 + 9 * i) (24 + 67 * i) (MQ below (Qk w 271 ((53, ent w (μ0 53) 53) :: X)) args s 217 1632 (fun q => w.2.1 ≤ q)) (F0 m 15 ls []) := by
    intro n
    induction n with
    | zero =>
      intro i hi H locs ls hl hC
      obtain rfl : i = 24 := by omega
      refine lv_iload_n M.1 M.2.1 dX0_init_15 rfl (lv_at hl 0 rfl) ?_
      refine lv_bipush (v := 24) M.1 M.2.1 dX0_init_16 (by decide) ?_
      refine lv_icmp_ge (tgt := 40) M.1 M.2.1 dX0_init_18 (by decide) (fun _ => ?_) (fun c9 => absurd (by decide) c9)
      have hC := hC.arrq (g := fun j => some (rr w (tg 54 j))) (fun j hj => by
        unfold fA
        rw [if_pos hj]
        show some (w.2.1 + (55 + 9 * j)) = some (rr w (55 + 9 * j))
        rw [rr_lt w (by omega)])
      refine hret _ _ _ _ (hC.eq fun q hq => ?_) dX0_init_40
      by_cases h2 : 54 = q
      · subst h2
        rw [gx_s, gx_n (by decide), gx_0 (hX _ (by decide))]
        rfl
      · rw [gx_n h2]
        rfl
    | succ n ih =>
      intro i hi H locs ls hl hC
      obtain ⟨hl1, hl2, hl3⟩ := acts_lay i (by omega)
      refine lv_iload_n M.1 M.2.1 dX0_init_15 rfl (lv_at hl 0 rfl) ?_
      refine lv_bipush (v := 24) M.1 M.2.1 dX0_init_16 (by decide) ?_
      refine lv_icmp_ge (tgt := 40) M.1 M.2.1 dX0_init_18 (by decide) (fun c9 => absurd c9 (nI_ge (a := i) (b := 24) (by omega) (by decide))) (fun _ => ?_)
      refine lv_aload_n M.1 M.2.1 dX0_init_21 rfl (lv_at hl 1 rfl) ?_
      refine mk_get (k := 53) M hC (by omega) (by rw [gx_n (by decide), gx_s]) (T := TX0) rfl uw_0 (j := 0) (by decide) mv_1_185 rfl dX0_init_22 ?_
      refine lv_iload_n M.1 M.2.1 dX0_init_25 rfl (lv_at hl 0 rfl) ?_
      refine mk_new (a := 55 + 9 * i) M (by omega) hC (ci := 4) (T := TX4) (fs := [.int 0, .int 0, .int 0, .int 0, .int 0, .int 0, .int 0, .null, .null, .null, .null, .null, .null, .null, .null]) rfl uw_4 tyX4 tyX4_ok mv_1_183 mv_1_44 mv_1_4 (fun j hj => by rcases (show j = 0 ∨ j = 1 ∨ j = 2 ∨ j = 3 ∨ j = 4 ∨ j = 5 ∨ j = 6 ∨ j = 7 ∨ j = 8 ∨ j = 9 ∨ j = 10 ∨ j = 11 ∨ j = 12 ∨ j = 13 ∨ j = 14 by omega) with rfl | rfl | rfl | rfl | rfl | rfl | rfl | rfl | rfl | rfl | rfl | rfl | rfl | rfl | rfl <;> rfl) (by show 1 + 9 * i + 1 ≤ 217; omega) (by show 24 + 67 * i + 15 ≤ 1632; omega) dX0_init_26 (fun H hC => ?_)
      refine lv_dup M.1 M.2.1 dX0_init_29 rfl ?_
      refine mk_callN (y := yX4_init) (bytes := cX4_init) (X2 := _) M (by omega) hl hC (c_X4_init l w (55 + 9 * i) _ hl1 hl2 (xl_up (xl_up (xl_up (fun q hq => hX q (by omega)) _ (by omega)) _ (by omega)) _ (by omega)) gx_s) (by omega) rfl rfl (List.mem_of_getElem? (i := 5) rfl) mv_1_46 mv_1_47 mv_1_4 rfl (by decide +kernel) ⟨by decide, by decide⟩ ⟨by show 1 + 9 * i + 1 + 8 ≤ 217; omega, by show 24 + 67 * i + 15 + 52 ≤ 1632; omega⟩ (Nat.le_of_ble_eq_true rfl) dX0_init_30 (fun H locs hC => ?_)
      refine mk_astq (k := 54) (v := 55 + 9 * i) M hC (by omega) (by rw [gx_n (by omega), gx_n (by omega), gx_s]) (by omega) (by rw [gx_s, ent_o w _ hl3 (by decide)]) (vp_in_nI (by omega) (by decide)) dX0_init_33 (fun H locs hC => ?_)
      rw [nI_clamp (by omega), fA_s] at hC
      refine lv_iinc (v := nI (i + 1)) (lv' := [(1, .int (nI (i + 1))), (0, .ref (w.2.1 + 53))]) M.1 M.2.1 dX0_init_34 hl (k := 0) rfl (nI_1 i) (by decide) rfl (fun ls hl => ?_)
      refine lv_goto (tgt := 15) M.1 M.2.1 dX0_init_37 (by decide) ?_
      have hC : Cw w s.heap (55 + 9 * (i + 1)) ((54, .inl (w.2.2.2.2.2, 24, .inr (.inr (.inr (.inr (fA w 55 (i + 1))))))) :: (53, .inr (0, [.ref (w.2.1 + 54), .int 0, .int 0])) :: X) H locs := hC.eq fun q hq => by
        by_cases h2 : 54 = q
        · subst h2
          rw [gx_s, gx_s]
        · rw [gx_n h2, gx_n h2]
          by_cases h3 : 55 + 9 * i = q
          · subst h3
            rw [gx_s, gx_n (by omega), gx_0 (hX _ (by omega))]
          · rw [gx_n h3, gx_n h3, gx_n h2]
      have h9 := ih (i + 1) (by omega) H locs ls hl hC
      rw [show 1 + 9 * (i + 1) = 1 + 9 * i + 1 + 8 by omega, show 24 + 67 * (i + 1) = 24 + 67 * i + 15 + 52 by omega] at h9
      exact h9
  exact key 24 0 rfl H locs ls hl hC

set_option maxRecDepth 100000 in
set_option maxHeartbeats 4000000 in
theorem c_X7_init (l : Launch) (w : Wp) (X : List (Nat × va_E)) (hX : ∀ q, 0 < q → xl X q = none) (he : gx w X 0 = .inr (7, [.null, .null, .null, .null, .null, .null, .null, .null, .null, .null, .int 0])) : Met l yX7_init (.code yX7_init cX7_init 2 none :: tW) ({ frames := 5, cells := 278, slots := 2894, locals := 200 }) (Pk w [.ref (w.2.1 + 0)] (1) X) (Qk w (279) ((0, ent w (μ0 0) 0) :: X)) 278 2894 (fun q => w.2.1 ≤ q) := by
  refine mk_met (by decide) ?_ (by decide)
  intro p e s m args below meth c ls M hin hsz hl hC hret
  have hC := hC.intro he
  refine lv_aload_n M.1 M.2.1 dX7_init_0 rfl (lv_at hl 0 rfl) ?_
  refine mk_super M hl mv_1_17 mv_1_18 mv_1_19 (by decide) (by decide) dX7_init_1 ?_
  refine mk_obj (k := 0) (a := 1) (a2 := 5) (mc := 3) (ms := 336) M hin (by omega) hl (lv_at hl 0 rfl) hC (by omega) (T := TX7) rfl uw_7 tyX7 tyX7_ok nmX7 0 (by decide) mv_2_61 rfl rfl rfl (Or.inl ⟨_, rfl⟩) (Nat.le_of_ble_eq_true rfl) (ci2 := 6) (T2 := TX6) (fs2 := [.null, .null, .null]) rfl uw_6 tyX6 tyX6_ok mv_1_20 mv_1_21 mv_1_2 (fun j hj => by rcases (show j = 0 ∨ j = 1 ∨ j = 2 by omega) with rfl | rfl | rfl <;> rfl) (by decide) (by decide) (fun q hq => hX q (by omega)) (by omega) dX7_init_4 dX7_init_5 dX7_init_8 dX7_init_12 (fun {H locs} hC kk => ?_) (fun H locs hC => ?_)
  · exact mk_call (y := yX6_init) (bytes := cX6_init) (X2 := _) M (by omega) hl hC (c_X6_init l w _ (xl_up (xl_up (fun q hq => hX q (by omega)) _ (by decide)) _ (by decide)) gx_s) (by omega) rfl rfl mv_1_22 mv_1_23 mv_1_24 mv_1_2 rfl (by decide +kernel) ⟨by decide, by decide⟩ ⟨by decide, by decide⟩ (Nat.le_of_ble_eq_true rfl) dX7_init_9 kk
  refine mk_obj (k := 0) (a := 5) (a2 := 16) (mc := 10) (ms := 167) M hin (by omega) hl (lv_at hl 0 rfl) hC (by omega) (T := TX7) rfl uw_7 tyX7 tyX7_ok nmX7 1 (by decide) mv_2_62 rfl rfl rfl (Or.inl ⟨_, rfl⟩) (Nat.le_of_ble_eq_true rfl) (ci2 := 5) (T2 := TX5) (fs2 := [.null, .null, .int 0, .int 0, .int 0, .int 0, .int 0, .int 0, .int 0, .int 0]) rfl uw_5 tyX5 tyX5_ok mv_1_37 mv_1_38 mv_1_3 (fun j hj => by rcases (show j = 0 ∨ j = 1 ∨ j = 2 ∨ j = 3 ∨ j = 4 ∨ j = 5 ∨ j = 6 ∨ j = 7 ∨ j = 8 ∨ j = 9 by omega) with rfl | rfl | rfl | rfl | rfl | rfl | rfl | rfl | rfl | rfl <;> rfl) (by decide) (by decide) (fun q hq => hX q (by omega)) (by omega) dX7_init_15 dX7_init_16 dX7_init_19 dX7_init_23 (fun {H locs} hC kk => ?_) (fun H locs hC => ?_)
  · exact mk_callN (y := yX5_init) (bytes := cX5_init) (X2 := _) M (by omega) hl hC (c_X5_init l w _ (xl_up (xl_up (fun q hq => hX q (by omega)) _ (by decide)) _ (by decide)) gx_s) (by omega) rfl rfl (List.mem_of_getElem? (i := 0) rfl) mv_1_40 mv_1_41 mv_1_3 rfl (by decide +kernel) ⟨by decide, by decide⟩ ⟨by decide, by decide⟩ (Nat.le_of_ble_eq_true rfl) dX7_init_20 kk
  refine mk_obj (k := 0) (a := 16) (a2 := 25) (mc := 8) (ms := 52) M hin (by omega) hl (lv_at hl 0 rfl) hC (by omega) (T := TX7) rfl uw_7 tyX7 tyX7_ok nmX7 2 (by decide) mv_2_63 rfl rfl rfl (Or.inl ⟨_, rfl⟩) (Nat.le_of_ble_eq_true rfl) (ci2 := 4) (T2 := TX4) (fs2 := [.int 0, .int 0, .int 0, .int 0, .int 0, .int 0, .int 0, .null, .null, .null, .null, .null, .null, .null, .null]) rfl uw_4 tyX4 tyX4_ok mv_1_174 mv_1_44 mv_1_4 (fun j hj => by rcases (show j = 0 ∨ j = 1 ∨ j = 2 ∨ j = 3 ∨ j = 4 ∨ j = 5 ∨ j = 6 ∨ j = 7 ∨ j = 8 ∨ j = 9 ∨ j = 10 ∨ j = 11 ∨ j = 12 ∨ j = 13 ∨ j = 14 by omega) with rfl | rfl | rfl | rfl | rfl | rfl | rfl | rfl | rfl | rfl | rfl | rfl | rfl | rfl | rfl <;> rfl) (by decide) (by decide) (fun q hq => hX q (by omega)) (by omega) dX7_init_26 dX7_init_27 dX7_init_30 dX7_init_34 (fun {H locs} hC kk => ?_) (fun H locs hC => ?_)
  · exact mk_callN (y := yX4_init) (bytes := cX4_init) (X2 := _) M (by omega) hl hC (c_X4_init l w 16 _ (by decide) (by decide) (xl_up (xl_up (fun q hq => hX q (by omega)) _ (by decide)) _ (by decide)) gx_s) (by omega) rfl rfl (List.mem_of_getElem? (i := 1) rfl) mv_1_46 mv_1_47 mv_1_4 rfl (by decide +kernel) ⟨by decide, by decide⟩ ⟨by decide, by decide⟩ (Nat.le_of_ble_eq_true rfl) dX7_init_31 kk
  refine mk_obj (k := 0) (a := 25) (a2 := 34) (mc := 8) (ms := 52) M hin (by omega) hl (lv_at hl 0 rfl) hC (by omega) (T := TX7) rfl uw_7 tyX7 tyX7_ok nmX7 3 (by decide) mv_2_64 rfl rfl rfl (Or.inl ⟨_, rfl⟩) (Nat.le_of_ble_eq_true rfl) (ci2 := 4) (T2 := TX4) (fs2 := [.int 0, .int 0, .int 0, .int 0, .int 0, .int 0, .int 0, .null, .null, .null, .null, .null, .null, .null, .null]) rfl uw_4 tyX4 tyX4_ok mv_1_174 mv_1_44 mv_1_4 (fun j hj => by rcases (show j = 0 ∨ j = 1 ∨ j = 2 ∨ j = 3 ∨ j = 4 ∨ j = 5 ∨ j = 6 ∨ j = 7 ∨ j = 8 ∨ j = 9 ∨ j = 10 ∨ j = 11 ∨ j = 12 ∨ j = 13 ∨ j = 14 by omega) with rfl | rfl | rfl | rfl | rfl | rfl | rfl | rfl | rfl | rfl | rfl | rfl | rfl | rfl | rfl <;> rfl) (by decide) (by decide) (fun q hq => hX q (by omega)) (by omega) dX7_init_37 dX7_init_38 dX7_init_41 dX7_init_45 (fun {H locs} hC kk => ?_) (fun H locs hC => ?_)
  · exact mk_callN (y := yX4_init) (bytes := cX4_init) (X2 := _) M (by omega) hl hC (c_X4_init l w 25 _ (by decide) (by decide) (xl_up (xl_up (fun q hq => hX q (by omega)) _ (by decide)) _ (by decide)) gx_s) (by omega) rfl rfl (List.mem_of_getElem? (i := 1) rfl) mv_1_46 mv_1_47 mv_1_4 rfl (by decide +kernel) ⟨by decide, by decide⟩ ⟨by decide, by decide⟩ (Nat.le_of_ble_eq_true rfl) dX7_init_42 kk
  refine lv_aload_n M.1 M.2.1 dX7_init_48 rfl (lv_at hl 0 rfl) ?_
  refine lv_iconst (v := 2) M.1 M.2.1 dX7_init_49 (by decide) ?_
  refine mk_newq (n := 2) (N := 2) (a := 34) M (by omega) hC mv_1_174 (by decide) rfl (by decide) (by decide) (by decide) dX7_init_50 (fun H hC => ?_)
  refine mk_put (k := 0) M hin hC (by decide) (by rw [gx_n (by decide), gx_s]) (T := TX7) rfl uw_7 tyX7 tyX7_ok nmX7 (j := 4) (by decide) mv_2_65 rfl rfl rfl (Or.inr ⟨_, rfl⟩) (Nat.le_of_ble_eq_true rfl) dX7_init_53 (fun H locs hC => ?_)
  have hC : Cw w s.heap 35 ((34, .inl (w.2.2.2.2.2, 2, .inr (.inr (.inr (.inr (fA w 35 0)))))) :: (0, .inr (7, [.ref (w.2.1 + 1), .ref (w.2.1 + 5), .ref (w.2.1 + 16), .ref (w.2.1 + 25), .ref (w.2.1 + 34), .null, .null, .null, .null, .null, .int 0])) :: X) H locs := hC.eq fun q hq => by
    by_cases h1 : 0 = q
    · subst h1
      rw [gx_s, gx_n (by decide), gx_s]
      rfl
    · rw [gx_n h1]
      by_cases h2 : 34 = q
      · subst h2
        rw [gx_s, gx_s]
        rfl
      · rw [gx_n h2, gx_n h2, gx_n h1, gx_n h1]
  refine lv_iconst (v := 0) M.1 M.2.1 dX7_init_56 (by decide) ?_
  refine lv_istore_n (lv' := [(1, .int 0), (0, .ref (w.2.1 + 0))]) M.1 M.2.1 dX7_init_57 rfl hl (by decide) rfl (fun ls hl => ?_)
  refine lv_iload_n M.1 M.2.1 dX7_init_58 rfl (lv_at hl 0 rfl) ?_
  refine lv_iconst (v := 2) M.1 M.2.1 dX7_init_59 (by decide) ?_
  refine lv_icmp_ge (tgt := 82) M.1 M.2.1 dX7_init_60 (by decide) (fun c9 => absurd c9 (by decide)) (fun _ => ?_)
  refine lv_aload_n M.1 M.2.1 dX7_init_63 rfl (lv_at hl 1 rfl) ?_
  refine mk_get (k := 0) M hC (by decide) (by rw [gx_n (by decide), gx_s]) (T := TX7) rfl uw_7 (j := 4) (by decide) mv_2_65 rfl dX7_init_64 ?_
  refine lv_iload_n M.1 M.2.1 dX7_init_67 rfl (lv_at hl 0 rfl) ?_
  refine mk_new (a := 35) M (by omega) hC (ci := 4) (T := TX4) (fs := [.int 0, .int 0, .int 0, .int 0, .int 0, .int 0, .int 0, .null, .null, .null, .null, .null, .null, .null, .null]) rfl uw_4 tyX4 tyX4_ok mv_1_174 mv_1_44 mv_1_4 (fun j hj => by rcases (show j = 0 ∨ j = 1 ∨ j = 2 ∨ j = 3 ∨ j = 4 ∨ j = 5 ∨ j = 6 ∨ j = 7 ∨ j = 8 ∨ j = 9 ∨ j = 10 ∨ j = 11 ∨ j = 12 ∨ j = 13 ∨ j = 14 by omega) with rfl | rfl | rfl | rfl | rfl | rfl | rfl | rfl | rfl | rfl | rfl | rfl | rfl | rfl | rfl <;> rfl) (by decide) (by decide) dX7_init_68 (fun H hC => ?_)
  refine lv_dup M.1 M.2.1 dX7_init_71 rfl ?_
  refine mk_callN (y := yX4_init) (bytes := cX4_init) (X2 := _) M (by omega) hl hC (c_X4_init l w 35 _ (by decide) (by decide) (xl_up (xl_up (xl_up (fun q hq => hX q (by omega)) _ (by decide)) _ (by decide)) _ (by decide)) gx_s) (by omega) rfl rfl (List.mem_of_getElem? (i := 1) rfl) mv_1_46 mv_1_47 mv_1_4 rfl (by decide +kernel) ⟨by decide, by decide⟩ ⟨by decide, by decide⟩ (Nat.le_of_ble_eq_true rfl) dX7_init_72 (fun H locs hC => ?_)
  refine mk_astq (k := 34) (v := 35) M hC (by decide) (by rw [gx_n (by decide), gx_n (by decide), gx_s]) (by decide) (by rw [gx_s, ent_o w _ (show ob 35 = 4 from rfl) (by decide)]) (by unfold vp_in; decide) dX7_init_75 (fun H locs hC => ?_)
  have hC : Cw w s.heap 44 ((34, .inl (w.2.2.2.2.2, 2, .inr (.inr (.inr (.inr (fA w 35 1)))))) :: (0, .inr (7, [.ref (w.2.1 + 1), .ref (w.2.1 + 5), .ref (w.2.1 + 16), .ref (w.2.1 + 25), .ref (w.2.1 + 34), .null, .null, .null, .null, .null, .int 0])) :: X) H locs := hC.eq fun q hq => by
    by_cases h2 : 34 = q
    · subst h2
      rw [gx_s, gx_s, ← fA_s w 35 0]
      rfl
    · rw [gx_n h2, gx_n h2]
      by_cases h3 : 35 = q
      · subst h3
        rw [gx_s, gx_n (by decide), gx_0 (hX _ (by decide))]
      · rw [gx_n h3, gx_n h3, gx_n h2]
  refine lv_iinc (v := 1) (lv' := [(1, .int 1), (0, .ref (w.2.1 + 0))]) M.1 M.2.1 dX7_init_76 hl (k := 0) rfl (by decide) (by decide) rfl (fun ls hl => ?_)
  refine lv_goto (tgt := 58) M.1 M.2.1 dX7_init_79 (by decide) ?_
  refine lv_iload_n M.1 M.2.1 dX7_init_58 rfl (lv_at hl 0 rfl) ?_
  refine lv_iconst (v := 2) M.1 M.2.1 dX7_init_59 (by decide) ?_
  refine lv_icmp_ge (tgt := 82) M.1 M.2.1 dX7_init_60 (by decide) (fun c9 => absurd c9 (by decide)) (fun _ => ?_)
  refine lv_aload_n M.1 M.2.1 dX7_init_63 rfl (lv_at hl 1 rfl) ?_
  refine mk_get (k := 0) M hC (by decide) (by rw [gx_n (by decide), gx_s]) (T := TX7) rfl uw_7 (j := 4) (by decide) mv_2_65 rfl dX7_init_64 ?_
  refine lv_iload_n M.1 M.2.1 dX7_init_67 rfl (lv_at hl 0 rfl) ?_
  refine mk_new (a := 44) M (by omega) hC (ci := 4) (T := TX4) (fs := [.int 0, .int 0, .int 0, .int 0, .int 0, .int 0, .int 0, .null, .null, .null, .null, .null, .null, .null, .null]) rfl uw_4 tyX4 tyX4_ok mv_1_174 mv_1_44 mv_1_4 (fun j hj => by rcases (show j = 0 ∨ j = 1 ∨ j = 2 ∨ j = 3 ∨ j = 4 ∨ j = 5 ∨ j = 6 ∨ j = 7 ∨ j = 8 ∨ j = 9 ∨ j = 10 ∨ j = 11 ∨ j = 12 ∨ j = 13 ∨ j = 14 by omega) with rfl | rfl | rfl | rfl | rfl | rfl | rfl | rfl | rfl | rfl | rfl | rfl | rfl | rfl | rfl <;> rfl) (by decide) (by decide) dX7_init_68 (fun H hC => ?_)
  refine lv_dup M.1 M.2.1 dX7_init_71 rfl ?_
  refine mk_callN (y := yX4_init) (bytes := cX4_init) (X2 := _) M (by omega) hl hC (c_X4_init l w 44 _ (by decide) (by decide) (xl_up (xl_up (xl_up (fun q hq => hX q (by omega)) _ (by decide)) _ (by decide)) _ (by decide)) gx_s) (by omega) rfl rfl (List.mem_of_getElem? (i := 1) rfl) mv_1_46 mv_1_47 mv_1_4 rfl (by decide +kernel) ⟨by decide, by decide⟩ ⟨by decide, by decide⟩ (Nat.le_of_ble_eq_true rfl) dX7_init_72 (fun H locs hC => ?_)
  refine mk_astq (k := 34) (v := 44) M hC (by decide) (by rw [gx_n (by decide), gx_n (by decide), gx_s]) (by decide) (by rw [gx_s, ent_o w _ (show ob 44 = 4 from rfl) (by decide)]) (by unfold vp_in; decide) dX7_init_75 (fun H locs hC => ?_)
  have hC : Cw w s.heap 53 ((34, .inl (w.2.2.2.2.2, 2, .inr (.inr (.inr (.inr (fA w 35 2)))))) :: (0, .inr (7, [.ref (w.2.1 + 1), .ref (w.2.1 + 5), .ref (w.2.1 + 16), .ref (w.2.1 + 25), .ref (w.2.1 + 34), .null, .null, .null, .null, .null, .int 0])) :: X) H locs := hC.eq fun q hq => by
    by_cases h2 : 34 = q
    · subst h2
      rw [gx_s, gx_s, ← fA_s w 35 1]
      rfl
    · rw [gx_n h2, gx_n h2]
      by_cases h3 : 44 = q
      · subst h3
        rw [gx_s, gx_n (by decide), gx_0 (hX _ (by decide))]
      · rw [gx_n h3, gx_n h3, gx_n h2]
  refine lv_iinc (v := 2) (lv' := [(1, .int 2), (0, .ref (w.2.1 + 0))]) M.1 M.2.1 dX7_init_76 hl (k := 0) rfl (by decide) (by decide) rfl (fun ls hl => ?_)
  refine lv_goto (tgt := 58) M.1 M.2.1 dX7_init_79 (by decide) ?_
  refine lv_iload_n M.1 M.2.1 dX7_init_58 rfl (lv_at hl 0 rfl) ?_
  refine lv_iconst (v := 2) M.1 M.2.1 dX7_init_59 (by decide) ?_
  refine lv_icmp_ge (tgt := 82) M.1 M.2.1 dX7_init_60 (by decide) (fun _ => ?_) (fun c9 => absurd (by decide) c9)
  have hC := hC.arrq (g := fun j => some (rr w (tg 34 j))) (fun j hj => by
    unfold fA
    rw [if_pos hj]
    show some (w.2.1 + (35 + 9 * j)) = some (rr w (35 + 9 * j))
    rw [rr_lt w (by omega)])
  have hC : Cw w s.heap 53 ((0, .inr (7, [.ref (w.2.1 + 1), .ref (w.2.1 + 5), .ref (w.2.1 + 16), .ref (w.2.1 + 25), .ref (w.2.1 + 34), .null, .null, .null, .null, .null, .int 0])) :: X) H locs := hC.eq fun q hq => by
    by_cases h2 : 34 = q
    · subst h2
      rw [gx_s, gx_n (by decide), gx_0 (hX _ (by decide))]
      rfl
    · rw [gx_n h2]
  have hl : lv_has ls 2 [(0, .ref (w.2.1 + 0))] := lv_sub hl [1] rfl
  refine mk_obj (k := 0) (a := 53) (a2 := 271) (mc := 217) (ms := 1632) M hin (by omega) hl (lv_at hl 0 rfl) hC (by omega) (T := TX7) rfl uw_7 tyX7 tyX7_ok nmX7 5 (by decide) mv_2_66 rfl rfl rfl (Or.inl ⟨_, rfl⟩) (Nat.le_of_ble_eq_true rfl) (ci2 := 0) (T2 := TX0) (fs2 := [.null, .int 0, .int 0]) rfl uw_0 tyX0 tyX0_ok mv_1_177 mv_1_178 mv_1_5 (fun j hj => by rcases (show j = 0 ∨ j = 1 ∨ j = 2 by omega) with rfl | rfl | rfl <;> rfl) (by decide) (by decide) (fun q hq => hX q (by omega)) (by omega) dX7_init_82 dX7_init_83 dX7_init_86 dX7_init_90 (fun {H locs} hC kk => ?_) (fun H locs hC => ?_)
  · exact mk_call (y := yX0_init) (bytes := cX0_init) (X2 := _) M (by omega) hl hC (c_X0_init l w _ (xl_up (xl_up (fun q hq => hX q (by omega)) _ (by decide)) _ (by decide)) gx_s) (by omega) rfl rfl mv_1_179 mv_1_180 mv_1_181 mv_1_5 rfl (by decide +kernel) ⟨by decide, by decide⟩ ⟨by decide, by decide⟩ (Nat.le_of_ble_eq_true rfl) dX7_init_87 kk
  refine mk_obj (k := 0) (a := 271) (a2 := 272) (mc := 0) (ms := 0) M hin (by omega) hl (lv_at hl 0 rfl) hC (by omega) (T := TX7) rfl uw_7 tyX7 tyX7_ok nmX7 6 (by decide) mv_2_67 rfl rfl rfl (Or.inl ⟨_, rfl⟩) (Nat.le_of_ble_eq_true rfl) (ci2 := 2) (T2 := TX2) (fs2 := [.int 0, .int 0, .int 0, .int 0, .int 0, .int 0, .int 0, .int 0, .int 0, .int 0]) rfl uw_2 tyX2 tyX2_ok mv_1_196 mv_1_197 mv_1_6 (fun j hj => by rcases (show j = 0 ∨ j = 1 ∨ j = 2 ∨ j = 3 ∨ j = 4 ∨ j = 5 ∨ j = 6 ∨ j = 7 ∨ j = 8 ∨ j = 9 by omega) with rfl | rfl | rfl | rfl | rfl | rfl | rfl | rfl | rfl | rfl <;> rfl) (by decide) (by decide) (fun q hq => hX q (by omega)) (by omega) dX7_init_93 dX7_init_94 dX7_init_97 dX7_init_101 (fun {H locs} hC kk => ?_) (fun H locs hC => ?_)
  · exact mk_callN (y := yX2_init) (bytes := cX2_init) (X2 := _) M (by omega) hl hC (c_X2_init l w 271 _ rfl (xl_up (xl_up (fun q hq => hX q (by omega)) _ (by decide)) _ (by decide)) gx_s) (by omega) rfl rfl (List.mem_of_getElem? (i := 2) rfl) mv_1_199 mv_1_200 mv_1_6 rfl (by decide +kernel) ⟨by decide, by decide⟩ ⟨by decide, by decide⟩ (Nat.le_of_ble_eq_true rfl) dX7_init_98 kk
  refine mk_obj (k := 0) (a := 272) (a2 := 273) (mc := 0) (ms := 0) M hin (by omega) hl (lv_at hl 0 rfl) hC (by omega) (T := TX7) rfl uw_7 tyX7 tyX7_ok nmX7 7 (by decide) mv_2_68 rfl rfl rfl (Or.inl ⟨_, rfl⟩) (Nat.le_of_ble_eq_true rfl) (ci2 := 2) (T2 := TX2) (fs2 := [.int 0, .int 0, .int 0, .int 0, .int 0, .int 0, .int 0, .int 0, .int 0, .int 0]) rfl uw_2 tyX2 tyX2_ok mv_1_196 mv_1_197 mv_1_6 (fun j hj => by rcases (show j = 0 ∨ j = 1 ∨ j = 2 ∨ j = 3 ∨ j = 4 ∨ j = 5 ∨ j = 6 ∨ j = 7 ∨ j = 8 ∨ j = 9 by omega) with rfl | rfl | rfl | rfl | rfl | rfl | rfl | rfl | rfl | rfl <;> rfl) (by decide) (by decide) (fun q hq => hX q (by omega)) (by omega) dX7_init_104 dX7_init_105 dX7_init_108 dX7_init_112 (fun {H locs} hC kk => ?_) (fun H locs hC => ?_)
  · exact mk_callN (y := yX2_init) (bytes := cX2_init) (X2 := _) M (by omega) hl hC (c_X2_init l w 272 _ rfl (xl_up (xl_up (fun q hq => hX q (by omega)) _ (by decide)) _ (by decide)) gx_s) (by omega) rfl rfl (List.mem_of_getElem? (i := 2) rfl) mv_1_199 mv_1_200 mv_1_6 rfl (by decide +kernel) ⟨by decide, by decide⟩ ⟨by decide, by decide⟩ (Nat.le_of_ble_eq_true rfl) dX7_init_109 kk
  refine mk_obj (k := 0) (a := 273) (a2 := 277) (mc := 3) (ms := 426) M hin (by omega) hl (lv_at hl 0 rfl) hC (by omega) (T := TX7) rfl uw_7 tyX7 tyX7_ok nmX7 8 (by decide) mv_2_69 rfl rfl rfl (Or.inl ⟨_, rfl⟩) (Nat.le_of_ble_eq_true rfl) (ci2 := 3) (T2 := TX3) (fs2 := [.null, .null, .null, .int 0, .int 0]) rfl uw_3 tyX3 tyX3_ok mv_2_8 mv_2_9 mv_1_7 (fun j hj => by rcases (show j = 0 ∨ j = 1 ∨ j = 2 ∨ j = 3 ∨ j = 4 by omega) with rfl | rfl | rfl | rfl | rfl <;> rfl) (by decide) (by decide) (fun q hq => hX q (by omega)) (by omega) dX7_init_115 dX7_init_116 dX7_init_119 dX7_init_123 (fun {H locs} hC kk => ?_) (fun H locs hC => ?_)
  · exact mk_callN (y := yX3_init) (bytes := cX3_init) (X2 := _) M (by omega) hl hC (c_X3_init l w _ (xl_up (xl_up (fun q hq => hX q (by omega)) _ (by decide)) _ (by decide)) gx_s) (by omega) rfl rfl (List.mem_of_getElem? (i := 3) rfl) mv_2_11 mv_2_12 mv_1_7 rfl (by decide +kernel) ⟨by decide, by decide⟩ ⟨by decide, by decide⟩ (Nat.le_of_ble_eq_true rfl) dX7_init_120 kk
  refine mk_obj (k := 0) (a := 277) (a2 := 279) (mc := 1) (ms := 16) M hin (by omega) hl (lv_at hl 0 rfl) hC (by omega) (T := TX7) rfl uw_7 tyX7 tyX7_ok nmX7 9 (by decide) mv_2_70 rfl rfl rfl (Or.inl ⟨_, rfl⟩) (Nat.le_of_ble_eq_true rfl) (ci2 := 1) (T2 := TX1) (fs2 := [.null, .int 0, .int 0, .int 0, .int 0, .int 0]) rfl uw_1 tyX1 tyX1_ok mv_2_34 mv_2_35 mv_1_8 (fun j hj => by rcases (show j = 0 ∨ j = 1 ∨ j = 2 ∨ j = 3 ∨ j = 4 ∨ j = 5 by omega) with rfl | rfl | rfl | rfl | rfl | rfl <;> rfl) (by decide) (by decide) (fun q hq => hX q (by omega)) (by omega) dX7_init_126 dX7_init_127 dX7_init_130 dX7_init_134 (fun {H locs} hC kk => ?_) (fun H locs hC => ?_)
  · exact mk_callN (y := yX1_init) (bytes := cX1_init) (X2 := _) M (by omega) hl hC (c_X1_init l w _ (xl_up (xl_up (fun q hq => hX q (by omega)) _ (by decide)) _ (by decide)) gx_s) (by omega) rfl rfl (List.mem_of_getElem? (i := 4) rfl) mv_2_37 mv_2_38 mv_1_8 rfl (by decide +kernel) ⟨by decide, by decide⟩ ⟨by decide, by decide⟩ (Nat.le_of_ble_eq_true rfl) dX7_init_131 kk
  refine lv_aload_n M.1 M.2.1 dX7_init_137 rfl (lv_at hl 0 rfl) ?_
  refine lv_iconst (v := 0) M.1 M.2.1 dX7_init_138 (by decide) ?_
  refine mk_puti (k := 0) M hC (by decide) gx_s (T := TX7) rfl uw_7 tyX7 tyX7_ok nmX7 (j := 10) (by decide) mv_2_71 rfl rfl (Nat.le_of_ble_eq_true rfl) dX7_init_139 (fun H locs hC => ?_)
  refine hret _ _ _ _ (hC.eq fun q hq => ?_) dX7_init_142
  by_cases h1 : 0 = q
  · subst h1
    rw [gx_s, gx_s]
    rfl
  · rw [gx_n h1, gx_n h1, gx_n h1]

set_option maxRecDepth 100000 in
set_option maxHeartbeats 4000000 in
theorem c_X8_init (l : Launch) (w : Wp) (X : List (Nat × va_E)) (hX : ∀ q, 279 < q → xl X q = none) (he : gx w X 279 = .inr (8, [.int 0, .int 0, .null, .null, .null, .null, .null, .null, .null, .int 0, .null, .int 0, .int 0, .int 0, .int 0, .int 0, .int 0, .int 0, .int 0, .null, .null, .null, .int 0])) : Met l yX8_init (.code yX8_init cX8_init 1 none :: tW) ({ frames := 1, cells := 11, slots := 2136, locals := 12 }) (Pk w [.ref (w.2.1 + 279)] (280) X) (Qk w (291) ((279, ent w (μ0 279) 279) :: X)) 11 2136 (fun q => w.2.1 ≤ q) := by
  refine mk_met (by decide) ?_ (by decide)
  intro p e s m args below meth c ls M hin hsz hl hC hret
  have hC := hC.intro he
  refine lv_aload_n M.1 M.2.1 dX8_init_0 rfl (lv_at hl 0 rfl) ?_
  refine mk_super M hl mv_4_85 mv_1_18 mv_1_19 (by decide) (by decide) dX8_init_1 ?_
  refine lv_aload_n M.1 M.2.1 dX8_init_4 rfl (lv_at hl 0 rfl) ?_
  refine lv_bipush (v := 8) M.1 M.2.1 dX8_init_5 (by decide) ?_
  refine mk_newi (n := 8) (N := 8) (a := 280) M (by omega) hC mv_1_36 (by decide) rfl (by decide) (by decide) (by decide) dX8_init_7 (fun H hC => ?_)
  refine lv_dup M.1 M.2.1 dX8_init_9 rfl ?_
  refine lv_iconst (v := 0) M.1 M.2.1 dX8_init_10 (by decide) ?_
  refine lv_iconst (v := -1) M.1 M.2.1 dX8_init_11 (by decide) ?_
  refine mk_ast (k := 280) M hC (by decide) gx_s (by unfold vp_in; decide) dX8_init_12 (fun H locs hC => ?_)
  refine lv_dup M.1 M.2.1 dX8_init_13 rfl ?_
  refine lv_iconst (v := 1) M.1 M.2.1 dX8_init_14 (by decide) ?_
  refine lv_iconst (v := -1) M.1 M.2.1 dX8_init_15 (by decide) ?_
  refine mk_ast (k := 280) M hC (by decide) gx_s (by unfold vp_in; decide) dX8_init_16 (fun H locs hC => ?_)
  refine lv_dup M.1 M.2.1 dX8_init_17 rfl ?_
  refine lv_iconst (v := 2) M.1 M.2.1 dX8_init_18 (by decide) ?_
  refine lv_iconst (v := -1) M.1 M.2.1 dX8_init_19 (by decide) ?_
  refine mk_ast (k := 280) M hC (by decide) gx_s (by unfold vp_in; decide) dX8_init_20 (fun H locs hC => ?_)
  refine lv_dup M.1 M.2.1 dX8_init_21 rfl ?_
  refine lv_iconst (v := 3) M.1 M.2.1 dX8_init_22 (by decide) ?_
  refine lv_iconst (v := -1) M.1 M.2.1 dX8_init_23 (by decide) ?_
  refine mk_ast (k := 280) M hC (by decide) gx_s (by unfold vp_in; decide) dX8_init_24 (fun H locs hC => ?_)
  refine lv_dup M.1 M.2.1 dX8_init_25 rfl ?_
  refine lv_iconst (v := 4) M.1 M.2.1 dX8_init_26 (by decide) ?_
  refine lv_iconst (v := -1) M.1 M.2.1 dX8_init_27 (by decide) ?_
  refine mk_ast (k := 280) M hC (by decide) gx_s (by unfold vp_in; decide) dX8_init_28 (fun H locs hC => ?_)
  refine lv_dup M.1 M.2.1 dX8_init_29 rfl ?_
  refine lv_iconst (v := 5) M.1 M.2.1 dX8_init_30 (by decide) ?_
  refine lv_iconst (v := -1) M.1 M.2.1 dX8_init_31 (by decide) ?_
  refine mk_ast (k := 280) M hC (by decide) gx_s (by unfold vp_in; decide) dX8_init_32 (fun H locs hC => ?_)
  refine lv_dup M.1 M.2.1 dX8_init_33 rfl ?_
  refine lv_bipush (v := 6) M.1 M.2.1 dX8_init_34 (by decide) ?_
  refine lv_iconst (v := -1) M.1 M.2.1 dX8_init_36 (by decide) ?_
  refine mk_ast (k := 280) M hC (by decide) gx_s (by unfold vp_in; decide) dX8_init_37 (fun H locs hC => ?_)
  refine lv_dup M.1 M.2.1 dX8_init_38 rfl ?_
  refine lv_bipush (v := 7) M.1 M.2.1 dX8_init_39 (by decide) ?_
  refine lv_iconst (v := -1) M.1 M.2.1 dX8_init_41 (by decide) ?_
  refine mk_ast (k := 280) M hC (by decide) gx_s (by unfold vp_in; decide) dX8_init_42 (fun H locs hC => ?_)
  refine mk_put (k := 279) M hin hC (by decide) (by rw [gx_n (by decide), gx_n (by decide), gx_n (by decide), gx_n (by decide), gx_n (by decide), gx_n (by decide), gx_n (by decide), gx_n (by decide), gx_n (by decide), gx_s]) (T := TX8) rfl uw_8 tyX8 tyX8_ok nmX8 (j := 2) (by decide) mv_4_88 rfl rfl rfl (Or.inr ⟨_, rfl⟩) (Nat.le_of_ble_eq_true rfl) dX8_init_43 (fun H locs hC => ?_)
  have hC : Cw w s.heap 281 ((279, .inr (8, ([.int 0, .int 0, .null, .null, .null, .null, .null, .null, .null, .int 0, .null, .int 0, .int 0, .int 0, .int 0, .int 0, .int 0, .int 0, .int 0, .null, .null, .null, .int 0] : List Value).set 2 (.ref (w.2.1 + 280)))) :: X) H locs := hC.eq fun q hq => by
    by_cases h1 : 279 = q
    · subst h1
      rw [gx_s, gx_s]
    · rw [gx_n h1, gx_n h1]
      by_cases h2 : 280 = q
      · subst h2
        rw [gx_s, gx_0 (hX _ (by decide)), ent_1 w _ (show ak 280 = 1 from rfl)]
        have : upd (upd (upd (upd (upd (upd (upd (upd (fun _ => 0) (0 : Int32).toNatClampNeg (-1)) (1 : Int32).toNatClampNeg (-1)) (2 : Int32).toNatClampNeg (-1)) (3 : Int32).toNatClampNeg (-1)) (4 : Int32).toNatClampNeg (-1)) (5 : Int32).toNatClampNeg (-1)) (6 : Int32).toNatClampNeg (-1)) (7 : Int32).toNatClampNeg (-1) = μ0 280 := by
          funext j
          match j with
          | 0 | 1 | 2 | 3 | 4 | 5 | 6 | 7 => rfl
          | j + 8 => rfl
        rw [this]
        rfl
      · rw [gx_n h2, gx_n h2, gx_n h2, gx_n h2, gx_n h2, gx_n h2, gx_n h2, gx_n h2, gx_n h2, gx_n h1]
  refine mk_arr (n := 8) (n1 := 8) (k := 279) (a := 281) (pc2 := 49) M hin (by omega) (lv_at hl 0 rfl) hC (by omega) (T := TX8) rfl uw_8 tyX8 tyX8_ok nmX8 3 (by decide) mv_4_89 rfl rfl rfl (Or.inr ⟨_, rfl⟩) (Nat.le_of_ble_eq_true rfl) mv_1_36 (by decide) rfl (by decide) (by decide) (by decide) (ent_z w rfl rfl (by decide) (by decide)) (hX _ (by decide)) dX8_init_46 (fun h => lv_bipush (v := 8) M.1 M.2.1 dX8_init_47 (by decide) h) dX8_init_49 dX8_init_51 (fun H locs hC => ?_)
  refine mk_arr (n := 320) (n1 := 320) (k := 279) (a := 282) (pc2 := 58) M hin (by omega) (lv_at hl 0 rfl) hC (by omega) (T := TX8) rfl uw_8 tyX8 tyX8_ok nmX8 4 (by decide) mv_4_90 rfl rfl rfl (Or.inr ⟨_, rfl⟩) (Nat.le_of_ble_eq_true rfl) mv_1_36 (by decide) rfl (by decide) (by decide) (by decide) (ent_z w rfl rfl (by decide) (by decide)) (hX _ (by decide)) dX8_init_54 (fun h => lv_sipush (v := 320) M.1 M.2.1 dX8_init_55 (by decide) h) dX8_init_58 dX8_init_60 (fun H locs hC => ?_)
  refine mk_arr (n := 58) (n1 := 58) (k := 279) (a := 283) (pc2 := 66) M hin (by omega) (lv_at hl 0 rfl) hC (by omega) (T := TX8) rfl uw_8 tyX8 tyX8_ok nmX8 5 (by decide) mv_4_91 rfl rfl rfl (Or.inr ⟨_, rfl⟩) (Nat.le_of_ble_eq_true rfl) mv_1_36 (by decide) rfl (by decide) (by decide) (by decide) (ent_z w rfl rfl (by decide) (by decide)) (hX _ (by decide)) dX8_init_63 (fun h => lv_bipush (v := 58) M.1 M.2.1 dX8_init_64 (by decide) h) dX8_init_66 dX8_init_68 (fun H locs hC => ?_)
  refine mk_arr (n := 58) (n1 := 58) (k := 279) (a := 284) (pc2 := 74) M hin (by omega) (lv_at hl 0 rfl) hC (by omega) (T := TX8) rfl uw_8 tyX8 tyX8_ok nmX8 6 (by decide) mv_4_92 rfl rfl rfl (Or.inr ⟨_, rfl⟩) (Nat.le_of_ble_eq_true rfl) mv_1_36 (by decide) rfl (by decide) (by decide) (by decide) (ent_z w rfl rfl (by decide) (by decide)) (hX _ (by decide)) dX8_init_71 (fun h => lv_bipush (v := 58) M.1 M.2.1 dX8_init_72 (by decide) h) dX8_init_74 dX8_init_76 (fun H locs hC => ?_)
  refine mk_arr (n := 58) (n1 := 58) (k := 279) (a := 285) (pc2 := 82) M hin (by omega) (lv_at hl 0 rfl) hC (by omega) (T := TX8) rfl uw_8 tyX8 tyX8_ok nmX8 7 (by decide) mv_4_93 rfl rfl rfl (Or.inr ⟨_, rfl⟩) (Nat.le_of_ble_eq_true rfl) mv_1_36 (by decide) rfl (by decide) (by decide) (by decide) (ent_z w rfl rfl (by decide) (by decide)) (hX _ (by decide)) dX8_init_79 (fun h => lv_bipush (v := 58) M.1 M.2.1 dX8_init_80 (by decide) h) dX8_init_82 dX8_init_84 (fun H locs hC => ?_)
  refine mk_arr (n := 1392) (n1 := 1392) (k := 279) (a := 286) (pc2 := 91) M hin (by omega) (lv_at hl 0 rfl) hC (by omega) (T := TX8) rfl uw_8 tyX8 tyX8_ok nmX8 8 (by decide) mv_4_94 rfl rfl rfl (Or.inr ⟨_, rfl⟩) (Nat.le_of_ble_eq_true rfl) mv_1_36 (by decide) rfl (by decide) (by decide) (by decide) (ent_z w rfl rfl (by decide) (by decide)) (hX _ (by decide)) dX8_init_87 (fun h => lv_sipush (v := 1392) M.1 M.2.1 dX8_init_88 (by decide) h) dX8_init_91 dX8_init_93 (fun H locs hC => ?_)
  refine mk_arr (n := 100) (n1 := 100) (k := 279) (a := 287) (pc2 := 99) M hin (by omega) (lv_at hl 0 rfl) hC (by omega) (T := TX8) rfl uw_8 tyX8 tyX8_ok nmX8 10 (by decide) mv_4_96 rfl rfl rfl (Or.inr ⟨_, rfl⟩) (Nat.le_of_ble_eq_true rfl) mv_1_36 (by decide) rfl (by decide) (by decide) (by decide) (ent_z w rfl rfl (by decide) (by decide)) (hX _ (by decide)) dX8_init_96 (fun h => lv_bipush (v := 100) M.1 M.2.1 dX8_init_97 (by decide) h) dX8_init_99 dX8_init_101 (fun H locs hC => ?_)
  refine lv_aload_n M.1 M.2.1 dX8_init_104 rfl (lv_at hl 0 rfl) ?_
  refine lv_iconst (v := 2) M.1 M.2.1 dX8_init_105 (by decide) ?_
  refine mk_newz (n := 2) (N := 2) (a := 288) M (by omega) hC mv_4_156 (by decide) rfl (by decide) (by decide) (by decide) dX8_init_106 (fun H hC => ?_)
  refine mk_put (k := 279) M hin hC (by decide) (by rw [gx_n (by decide), gx_s]) (T := TX8) rfl uw_8 tyX8 tyX8_ok nmX8 (j := 19) (by decide) mv_4_105 rfl rfl rfl (Or.inr ⟨_, rfl⟩) (Nat.le_of_ble_eq_true rfl) dX8_init_108 (fun H locs hC => ?_)
  replace hC := hC.eq (Y := (279, .inr (8, [.int 0, .int 0, .ref (w.2.1 + 280), .ref (w.2.1 + 281), .ref (w.2.1 + 282), .ref (w.2.1 + 283), .ref (w.2.1 + 284), .ref (w.2.1 + 285), .ref (w.2.1 + 286), .int 0, .ref (w.2.1 + 287), .int 0, .int 0, .int 0, .int 0, .int 0, .int 0, .int 0, .int 0, .ref (w.2.1 + 288), .null, .null, .int 0])) :: X) fun q hq => by
    by_cases h1 : 279 = q
    · subst h1
      rw [gx_s, gx_s]
      rfl
    · rw [gx_n h1, gx_n h1]
      by_cases h2 : 288 = q
      · subst h2
        rw [gx_s, gx_0 (hX _ (by decide)), ent_2 w _ (show ak 288 = 2 from rfl), μ0_z (by decide) (by decide)]
        rfl
      · rw [gx_n h2, gx_n h1]
  refine mk_arr (n := 116) (n1 := 116) (k := 279) (a := 289) (pc2 := 114) M hin (by omega) (lv_at hl 0 rfl) hC (by omega) (T := TX8) rfl uw_8 tyX8 tyX8_ok nmX8 20 (by decide) mv_4_106 rfl rfl rfl (Or.inr ⟨_, rfl⟩) (Nat.le_of_ble_eq_true rfl) mv_1_36 (by decide) rfl (by decide) (by decide) (by decide) (ent_z w rfl rfl (by decide) (by decide)) (hX _ (by decide)) dX8_init_111 (fun h => lv_bipush (v := 116) M.1 M.2.1 dX8_init_112 (by decide) h) dX8_init_114 dX8_init_116 (fun H locs hC => ?_)
  refine mk_arr (n := 16) (n1 := 16) (k := 279) (a := 290) (pc2 := 122) M hin (by omega) (lv_at hl 0 rfl) hC (by omega) (T := TX8) rfl uw_8 tyX8 tyX8_ok nmX8 21 (by decide) mv_4_107 rfl rfl rfl (Or.inr ⟨_, rfl⟩) (Nat.le_of_ble_eq_true rfl) mv_1_36 (by decide) rfl (by decide) (by decide) (by decide) (ent_z w rfl rfl (by decide) (by decide)) (hX _ (by decide)) dX8_init_119 (fun h => lv_bipush (v := 16) M.1 M.2.1 dX8_init_120 (by decide) h) dX8_init_122 dX8_init_124 (fun H locs hC => ?_)
  exact hret _ _ _ _ hC dX8_init_127
