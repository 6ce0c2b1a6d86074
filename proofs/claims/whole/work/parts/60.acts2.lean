theorem f_r_congr {f : Nat → Nat → Int32} {a lo hi : Nat} {w w2 : Nat → Int32} (h : ∀ j, lo ≤ j → j < hi → w j = w2 j) : f_r f a lo hi w = f_r f a lo hi w2 := by
  funext b j
  unfold f_r
  by_cases e : b = a ∧ lo ≤ j ∧ j < hi
  · rw [if_pos e, if_pos e]; exact h j e.2.1 e.2.2
  · rw [if_neg e, if_neg e]
theorem cp_U (M : mM) (a s b d n : Nat) : h_cp M a s b d n = mkU M (f_r (h_i M) b d (d + n) (fun j => h_i M a (s + (j - d)))) := rfl
/-- a loop of the reference that copies one row's places to another's -/
theorem f_rs2 {F : Nat → Nat → Int32} {a b lo hi : Nat} {w : Nat → Nat} (h : lo < hi) (hw : b ≠ a ∨ ∀ j, lo < j → j < hi → w j ≠ lo) : f_r (f_s F a lo (F b (w lo))) a (lo + 1) hi (fun j => f_s F a lo (F b (w lo)) b (w j)) = f_r F a lo hi (fun j => F b (w j)) := by
  rw [← f_rs F a lo hi (fun j => F b (w j)) h]
  refine f_r_congr fun j h1 h2 => ?_
  rcases hw with q | q
  · exact f_s_ne (Or.inl q)
  · exact f_s_ne (Or.inr (q j (by omega) h2))
section OP
variable {n : Nat} {M : mM} {f : Nat → Nat → Int32} {ρ τ κ : Nat → Nat}
theorem rn_of (h : Rel n M f ρ τ κ) {r : Nat} (hr : r < n) (e : f 4 2 = nI r) : ∃ g o, rn_ n M f ρ κ r g o := by
  have hN := h.2.2.2.1.2.2.1
  rcases run_ h with ⟨r1, -⟩ | ⟨r', g, o, q⟩
  · rw [e] at r1; exact absurd r1 (nI_m1 (by omega))
  · have e2 := q.2.1
    rw [e] at e2
    have := nI_inj (by omega) (by have := q.1.1; omega) e2
    subst this
    exact ⟨g, o, q⟩
/-- a context's own numbers -/
theorem U_ctx (h : Rel n M f ρ τ κ) {r : Nat} (hr : r < n) (hr3 : f 5 r = 3) {c f' : Nat → Nat → Int32} (hc : ∀ a k, ¬ (a = κ r ∧ 4 ≤ k) → c a k = h_i M a k) (hf : ∀ b j, ¬ (20 ≤ b ∧ b ≤ 25 ∧ j = r) → f' b j = f b j)
    (hz : c (κ r) 4 = f' 20 r ∧ (f' 20 r = 0 ∨ f' 20 r = 1 ∨ f' 20 r = 2) ∧ (f' 20 r = 1 → c (κ r) 5 = f' 21 r ∧ ∃ P, P < 2048 ∧ f' 21 r = nI P) ∧ (f' 20 r = 2 → c (κ r) 6 = f' 24 r ∧ c (κ r) 7 = f' 22 r ∧ c (κ r) 8 = f' 23 r ∧ ∃ a b, a ≤ b ∧ b ≤ 2048 ∧ f' 24 r = nI a ∧ f' 22 r = nI b ∧ (f' 23 r = 0 ∨ f' 23 r = 1)) ∧ c (κ r) 10 = f' 25 r) : Rel n (mkU M c) f' ρ τ κ := by
  have hh := h.2.2.2.2.1
  have hN := h.2.2.2.1.2.2.1
  obtain ⟨bo, bk⟩ := at_c h hr hr3
  have r : ∀ b, ¬ (20 ≤ b ∧ b ≤ 25) → f' b = f b := fun b hb => funext fun j => hf b j (by omega)
  have k4 : ∀ j, f' 4 j = f 4 j := fun j => hf 4 j (by omega)
  refine Rel_i h (r 3 (by omega)) (r 5 (by omega)) (r 7 (by omega)) (r 9 (by omega)) (r 12 (by omega)) (r 13 (by omega)) (r 14 (by omega)) (r 15 (by omega)) (r 17 (by omega)) (r 26 (by omega)) (r 27 (by omega)) (k4 0) (k4 2) (by rw [k4]; exact h.2.2.2.1.2.2.2.1) (fun k => hc _ _ (by omega)) (fun k => hc _ _ (by omega)) ?_ ?_ ?_ (fun i hi => ?_) (fun i k hi hk => ?_) (fun i hi h2 => ?_) (fun i hi h2 => ?_) (fun i e hi h2 he => ?_) (fun i hi h2 => ?_)
  · rw [hc _ _ (by omega), k4]; exact hh.1
  · rw [hc _ _ (by omega), k4]; exact hh.2.1
  · rw [hc _ _ (by omega), k4]; exact hh.2.2.1
  · exact ⟨hc _ _ (by unfold G_; omega), hc _ _ (by unfold G_; omega), hc _ _ (by unfold G_; omega)⟩
  · rw [hc _ _ (by unfold Wd; omega), r 6 (by omega)]; exact (h.2.2.2.2.2.1 i hi).2.2.1 k hk
  · obtain ⟨b1, b2⟩ := at_d h hi h2
    obtain ⟨a1, a2, a3, a4, a5, a6, a7, a8, a9, a10⟩ := h.2.2.2.2.2.2.1 i hi h2
    have d := dj_dc h hi hr h2 hr3
    rw [r 8 (by omega), r 10 (by omega), r 11 (by omega)]
    exact ⟨(hc _ _ (by omega)).trans a4, a5, hc _ _ (by omega), (hc _ _ (by omega)).trans a7, hc _ _ (by omega), hc _ _ (by omega), fun q k hq hk => (hc _ _ (by omega)).trans (a10 q k hq hk)⟩
  · obtain ⟨b1, b2⟩ := at_t h hi h2
    obtain ⟨a1, a2, a3, a4⟩ := h.2.2.2.2.2.2.2.1 i hi h2
    have d := dj_tc h hi hr h2 hr3
    rw [r 16 (by omega)]
    refine ⟨hc _ _ (by omega), fun e he => ?_⟩
    obtain ⟨c1, c2, c3, c4, c5⟩ := a4 e he
    exact ⟨hc _ _ (by omega), hc _ _ (by omega), (hc _ _ (by omega)).trans c3⟩
  · have a3 := (h.2.2.2.1.2.2.2.2.2.1.2.1 i hi h2).2.2 e he
    simp only [q_rip, lv, bs, r 12 (show ¬ (20 ≤ 12 ∧ 12 ≤ 25) by omega), r 13 (show ¬ (20 ≤ 13 ∧ 13 ≤ 25) by omega), r 16 (show ¬ (20 ≤ 16 ∧ 16 ≤ 25) by omega)]
    refine ⟨a3.2, fun h14 => ?_⟩
    rcases a3.1 with ⟨w, -⟩ | ⟨w, -⟩ | ⟨-, -, -, -, -, -, -, -, w⟩
    · rw [h14] at w; exact absurd w (by decide)
    · rw [h14] at w; exact absurd w (by decide)
    · exact w
  · obtain ⟨b1, b2⟩ := at_c h hi h2
    obtain ⟨a1, a2, a3, a4, a5, a6, a7, a8, a9, a10, a11⟩ := h.2.2.2.2.2.2.2.2 i hi h2
    rw [r 18 (by omega), r 19 (by omega)]
    have d := rr_cc h hi hr h2 hr3
    rcases d with ⟨d, -⟩ | ⟨d, d2⟩
    · subst d
      exact ⟨(hc _ _ (by omega)).trans a4, a5, fun k hk => (hc _ _ (by omega)).trans (a6 k hk), hz⟩
    · rw [hf 20 i (by omega), hf 21 i (by omega), hf 22 i (by omega), hf 23 i (by omega), hf 24 i (by omega), hf 25 i (by omega)]
      exact ⟨(hc _ _ (by omega)).trans a4, a5, fun k hk => (hc _ _ (by omega)).trans (a6 k hk), (hc _ _ (by omega)).trans a7, a8, fun h3 => ⟨(hc _ _ (by omega)).trans (a9 h3).1, (a9 h3).2⟩, fun h3 => ⟨(hc _ _ (by omega)).trans (a10 h3).1, (hc _ _ (by omega)).trans (a10 h3).2.1, (hc _ _ (by omega)).trans (a10 h3).2.2.1, (a10 h3).2.2.2⟩, (hc _ _ (by omega)).trans a11⟩
theorem op_ask (h : Rel n M f ρ τ κ) (x y z : Int32) : OK2 n M (ev 60 0 [some (.inr 4), some (.inl x), some (.inl y), some (.inl z), none, none] [] M) (ev 169 0 [some (.inr 4), some (.inl x), some (.inl y), some (.inl z), none] [] (mkR f)) := by
  have s1 := h.1.2.1.1
  have hN := h.2.2.2.1.2.2.1
  rcases run_ h with ⟨r1, r2⟩ | ⟨r, g, o, hrn⟩
  · exact OK2.of (v := -1) (by simp only [e_60_0, e_60_19, e_60_20, e_60_28, e_60_31, c_I, c_R, c_V, if_true, if_false, true_and, and_true, true_or, or_true, List.length_nil, List.length_cons, Nat.zero_le, k_si, l_si, r_si, k_sr, l_sr, i_sr, n_si, ar_si, ar_sr, ar_0, rc7 s1, s1, C_no, C_none, C_yes, C_done, C_bit0, C_bit1, C_fault, z10, z20, z30, z40, z50, z01, zm0, zm1, R_idle1 r1, r2]; try rfl) (by simp only [e_169_0, e_169_18, e_169_44, kR1, kR2, kR3, kR4, kR5, kR6, kR7, kR8, kR9, kR10, kR11, kR12, kR13, kR14, kR15, kR16, kR17, kR18, kR19, kR20, kR21, kR22, kR23, kR24, kR25, kR26, kR27, kR28, kR29, kR30, lR1, lR2, lR3, lR4, lR5, lR6, lR7, lR8, lR9, lR10, lR11, lR12, lR13, lR14, lR15, lR16, lR17, lR18, lR19, lR20, lR21, lR22, lR23, lR24, lR25, lR26, lR27, lR28, lR29, lR30, rR5, rR6, rR7, rR8, rR9, rR10, rR11, rR12, rR13, rR14, rR15, rR16, rR17, rR18, rR19, rR20, rR21, rR22, rR23, rR24, rR25, rR26, rR27, rR28, rR29, rR30, R_i, R_si, R_rec, if_true, if_false, true_and, and_true, true_or, or_true, List.length_nil, List.length_cons, Nat.zero_le, c_I, c_R, c_V, R_no, R_refuse, R_fault, f_s_row, f4c, f4k, f4n, ne_eq, not_false_eq_true, not_true_eq_false, Nat.reduceEqDiff, reduceCtorEq, Nat.succ_ne_zero, Nat.reduceAdd, ar_0, z10, z20, z30, z40, z50, z01, zm0, zm1, R_idle1 r1, r2]; try rfl) (U_status h 4) rfl rfl
  · obtain ⟨⟨hr, hg, ho⟩, r1, r2, r3, r4, r5, r6, r7, r8, r9, r10, r11, r12, r13, r14, r15, r16⟩ := id hrn
    by_cases x0 : x < 0
    · exact OK2.of (v := 1) (by simp only [e_60_0, e_60_19, e_60_20, e_60_28, e_60_31, c_I, c_R, c_V, if_true, if_false, true_and, and_true, true_or, or_true, List.length_nil, List.length_cons, Nat.zero_le, k_si, l_si, r_si, k_sr, l_sr, i_sr, n_si, ar_si, ar_sr, ar_0, rc7 s1, s1, C_no, C_none, C_yes, C_done, C_bit0, C_bit1, C_fault, z10, z20, z30, z40, z50, z01, zm0, zm1, R_idle0 (r1.symm ▸ r2), r4, r5, x0]; try rfl) (by simp only [e_169_0, e_169_18, e_169_44, kR1, kR2, kR3, kR4, kR5, kR6, kR7, kR8, kR9, kR10, kR11, kR12, kR13, kR14, kR15, kR16, kR17, kR18, kR19, kR20, kR21, kR22, kR23, kR24, kR25, kR26, kR27, kR28, kR29, kR30, lR1, lR2, lR3, lR4, lR5, lR6, lR7, lR8, lR9, lR10, lR11, lR12, lR13, lR14, lR15, lR16, lR17, lR18, lR19, lR20, lR21, lR22, lR23, lR24, lR25, lR26, lR27, lR28, lR29, lR30, rR5, rR6, rR7, rR8, rR9, rR10, rR11, rR12, rR13, rR14, rR15, rR16, rR17, rR18, rR19, rR20, rR21, rR22, rR23, rR24, rR25, rR26, rR27, rR28, rR29, rR30, R_i, R_si, R_rec, if_true, if_false, true_and, and_true, true_or, or_true, List.length_nil, List.length_cons, Nat.zero_le, c_I, c_R, c_V, R_no, R_refuse, R_fault, f_s_row, f4c, f4k, f4n, ne_eq, not_false_eq_true, not_true_eq_false, Nat.reduceEqDiff, reduceCtorEq, Nat.succ_ne_zero, Nat.reduceAdd, ar_0, z10, z20, z30, z40, z50, z01, zm0, zm1, R_idle0 (r1.symm ▸ r2), r4, r5, x0]; try rfl) (U_fault h) rfl rfl
    by_cases x1 : y ≤ x
    · exact OK2.of (v := 1) (by simp only [e_60_0, e_60_19, e_60_20, e_60_28, e_60_31, c_I, c_R, c_V, if_true, if_false, true_and, and_true, true_or, or_true, List.length_nil, List.length_cons, Nat.zero_le, k_si, l_si, r_si, k_sr, l_sr, i_sr, n_si, ar_si, ar_sr, ar_0, rc7 s1, s1, C_no, C_none, C_yes, C_done, C_bit0, C_bit1, C_fault, z10, z20, z30, z40, z50, z01, zm0, zm1, R_idle0 (r1.symm ▸ r2), r4, r5, x0, x1]; try rfl) (by simp only [e_169_0, e_169_18, e_169_44, kR1, kR2, kR3, kR4, kR5, kR6, kR7, kR8, kR9, kR10, kR11, kR12, kR13, kR14, kR15, kR16, kR17, kR18, kR19, kR20, kR21, kR22, kR23, kR24, kR25, kR26, kR27, kR28, kR29, kR30, lR1, lR2, lR3, lR4, lR5, lR6, lR7, lR8, lR9, lR10, lR11, lR12, lR13, lR14, lR15, lR16, lR17, lR18, lR19, lR20, lR21, lR22, lR23, lR24, lR25, lR26, lR27, lR28, lR29, lR30, rR5, rR6, rR7, rR8, rR9, rR10, rR11, rR12, rR13, rR14, rR15, rR16, rR17, rR18, rR19, rR20, rR21, rR22, rR23, rR24, rR25, rR26, rR27, rR28, rR29, rR30, R_i, R_si, R_rec, if_true, if_false, true_and, and_true, true_or, or_true, List.length_nil, List.length_cons, Nat.zero_le, c_I, c_R, c_V, R_no, R_refuse, R_fault, f_s_row, f4c, f4k, f4n, ne_eq, not_false_eq_true, not_true_eq_false, Nat.reduceEqDiff, reduceCtorEq, Nat.succ_ne_zero, Nat.reduceAdd, ar_0, z10, z20, z30, z40, z50, z01, zm0, zm1, R_idle0 (r1.symm ▸ r2), r4, r5, x0, x1]; try rfl) (U_fault h) rfl rfl
    by_cases x2 : (2048 : Int32) < y
    · exact OK2.of (v := 1) (by simp only [e_60_0, e_60_19, e_60_20, e_60_28, e_60_31, c_I, c_R, c_V, if_true, if_false, true_and, and_true, true_or, or_true, List.length_nil, List.length_cons, Nat.zero_le, k_si, l_si, r_si, k_sr, l_sr, i_sr, n_si, ar_si, ar_sr, ar_0, rc7 s1, s1, C_no, C_none, C_yes, C_done, C_bit0, C_bit1, C_fault, z10, z20, z30, z40, z50, z01, zm0, zm1, R_idle0 (r1.symm ▸ r2), r4, r5, x0, x1, x2]; try rfl) (by simp only [e_169_0, e_169_18, e_169_44, kR1, kR2, kR3, kR4, kR5, kR6, kR7, kR8, kR9, kR10, kR11, kR12, kR13, kR14, kR15, kR16, kR17, kR18, kR19, kR20, kR21, kR22, kR23, kR24, kR25, kR26, kR27, kR28, kR29, kR30, lR1, lR2, lR3, lR4, lR5, lR6, lR7, lR8, lR9, lR10, lR11, lR12, lR13, lR14, lR15, lR16, lR17, lR18, lR19, lR20, lR21, lR22, lR23, lR24, lR25, lR26, lR27, lR28, lR29, lR30, rR5, rR6, rR7, rR8, rR9, rR10, rR11, rR12, rR13, rR14, rR15, rR16, rR17, rR18, rR19, rR20, rR21, rR22, rR23, rR24, rR25, rR26, rR27, rR28, rR29, rR30, R_i, R_si, R_rec, if_true, if_false, true_and, and_true, true_or, or_true, List.length_nil, List.length_cons, Nat.zero_le, c_I, c_R, c_V, R_no, R_refuse, R_fault, f_s_row, f4c, f4k, f4n, ne_eq, not_false_eq_true, not_true_eq_false, Nat.reduceEqDiff, reduceCtorEq, Nat.succ_ne_zero, Nat.reduceAdd, ar_0, z10, z20, z30, z40, z50, z01, zm0, zm1, R_idle0 (r1.symm ▸ r2), r4, r5, x0, x1, x2]; try rfl) (U_fault h) rfl rfl
    by_cases x3 : z < 0
    · have z0 : ¬ z = 0 := fun e => by rw [e] at x3; exact absurd x3 (by decide)
      have z1 : ¬ z = 1 := fun e => by rw [e] at x3; exact absurd x3 (by decide)
      exact OK2.of (v := 1) (by simp only [e_60_0, e_60_19, e_60_20, e_60_28, e_60_31, c_I, c_R, c_V, if_true, if_false, true_and, and_true, true_or, or_true, List.length_nil, List.length_cons, Nat.zero_le, k_si, l_si, r_si, k_sr, l_sr, i_sr, n_si, ar_si, ar_sr, ar_0, rc7 s1, s1, C_no, C_none, C_yes, C_done, C_bit0, C_bit1, C_fault, z10, z20, z30, z40, z50, z01, zm0, zm1, R_idle0 (r1.symm ▸ r2), r4, r5, x0, x1, x2, x3, z0, z1]; try rfl) (by simp only [e_169_0, e_169_18, e_169_44, kR1, kR2, kR3, kR4, kR5, kR6, kR7, kR8, kR9, kR10, kR11, kR12, kR13, kR14, kR15, kR16, kR17, kR18, kR19, kR20, kR21, kR22, kR23, kR24, kR25, kR26, kR27, kR28, kR29, kR30, lR1, lR2, lR3, lR4, lR5, lR6, lR7, lR8, lR9, lR10, lR11, lR12, lR13, lR14, lR15, lR16, lR17, lR18, lR19, lR20, lR21, lR22, lR23, lR24, lR25, lR26, lR27, lR28, lR29, lR30, rR5, rR6, rR7, rR8, rR9, rR10, rR11, rR12, rR13, rR14, rR15, rR16, rR17, rR18, rR19, rR20, rR21, rR22, rR23, rR24, rR25, rR26, rR27, rR28, rR29, rR30, R_i, R_si, R_rec, if_true, if_false, true_and, and_true, true_or, or_true, List.length_nil, List.length_cons, Nat.zero_le, c_I, c_R, c_V, R_no, R_refuse, R_fault, f_s_row, f4c, f4k, f4n, ne_eq, not_false_eq_true, not_true_eq_false, Nat.reduceEqDiff, reduceCtorEq, Nat.succ_ne_zero, Nat.reduceAdd, ar_0, z10, z20, z30, z40, z50, z01, zm0, zm1, R_idle0 (r1.symm ▸ r2), r4, r5, x0, x1, x2, x3, z0, z1]; try rfl) (U_fault h) rfl rfl
    by_cases x4 : z ≤ 1
    · have zz : z = 0 ∨ z = 1 := by
        rcases ix3 z 2 (by decide) (by decide) with ⟨q, -⟩ | ⟨-, -, -, q, -⟩ | ⟨w, hw, rfl, -⟩
        · exact absurd q x3
        · exact absurd x4 q
        · rcases (show w = 0 ∨ w = 1 by omega) with rfl | rfl
          · exact Or.inl rfl
          · exact Or.inr rfl
      have ab : ∃ a b, a ≤ b ∧ b ≤ 2048 ∧ x = nI a ∧ y = nI b := by
        obtain ⟨a, ha, rfl⟩ := nI_of x0
        rcases ix3 y 2049 (by decide) (by decide) with ⟨q, -⟩ | ⟨-, -, -, -, -, q⟩ | ⟨b, hb, rfl, -⟩
        · have : y ≤ nI a := by
            have e0 := nI_toInt ha
            rw [Int32.lt_iff_toInt_lt] at q
            rw [Int32.le_iff_toInt_le, e0]
            have : (0 : Int32).toInt = 0 := rfl
            omega
          exact absurd this x1
        · exact absurd q x2
        · refine ⟨a, b, ?_, by omega, rfl, rfl⟩
          rcases Nat.lt_or_ge b a with q | q
          · exact absurd (nI_le (Nat.le_of_lt q) (by omega)) x1
          · exact q
      have h1 : Rel n (mkU M (f_s (f_s (f_s (f_s (h_i M) (κ r) 4 2) (κ r) 6 x) (κ r) 7 y) (κ r) 8 z)) (f_s (f_s (f_s (f_s (f_s f 20 r 2) 21 r x) 22 r y) 23 r z) 24 r x) ρ τ κ := by
        refine U_ctx h hr r3 (fun a k q => ?_) (fun b j q => ?_) ?_
        · rw [f_s_ne (by omega), f_s_ne (by omega), f_s_ne (by omega), f_s_ne (by omega)]
        · rw [f_s_ne (by omega), f_s_ne (by omega), f_s_ne (by omega), f_s_ne (by omega), f_s_ne (by omega)]
        · obtain ⟨a, b, ab1, ab2, ab3, ab4⟩ := ab
          have e20 : f_s (f_s (f_s (f_s (f_s f 20 r 2) 21 r x) 22 r y) 23 r z) 24 r x 20 r = 2 := by
            rw [f_s_row (show 20 ≠ 24 by decide), f_s_row (show 20 ≠ 23 by decide), f_s_row (show 20 ≠ 22 by decide), f_s_row (show 20 ≠ 21 by decide), f_s_eq]
          have e22 : f_s (f_s (f_s (f_s (f_s f 20 r 2) 21 r x) 22 r y) 23 r z) 24 r x 22 r = y := by
            rw [f_s_row (show 22 ≠ 24 by decide), f_s_row (show 22 ≠ 23 by decide), f_s_eq]
          have e23 : f_s (f_s (f_s (f_s (f_s f 20 r 2) 21 r x) 22 r y) 23 r z) 24 r x 23 r = z := by
            rw [f_s_row (show 23 ≠ 24 by decide), f_s_eq]
          have e25 : f_s (f_s (f_s (f_s (f_s f 20 r 2) 21 r x) 22 r y) 23 r z) 24 r x 25 r = f 25 r := by
            rw [f_s_row (show 25 ≠ 24 by decide), f_s_row (show 25 ≠ 23 by decide), f_s_row (show 25 ≠ 22 by decide), f_s_row (show 25 ≠ 21 by decide), f_s_row (show 25 ≠ 20 by decide)]
          rw [e20, e22, e23, e25, f_s_eq]
          refine ⟨?_, by simp, fun e => absurd e (by decide), fun _ => ⟨?_, ?_, f_s_eq, a, b, ab1, ab2, ab3, ab4, zz⟩, ?_⟩
          · rw [f_s_ne (by omega), f_s_ne (by omega), f_s_ne (by omega), f_s_eq]
          · rw [f_s_ne (by omega), f_s_ne (by omega), f_s_eq]
          · rw [f_s_ne (by omega), f_s_eq]
          · rw [f_s_ne (by omega), f_s_ne (by omega), f_s_ne (by omega), f_s_ne (by omega)]
            exact (h.2.2.2.2.2.2.2.2 r hr r3).2.2.2.2.2.2.2.2.2.2
      have e42 : f_s (f_s (f_s (f_s (f_s f 20 r 2) 21 r x) 22 r y) 23 r z) 24 r x 4 2 = nI r := by
        rw [f_s_row (show 4 ≠ 24 by decide), f_s_row (show 4 ≠ 23 by decide), f_s_row (show 4 ≠ 22 by decide), f_s_row (show 4 ≠ 21 by decide), f_s_row (show 4 ≠ 20 by decide)]; exact r1
      obtain ⟨g', o', hrn'⟩ := rn_of h1 hr e42
      obtain ⟨M', e1, e2, e3, m1, m2, -⟩ := exit_ h1 hrn' 3 x y z
      have eM : h_si (h_si (h_si (h_si M (κ r) 4 2) (κ r) 6 x) (κ r) 7 y) (κ r) 8 z = mkU M (f_s (f_s (f_s (f_s (h_i M) (κ r) 4 2) (κ r) 6 x) (κ r) 7 y) (κ r) 8 z) := by rw [si_U M, U_si, U_si, U_si]
      rw [← eM] at e1
      rcases zz with rfl | rfl
      · exact OK2.of (v := 2) (by simp only [e_60_0, e_60_19, e_60_20, e_60_28, e_60_31, c_I, c_R, c_V, if_true, if_false, true_and, and_true, true_or, or_true, List.length_nil, List.length_cons, Nat.zero_le, k_si, l_si, r_si, k_sr, l_sr, i_sr, n_si, ar_si, ar_sr, ar_0, rc7 s1, s1, C_no, C_none, C_yes, C_done, C_bit0, C_bit1, C_fault, z10, z20, z30, z40, z50, z01, zm0, zm1, R_idle0 (r1.symm ▸ r2), r1, r4, r5, r6, x0, x1, x2, x3, x4, i_t (show r < 96 by omega) (by decide), i_c (show r < 2 ^ 31 by omega), e1, e2]; try rfl) (by simp only [e_169_0, e_169_18, e_169_44, kR1, kR2, kR3, kR4, kR5, kR6, kR7, kR8, kR9, kR10, kR11, kR12, kR13, kR14, kR15, kR16, kR17, kR18, kR19, kR20, kR21, kR22, kR23, kR24, kR25, kR26, kR27, kR28, kR29, kR30, lR1, lR2, lR3, lR4, lR5, lR6, lR7, lR8, lR9, lR10, lR11, lR12, lR13, lR14, lR15, lR16, lR17, lR18, lR19, lR20, lR21, lR22, lR23, lR24, lR25, lR26, lR27, lR28, lR29, lR30, rR5, rR6, rR7, rR8, rR9, rR10, rR11, rR12, rR13, rR14, rR15, rR16, rR17, rR18, rR19, rR20, rR21, rR22, rR23, rR24, rR25, rR26, rR27, rR28, rR29, rR30, R_i, R_si, R_rec, if_true, if_false, true_and, and_true, true_or, or_true, List.length_nil, List.length_cons, Nat.zero_le, c_I, c_R, c_V, R_no, R_refuse, R_fault, f_s_row, f4c, f4k, f4n, ne_eq, not_false_eq_true, not_true_eq_false, Nat.reduceEqDiff, reduceCtorEq, Nat.succ_ne_zero, Nat.reduceAdd, ar_0, z10, z20, z30, z40, z50, z01, zm0, zm1, R_idle0 (r1.symm ▸ r2), r1, r4, r5, r6, x0, x1, x2, x3, x4, i_t (show r < 96 by omega) (by decide), i_c (show r < 2 ^ 31 by omega), e1, e2]; try rfl) (e3) m1 m2
      · exact OK2.of (v := 2) (by simp only [e_60_0, e_60_19, e_60_20, e_60_28, e_60_31, c_I, c_R, c_V, if_true, if_false, true_and, and_true, true_or, or_true, List.length_nil, List.length_cons, Nat.zero_le, k_si, l_si, r_si, k_sr, l_sr, i_sr, n_si, ar_si, ar_sr, ar_0, rc7 s1, s1, C_no, C_none, C_yes, C_done, C_bit0, C_bit1, C_fault, z10, z20, z30, z40, z50, z01, zm0, zm1, R_idle0 (r1.symm ▸ r2), r1, r4, r5, r6, x0, x1, x2, x3, x4, i_t (show r < 96 by omega) (by decide), i_c (show r < 2 ^ 31 by omega), e1, e2]; try rfl) (by simp only [e_169_0, e_169_18, e_169_44, kR1, kR2, kR3, kR4, kR5, kR6, kR7, kR8, kR9, kR10, kR11, kR12, kR13, kR14, kR15, kR16, kR17, kR18, kR19, kR20, kR21, kR22, kR23, kR24, kR25, kR26, kR27, kR28, kR29, kR30, lR1, lR2, lR3, lR4, lR5, lR6, lR7, lR8, lR9, lR10, lR11, lR12, lR13, lR14, lR15, lR16, lR17, lR18, lR19, lR20, lR21, lR22, lR23, lR24, lR25, lR26, lR27, lR28, lR29, lR30, rR5, rR6, rR7, rR8, rR9, rR10, rR11, rR12, rR13, rR14, rR15, rR16, rR17, rR18, rR19, rR20, rR21, rR22, rR23, rR24, rR25, rR26, rR27, rR28, rR29, rR30, R_i, R_si, R_rec, if_true, if_false, true_and, and_true, true_or, or_true, List.length_nil, List.length_cons, Nat.zero_le, c_I, c_R, c_V, R_no, R_refuse, R_fault, f_s_row, f4c, f4k, f4n, ne_eq, not_false_eq_true, not_true_eq_false, Nat.reduceEqDiff, reduceCtorEq, Nat.succ_ne_zero, Nat.reduceAdd, ar_0, z10, z20, z30, z40, z50, z01, zm0, zm1, R_idle0 (r1.symm ▸ r2), r1, r4, r5, r6, x0, x1, x2, x3, x4, i_t (show r < 96 by omega) (by decide), i_c (show r < 2 ^ 31 by omega), e1, e2]; try rfl) (e3) m1 m2
    · have z0 : ¬ z = 0 := fun e => by rw [e] at x4; exact absurd x4 (by decide)
      have z1 : ¬ z = 1 := fun e => by rw [e] at x4; exact absurd x4 (by decide)
      exact OK2.of (v := 1) (by simp only [e_60_0, e_60_19, e_60_20, e_60_28, e_60_31, c_I, c_R, c_V, if_true, if_false, true_and, and_true, true_or, or_true, List.length_nil, List.length_cons, Nat.zero_le, k_si, l_si, r_si, k_sr, l_sr, i_sr, n_si, ar_si, ar_sr, ar_0, rc7 s1, s1, C_no, C_none, C_yes, C_done, C_bit0, C_bit1, C_fault, z10, z20, z30, z40, z50, z01, zm0, zm1, R_idle0 (r1.symm ▸ r2), r4, r5, x0, x1, x2, x3, x4, z0, z1]; try rfl) (by simp only [e_169_0, e_169_18, e_169_44, kR1, kR2, kR3, kR4, kR5, kR6, kR7, kR8, kR9, kR10, kR11, kR12, kR13, kR14, kR15, kR16, kR17, kR18, kR19, kR20, kR21, kR22, kR23, kR24, kR25, kR26, kR27, kR28, kR29, kR30, lR1, lR2, lR3, lR4, lR5, lR6, lR7, lR8, lR9, lR10, lR11, lR12, lR13, lR14, lR15, lR16, lR17, lR18, lR19, lR20, lR21, lR22, lR23, lR24, lR25, lR26, lR27, lR28, lR29, lR30, rR5, rR6, rR7, rR8, rR9, rR10, rR11, rR12, rR13, rR14, rR15, rR16, rR17, rR18, rR19, rR20, rR21, rR22, rR23, rR24, rR25, rR26, rR27, rR28, rR29, rR30, R_i, R_si, R_rec, if_true, if_false, true_and, and_true, true_or, or_true, List.length_nil, List.length_cons, Nat.zero_le, c_I, c_R, c_V, R_no, R_refuse, R_fault, f_s_row, f4c, f4k, f4n, ne_eq, not_false_eq_true, not_true_eq_false, Nat.reduceEqDiff, reduceCtorEq, Nat.succ_ne_zero, Nat.reduceAdd, ar_0, z10, z20, z30, z40, z50, z01, zm0, zm1, R_idle0 (r1.symm ▸ r2), r4, r5, x0, x1, x2, x3, x4, z0, z1]; try rfl) (U_fault h) rfl rfl
theorem W_cpw (h : Rel n M f ρ τ κ) {t g : Nat} (ht : t < n) (hg : g < n) : Rel n (h_cp M (Wd t) 1 (Wd g) 1 8) (f_r f 6 (32 * g + 1) (32 * g + 9) (fun j => f 6 (32 * t + (j - 32 * g)))) ρ τ κ :=
  U_words h hg (show 9 ≤ 32 by omega) (lo := 1) _ _ (fun k h1 h2 j hj => by
    subst hj
    show h_i M (Wd t) (1 + (k - 1)) = f 6 (32 * t + (32 * g + k - 32 * g))
    rw [show 1 + (k - 1) = k by omega, show 32 * g + k - 32 * g = k by omega]
    exact (h.2.2.2.2.2.1 t ht).2.2.1 k (by omega))
theorem C_copyM {M : mM} {t g : Nat} (a1 : h_k M (G_ t) = 3) (a2 : h_k M (G_ g) = 3) (b1 : h_r M (G_ t) 1 = Wd t) (b2 : h_r M (G_ g) 1 = Wd g) (c1 : h_k M (Wd t) = 9) (c2 : h_k M (Wd g) = 9) (d1 : h_l M (Wd t) = 32) (d2 : h_l M (Wd g) = 32) : ev 94 0 [some (.inr (G_ t)), some (.inr (G_ g))] [] M = some (none, h_cp M (Wd t) 1 (Wd g) 1 8) := by
  rw [e_94_0, if_pos a1, if_pos a2, b1, b2, c1, c2, d1, d2, if_pos (by decide)]
theorem R_copyM {t r g : Nat} (ht : t < 96) (hg : g < 96) (hr : r < 96) (hne : t ≠ g) (x v : Int32) : ∀ (d k : Nat) (F : Nat → Nat → Int32), k + d = 9 → F 26 r = nI g → F 5 g = 0 → ev 170 52 [some (.inr 4), some (.inl x), some (.inl (nI t)), some (.inl (nI r)), some (.inl v), some (.inl (nI k))] [] (mkR F) = some (some (.inl v), mkR (f_r F 6 (32 * g + k) (32 * g + 9) (fun j => F 6 (32 * t + (j - 32 * g))))) := by
  intro d
  induction d with
  | zero =>
    intro k F hk h1 h2
    rw [e_170_52, if_pos (by rw [show k = 9 by omega]; decide), e_170_84, show 32 * g + k = 32 * g + 9 by omega, f_r0]
  | succ d ih =>
    intro k F hk h1 h2
    have l8 : ¬ (8 : Int32) < nI k := nI_nlt (a := 8) (by omega) (by decide)
    rw [e_170_52]
    simp only [kR1, kR2, kR3, kR4, kR5, kR6, kR7, kR8, kR9, kR10, kR11, kR12, kR13, kR14, kR15, kR16, kR17, kR18, kR19, kR20, kR21, kR22, kR23, kR24, kR25, kR26, kR27, kR28, kR29, kR30, lR1, lR2, lR3, lR4, lR5, lR6, lR7, lR8, lR9, lR10, lR11, lR12, lR13, lR14, lR15, lR16, lR17, lR18, lR19, lR20, lR21, lR22, lR23, lR24, lR25, lR26, lR27, lR28, lR29, lR30, rR5, rR6, rR7, rR8, rR9, rR10, rR11, rR12, rR13, rR14, rR15, rR16, rR17, rR18, rR19, rR20, rR21, rR22, rR23, rR24, rR25, rR26, rR27, rR28, rR29, rR30, R_i, R_si, R_rec, if_true, if_false, true_and, and_true, true_or, or_true, List.length_nil, List.length_cons, Nat.zero_le, c_I, c_R, c_V, l8, h1, h2, z10, i_t hr (N := 96) (by decide), i_c (show r < 2 ^ 31 by omega), R_is hg, n32, nI_1, i_t (show 32 * t + k < 3072 by omega) (by decide), i_c (show 32 * t + k < 2 ^ 31 by omega), i_t (show 32 * g + k < 3072 by omega) (by decide), i_c (show 32 * g + k < 2 ^ 31 by omega)]
    rw [ih (k + 1) _ (by omega) (by rw [f_s_row (show 26 ≠ 6 by decide)]; exact h1) (by rw [f_s_row (show 5 ≠ 6 by decide)]; exact h2)]
    have e := f_rs2 (F := F) (a := 6) (b := 6) (lo := 32 * g + k) (hi := 32 * g + 9) (w := fun j => 32 * t + (j - 32 * g)) (by omega) (Or.inr (fun j h3 h4 => by show 32 * t + (j - 32 * g) ≠ 32 * g + k; omega))
    simp only [show 32 * g + k - 32 * g = k by omega] at e
    rw [← Nat.add_assoc, e]
theorem R_copyM0 {t r g : Nat} (hg : g < 96) (hr : r < 96) (x v : Int32) {F : Nat → Nat → Int32} (h1 : F 26 r = nI g) (h2 : ¬ F 5 g = 0) : ev 170 52 [some (.inr 4), some (.inl x), some (.inl (nI t)), some (.inl (nI r)), some (.inl v), some (.inl 1)] [] (mkR F) = some (some (.inl v), mkR F) := by
  rw [e_170_52]
  simp only [e_170_84, kR1, kR2, kR3, kR4, kR5, kR6, kR7, kR8, kR9, kR10, kR11, kR12, kR13, kR14, kR15, kR16, kR17, kR18, kR19, kR20, kR21, kR22, kR23, kR24, kR25, kR26, kR27, kR28, kR29, kR30, lR1, lR2, lR3, lR4, lR5, lR6, lR7, lR8, lR9, lR10, lR11, lR12, lR13, lR14, lR15, lR16, lR17, lR18, lR19, lR20, lR21, lR22, lR23, lR24, lR25, lR26, lR27, lR28, lR29, lR30, rR5, rR6, rR7, rR8, rR9, rR10, rR11, rR12, rR13, rR14, rR15, rR16, rR17, rR18, rR19, rR20, rR21, rR22, rR23, rR24, rR25, rR26, rR27, rR28, rR29, rR30, R_i, R_si, R_rec, if_true, if_false, true_and, and_true, true_or, or_true, List.length_nil, List.length_cons, Nat.zero_le, c_I, c_R, c_V, show ¬ (8 : Int32) < 1 from by decide, h1, h2, i_t hr (N := 96) (by decide), i_c (show r < 2 ^ 31 by omega), R_is hg]
theorem op_call (h : Rel n M f ρ τ κ) (x : Int32) : OK2 n M (ev 61 0 [some (.inr 4), some (.inl x), none, none, none, none] [] M) (ev 170 0 [some (.inr 4), some (.inl x), none, none, none, none] [] (mkR f)) := by
  have s1 := h.1.2.1.1
  have hN := h.2.2.2.1.2.2.1
  rcases run_ h with ⟨r1, r2⟩ | ⟨r, g, o, hrn⟩
  · exact OK2.of (v := -1) (by simp only [e_61_0, e_61_50, c_I, c_R, c_V, if_true, if_false, true_and, and_true, true_or, or_true, List.length_nil, List.length_cons, Nat.zero_le, k_si, l_si, r_si, k_sr, l_sr, i_sr, n_si, ar_si, ar_sr, ar_0, rc7 s1, s1, C_no, C_none, C_yes, C_done, C_bit0, C_bit1, C_fault, z10, z20, z30, z40, z50, z01, zm0, zm1, R_idle1 r1, r2]; try rfl) (by simp only [e_170_0, e_170_13, kR1, kR2, kR3, kR4, kR5, kR6, kR7, kR8, kR9, kR10, kR11, kR12, kR13, kR14, kR15, kR16, kR17, kR18, kR19, kR20, kR21, kR22, kR23, kR24, kR25, kR26, kR27, kR28, kR29, kR30, lR1, lR2, lR3, lR4, lR5, lR6, lR7, lR8, lR9, lR10, lR11, lR12, lR13, lR14, lR15, lR16, lR17, lR18, lR19, lR20, lR21, lR22, lR23, lR24, lR25, lR26, lR27, lR28, lR29, lR30, rR5, rR6, rR7, rR8, rR9, rR10, rR11, rR12, rR13, rR14, rR15, rR16, rR17, rR18, rR19, rR20, rR21, rR22, rR23, rR24, rR25, rR26, rR27, rR28, rR29, rR30, R_i, R_si, R_rec, if_true, if_false, true_and, and_true, true_or, or_true, List.length_nil, List.length_cons, Nat.zero_le, c_I, c_R, c_V, R_no, R_refuse, R_fault, f_s_row, f4c, f4k, f4n, ne_eq, not_false_eq_true, not_true_eq_false, Nat.reduceEqDiff, reduceCtorEq, Nat.succ_ne_zero, Nat.reduceAdd, ar_0, z10, z20, z30, z40, z50, z01, zm0, zm1, R_idle1 r1, r2]; try rfl) (U_status h 4) rfl rfl
  · obtain ⟨⟨hr, hg, ho⟩, r1, r2, r3, r4, r5, r6, r7, r8, r9, r10, r11, r12, r13, r14, r15, r16⟩ := id hrn
    rcases ix2048 x with ⟨hx, -⟩ | ⟨hx, -⟩ | ⟨P, hP, rfl, -⟩
    · exact OK2.of (v := 1) (by simp only [e_61_0, e_61_50, c_I, c_R, c_V, if_true, if_false, true_and, and_true, true_or, or_true, List.length_nil, List.length_cons, Nat.zero_le, k_si, l_si, r_si, k_sr, l_sr, i_sr, n_si, ar_si, ar_sr, ar_0, rc7 s1, s1, C_no, C_none, C_yes, C_done, C_bit0, C_bit1, C_fault, z10, z20, z30, z40, z50, z01, zm0, zm1, R_idle0 (r1.symm ▸ r2), r4, r5, C_isProt0 (Or.inl hx), R_isSafe0 (Or.inl hx)]; try rfl) (by simp only [e_170_0, e_170_13, kR1, kR2, kR3, kR4, kR5, kR6, kR7, kR8, kR9, kR10, kR11, kR12, kR13, kR14, kR15, kR16, kR17, kR18, kR19, kR20, kR21, kR22, kR23, kR24, kR25, kR26, kR27, kR28, kR29, kR30, lR1, lR2, lR3, lR4, lR5, lR6, lR7, lR8, lR9, lR10, lR11, lR12, lR13, lR14, lR15, lR16, lR17, lR18, lR19, lR20, lR21, lR22, lR23, lR24, lR25, lR26, lR27, lR28, lR29, lR30, rR5, rR6, rR7, rR8, rR9, rR10, rR11, rR12, rR13, rR14, rR15, rR16, rR17, rR18, rR19, rR20, rR21, rR22, rR23, rR24, rR25, rR26, rR27, rR28, rR29, rR30, R_i, R_si, R_rec, if_true, if_false, true_and, and_true, true_or, or_true, List.length_nil, List.length_cons, Nat.zero_le, c_I, c_R, c_V, R_no, R_refuse, R_fault, f_s_row, f4c, f4k, f4n, ne_eq, not_false_eq_true, not_true_eq_false, Nat.reduceEqDiff, reduceCtorEq, Nat.succ_ne_zero, Nat.reduceAdd, ar_0, z10, z20, z30, z40, z50, z01, zm0, zm1, R_idle0 (r1.symm ▸ r2), r4, r5, C_isProt0 (Or.inl hx), R_isSafe0 (Or.inl hx)]; try rfl) (U_fault h) rfl rfl
    · exact OK2.of (v := 1) (by simp only [e_61_0, e_61_50, c_I, c_R, c_V, if_true, if_false, true_and, and_true, true_or, or_true, List.length_nil, List.length_cons, Nat.zero_le, k_si, l_si, r_si, k_sr, l_sr, i_sr, n_si, ar_si, ar_sr, ar_0, rc7 s1, s1, C_no, C_none, C_yes, C_done, C_bit0, C_bit1, C_fault, z10, z20, z30, z40, z50, z01, zm0, zm1, R_idle0 (r1.symm ▸ r2), r4, r5, C_isProt0 (Or.inr hx), R_isSafe0 (Or.inr hx)]; try rfl) (by simp only [e_170_0, e_170_13, kR1, kR2, kR3, kR4, kR5, kR6, kR7, kR8, kR9, kR10, kR11, kR12, kR13, kR14, kR15, kR16, kR17, kR18, kR19, kR20, kR21, kR22, kR23, kR24, kR25, kR26, kR27, kR28, kR29, kR30, lR1, lR2, lR3, lR4, lR5, lR6, lR7, lR8, lR9, lR10, lR11, lR12, lR13, lR14, lR15, lR16, lR17, lR18, lR19, lR20, lR21, lR22, lR23, lR24, lR25, lR26, lR27, lR28, lR29, lR30, rR5, rR6, rR7, rR8, rR9, rR10, rR11, rR12, rR13, rR14, rR15, rR16, rR17, rR18, rR19, rR20, rR21, rR22, rR23, rR24, rR25, rR26, rR27, rR28, rR29, rR30, R_i, R_si, R_rec, if_true, if_false, true_and, and_true, true_or, or_true, List.length_nil, List.length_cons, Nat.zero_le, c_I, c_R, c_V, R_no, R_refuse, R_fault, f_s_row, f4c, f4k, f4n, ne_eq, not_false_eq_true, not_true_eq_false, Nat.reduceEqDiff, reduceCtorEq, Nat.succ_ne_zero, Nat.reduceAdd, ar_0, z10, z20, z30, z40, z50, z01, zm0, zm1, R_idle0 (r1.symm ▸ r2), r4, r5, C_isProt0 (Or.inr hx), R_isSafe0 (Or.inr hx)]; try rfl) (U_fault h) rfl rfl
    rcases reach_ h hrn (show P < 4096 by omega) with ⟨t, ht, c1, c2, c3⟩ | ⟨c1, c2, c3⟩ | ⟨c1, c2, c3⟩
    · have t5 := c3 hP
      have h1 : Rel n (mkU M (f_s (f_s (h_i M) (κ r) 4 1) (κ r) 5 (nI P))) (f_s (f_s f 20 r 1) 21 r (nI P)) ρ τ κ := by
        refine U_ctx h hr r3 (fun a k q => ?_) (fun b j q => ?_) ?_
        · rw [f_s_ne (by omega), f_s_ne (by omega)]
        · rw [f_s_ne (by omega), f_s_ne (by omega)]
        · have e20 : f_s (f_s f 20 r 1) 21 r (nI P) 20 r = 1 := by rw [f_s_row (show 20 ≠ 21 by decide), f_s_eq]
          have e25 : f_s (f_s f 20 r 1) 21 r (nI P) 25 r = f 25 r := by rw [f_s_row (show 25 ≠ 21 by decide), f_s_row (show 25 ≠ 20 by decide)]
          rw [e20, e25]
          refine ⟨?_, by simp, fun _ => ⟨f_s_eq.trans f_s_eq.symm, P, hP, f_s_eq⟩, fun e => absurd e (by decide), ?_⟩
          · rw [f_s_ne (by omega), f_s_eq]
          · rw [f_s_ne (by omega), f_s_ne (by omega)]
            exact (h.2.2.2.2.2.2.2.2 r hr r3).2.2.2.2.2.2.2.2.2.2
      have e42 : f_s (f_s f 20 r 1) 21 r (nI P) 4 2 = nI r := by
        rw [f_s_row (show 4 ≠ 21 by decide), f_s_row (show 4 ≠ 20 by decide)]; exact r1
      obtain ⟨g', o', hrn'⟩ := rn_of h1 hr e42
      have hg' := hrn'.1.2.1
      have g26 := hrn'.2.2.2.2.2.2.2.2.2.2.2.2.2.2.1
      have gR := hrn'.2.2.2.2.2.2.2.2.2.2.2.2.2.2.2.1
      obtain ⟨M', e1, e2, e3, m1, m2, m3, m4, m5⟩ := exit_ h1 hrn' 2 0 0 0
      have eM : h_si (h_si M (κ r) 4 1) (κ r) 5 (nI P) = mkU M (f_s (f_s (h_i M) (κ r) 4 1) (κ r) 5 (nI P)) := by rw [si_U M, U_si]
      rw [← eM] at e1
      generalize hF : f_s (X_ (f_s (f_s f 20 r 1) 21 r (nI P)) g' 2 0 0 0) 4 1 0 = F at e2 e3
      have F26 : F 26 r = nI g' := by rw [← hF, f_s_row (show 26 ≠ 4 by decide), X_row _ _ _ _ _ _ (by decide) (by decide)]; exact g26
      have F5 : ∀ j, F 5 j = f 5 j := fun j => by rw [← hF, f_s_row (show 5 ≠ 4 by decide), X_row _ _ _ _ _ _ (by decide) (by decide), f_s_row (show 5 ≠ 21 by decide), f_s_row (show 5 ≠ 20 by decide)]
      have hc4 := (at_c h hr r3).1
      have q9 : h_r M' (κ r) 9 = G_ g' := by rw [m3 _ _ (by omega)]; exact gR
      have qk : h_k M' (κ r) = 5 := by rw [m4]; exact r6
      obtain ⟨a1, a2, a3, a4, a5⟩ := e3.1.2.2.2.2.1 g' hg'
      obtain ⟨b1, b2, b3, b4, b5⟩ := e3.1.2.2.2.2.1 t ht
      have z2 := (e3.2.2.2.2.2.1 g' hg').2.1
      rw [F5] at z2
      by_cases c0 : f 5 g' = 0
      · have hne : t ≠ g' := fun e => by rw [e, c0] at t5; exact absurd t5 (by decide)
        have cc := C_copyM (M := M') b2 a2 b3 a3 b4 a4 b5 a5
        have rc := R_copyM (x := nI P) (v := 2) (show t < 96 by omega) (show g' < 96 by omega) (show r < 96 by omega) hne 8 1 F rfl F26 (by rw [F5]; exact c0)
        rw [show nI 1 = 1 from rfl] at rc
        have h9 := W_cpw e3 ht hg'
        exact OK2.of (v := 2) (by simp only [e_61_0, e_61_50, e_26_0, e_26_10, e_26_11, c_I, c_R, c_V, if_true, if_false, true_and, and_true, true_or, or_true, List.length_nil, List.length_cons, Nat.zero_le, k_si, l_si, r_si, k_sr, l_sr, i_sr, n_si, ar_si, ar_sr, ar_0, rc7 s1, s1, C_no, C_none, C_yes, C_done, C_bit0, C_bit1, C_fault, z10, z20, z30, z40, z50, z01, zm0, zm1, R_idle0 (r1.symm ▸ r2), r1, r4, r5, r6, r10, C_isProt1 hP, R_isSafe1 hP, c1, c2, G_ne, nI_m1 (show t < 2 ^ 31 by omega), nI_m2 (show t < 2 ^ 31 by omega), i_t (show r < 96 by omega) (by decide), i_c (show r < 2 ^ 31 by omega), e1, e2, rc5 qk, qk, q9, a2, z2, c0, cc, rc]; try rfl) (by simp only [e_170_0, e_170_13, kR1, kR2, kR3, kR4, kR5, kR6, kR7, kR8, kR9, kR10, kR11, kR12, kR13, kR14, kR15, kR16, kR17, kR18, kR19, kR20, kR21, kR22, kR23, kR24, kR25, kR26, kR27, kR28, kR29, kR30, lR1, lR2, lR3, lR4, lR5, lR6, lR7, lR8, lR9, lR10, lR11, lR12, lR13, lR14, lR15, lR16, lR17, lR18, lR19, lR20, lR21, lR22, lR23, lR24, lR25, lR26, lR27, lR28, lR29, lR30, rR5, rR6, rR7, rR8, rR9, rR10, rR11, rR12, rR13, rR14, rR15, rR16, rR17, rR18, rR19, rR20, rR21, rR22, rR23, rR24, rR25, rR26, rR27, rR28, rR29, rR30, R_i, R_si, R_rec, if_true, if_false, true_and, and_true, true_or, or_true, List.length_nil, List.length_cons, Nat.zero_le, c_I, c_R, c_V, R_no, R_refuse, R_fault, f_s_row, f4c, f4k, f4n, ne_eq, not_false_eq_true, not_true_eq_false, Nat.reduceEqDiff, reduceCtorEq, Nat.succ_ne_zero, Nat.reduceAdd, ar_0, z10, z20, z30, z40, z50, z01, zm0, zm1, R_idle0 (r1.symm ▸ r2), r1, r4, r5, r6, r10, C_isProt1 hP, R_isSafe1 hP, c1, c2, G_ne, nI_m1 (show t < 2 ^ 31 by omega), nI_m2 (show t < 2 ^ 31 by omega), i_t (show r < 96 by omega) (by decide), i_c (show r < 2 ^ 31 by omega), e1, e2, rc5 qk, qk, q9, a2, z2, c0, cc, rc]; try rfl) (h9) m1 m2
      · have rc := R_copyM0 (t := t) (x := nI P) (v := 2) (show g' < 96 by omega) (show r < 96 by omega) F26 (by rw [F5]; exact c0)
        exact OK2.of (v := 2) (by simp only [e_61_0, e_61_50, e_26_0, e_26_10, e_26_11, c_I, c_R, c_V, if_true, if_false, true_and, and_true, true_or, or_true, List.length_nil, List.length_cons, Nat.zero_le, k_si, l_si, r_si, k_sr, l_sr, i_sr, n_si, ar_si, ar_sr, ar_0, rc7 s1, s1, C_no, C_none, C_yes, C_done, C_bit0, C_bit1, C_fault, z10, z20, z30, z40, z50, z01, zm0, zm1, R_idle0 (r1.symm ▸ r2), r1, r4, r5, r6, r10, C_isProt1 hP, R_isSafe1 hP, c1, c2, G_ne, nI_m1 (show t < 2 ^ 31 by omega), nI_m2 (show t < 2 ^ 31 by omega), i_t (show r < 96 by omega) (by decide), i_c (show r < 2 ^ 31 by omega), e1, e2, rc5 qk, qk, q9, a2, z2, c0, rc]; try rfl) (by simp only [e_170_0, e_170_13, kR1, kR2, kR3, kR4, kR5, kR6, kR7, kR8, kR9, kR10, kR11, kR12, kR13, kR14, kR15, kR16, kR17, kR18, kR19, kR20, kR21, kR22, kR23, kR24, kR25, kR26, kR27, kR28, kR29, kR30, lR1, lR2, lR3, lR4, lR5, lR6, lR7, lR8, lR9, lR10, lR11, lR12, lR13, lR14, lR15, lR16, lR17, lR18, lR19, lR20, lR21, lR22, lR23, lR24, lR25, lR26, lR27, lR28, lR29, lR30, rR5, rR6, rR7, rR8, rR9, rR10, rR11, rR12, rR13, rR14, rR15, rR16, rR17, rR18, rR19, rR20, rR21, rR22, rR23, rR24, rR25, rR26, rR27, rR28, rR29, rR30, R_i, R_si, R_rec, if_true, if_false, true_and, and_true, true_or, or_true, List.length_nil, List.length_cons, Nat.zero_le, c_I, c_R, c_V, R_no, R_refuse, R_fault, f_s_row, f4c, f4k, f4n, ne_eq, not_false_eq_true, not_true_eq_false, Nat.reduceEqDiff, reduceCtorEq, Nat.succ_ne_zero, Nat.reduceAdd, ar_0, z10, z20, z30, z40, z50, z01, zm0, zm1, R_idle0 (r1.symm ▸ r2), r1, r4, r5, r6, r10, C_isProt1 hP, R_isSafe1 hP, c1, c2, G_ne, nI_m1 (show t < 2 ^ 31 by omega), nI_m2 (show t < 2 ^ 31 by omega), i_t (show r < 96 by omega) (by decide), i_c (show r < 2 ^ 31 by omega), e1, e2, rc5 qk, qk, q9, a2, z2, c0, rc]; try rfl) (e3) m1 m2
    · exact OK2.of (v := 1) (by simp only [e_61_0, e_61_50, c_I, c_R, c_V, if_true, if_false, true_and, and_true, true_or, or_true, List.length_nil, List.length_cons, Nat.zero_le, k_si, l_si, r_si, k_sr, l_sr, i_sr, n_si, ar_si, ar_sr, ar_0, rc7 s1, s1, C_no, C_none, C_yes, C_done, C_bit0, C_bit1, C_fault, z10, z20, z30, z40, z50, z01, zm0, zm1, R_idle0 (r1.symm ▸ r2), r4, r5, r6, r10, C_isProt1 hP, R_isSafe1 hP, c1, c2, c3]; try rfl) (by simp only [e_170_0, e_170_13, kR1, kR2, kR3, kR4, kR5, kR6, kR7, kR8, kR9, kR10, kR11, kR12, kR13, kR14, kR15, kR16, kR17, kR18, kR19, kR20, kR21, kR22, kR23, kR24, kR25, kR26, kR27, kR28, kR29, kR30, lR1, lR2, lR3, lR4, lR5, lR6, lR7, lR8, lR9, lR10, lR11, lR12, lR13, lR14, lR15, lR16, lR17, lR18, lR19, lR20, lR21, lR22, lR23, lR24, lR25, lR26, lR27, lR28, lR29, lR30, rR5, rR6, rR7, rR8, rR9, rR10, rR11, rR12, rR13, rR14, rR15, rR16, rR17, rR18, rR19, rR20, rR21, rR22, rR23, rR24, rR25, rR26, rR27, rR28, rR29, rR30, R_i, R_si, R_rec, if_true, if_false, true_and, and_true, true_or, or_true, List.length_nil, List.length_cons, Nat.zero_le, c_I, c_R, c_V, R_no, R_refuse, R_fault, f_s_row, f4c, f4k, f4n, ne_eq, not_false_eq_true, not_true_eq_false, Nat.reduceEqDiff, reduceCtorEq, Nat.succ_ne_zero, Nat.reduceAdd, ar_0, z10, z20, z30, z40, z50, z01, zm0, zm1, R_idle0 (r1.symm ▸ r2), r4, r5, r6, r10, C_isProt1 hP, R_isSafe1 hP, c1, c2, c3]; try rfl) (U_fault h) rfl rfl
    · obtain ⟨M', e1, e2, e3, m1, m2, -⟩ := exit_ h hrn 5 (nI P) 0 0
      exact OK2.of (v := 2) (by simp only [e_61_0, e_61_50, c_I, c_R, c_V, if_true, if_false, true_and, and_true, true_or, or_true, List.length_nil, List.length_cons, Nat.zero_le, k_si, l_si, r_si, k_sr, l_sr, i_sr, n_si, ar_si, ar_sr, ar_0, rc7 s1, s1, C_no, C_none, C_yes, C_done, C_bit0, C_bit1, C_fault, z10, z20, z30, z40, z50, z01, zm0, zm1, R_idle0 (r1.symm ▸ r2), r4, r5, r6, r10, C_isProt1 hP, R_isSafe1 hP, c1, c2, c3 0 (by simp), e1, e2, m21]; try rfl) (by simp only [e_170_0, e_170_13, kR1, kR2, kR3, kR4, kR5, kR6, kR7, kR8, kR9, kR10, kR11, kR12, kR13, kR14, kR15, kR16, kR17, kR18, kR19, kR20, kR21, kR22, kR23, kR24, kR25, kR26, kR27, kR28, kR29, kR30, lR1, lR2, lR3, lR4, lR5, lR6, lR7, lR8, lR9, lR10, lR11, lR12, lR13, lR14, lR15, lR16, lR17, lR18, lR19, lR20, lR21, lR22, lR23, lR24, lR25, lR26, lR27, lR28, lR29, lR30, rR5, rR6, rR7, rR8, rR9, rR10, rR11, rR12, rR13, rR14, rR15, rR16, rR17, rR18, rR19, rR20, rR21, rR22, rR23, rR24, rR25, rR26, rR27, rR28, rR29, rR30, R_i, R_si, R_rec, if_true, if_false, true_and, and_true, true_or, or_true, List.length_nil, List.length_cons, Nat.zero_le, c_I, c_R, c_V, R_no, R_refuse, R_fault, f_s_row, f4c, f4k, f4n, ne_eq, not_false_eq_true, not_true_eq_false, Nat.reduceEqDiff, reduceCtorEq, Nat.succ_ne_zero, Nat.reduceAdd, ar_0, z10, z20, z30, z40, z50, z01, zm0, zm1, R_idle0 (r1.symm ▸ r2), r4, r5, r6, r10, C_isProt1 hP, R_isSafe1 hP, c1, c2, c3 0 (by simp), e1, e2, m21]; try rfl) (e3) m1 m2
theorem R_meas {r o i : Nat} (hr : r < 96) (ho : o < 96) (hi : i < 5) : ∀ (d k : Nat) (F : Nat → Nat → Int32), k + d = 8 → F 4 2 = nI r → F 7 r = nI o → ev 171 15 [some (.inr 4), some (.inl (nI i)), some (.inl (nI k))] [] (mkR F) = some (some (.inl 0), mkR (f_r F 19 (8 * r + k) (8 * r + 8) (fun j => F 11 (40 * o + 8 * i + (j - 8 * r))))) := by
  intro d
  induction d with
  | zero =>
    intro k F hk h1 h2
    rw [e_171_15, if_pos (by rw [show k = 8 by omega]; decide), show 8 * r + k = 8 * r + 8 by omega, f_r0]
  | succ d ih =>
    intro k F hk h1 h2
    rw [e_171_15]
    simp only [kR1, kR2, kR3, kR4, kR5, kR6, kR7, kR8, kR9, kR10, kR11, kR12, kR13, kR14, kR15, kR16, kR17, kR18, kR19, kR20, kR21, kR22, kR23, kR24, kR25, kR26, kR27, kR28, kR29, kR30, lR1, lR2, lR3, lR4, lR5, lR6, lR7, lR8, lR9, lR10, lR11, lR12, lR13, lR14, lR15, lR16, lR17, lR18, lR19, lR20, lR21, lR22, lR23, lR24, lR25, lR26, lR27, lR28, lR29, lR30, rR5, rR6, rR7, rR8, rR9, rR10, rR11, rR12, rR13, rR14, rR15, rR16, rR17, rR18, rR19, rR20, rR21, rR22, rR23, rR24, rR25, rR26, rR27, rR28, rR29, rR30, R_i, R_si, R_rec, if_true, if_false, true_and, and_true, true_or, or_true, List.length_nil, List.length_cons, Nat.zero_le, c_I, c_R, c_V, n_l (N := 8) (k := k) 8 rfl (by omega) (by decide), h1, h2, i_t hr (N := 96) (by decide), i_c (show r < 2 ^ 31 by omega), n488, n8, nI_1, i_t (show 40 * o + 8 * i + k < 3840 by omega) (by decide), i_c (show 40 * o + 8 * i + k < 2 ^ 31 by omega), i_t (show 8 * r + k < 768 by omega) (by decide), i_c (show 8 * r + k < 2 ^ 31 by omega)]
    rw [ih (k + 1) _ (by omega) (by rw [f_s_row (show 4 ≠ 19 by decide)]; exact h1) (by rw [f_s_row (show 7 ≠ 19 by decide)]; exact h2)]
    have e := f_rs2 (F := F) (a := 19) (b := 11) (lo := 8 * r + k) (hi := 8 * r + 8) (w := fun j => 40 * o + 8 * i + (j - 8 * r)) (by omega) (Or.inl (by decide))
    simp only [show 8 * r + k - 8 * r = k by omega] at e
    rw [← Nat.add_assoc, e]
theorem op_measure (h : Rel n M f ρ τ κ) (x : Int32) : OK2 n M (ev 62 0 [some (.inr 4), some (.inl x), none] [] M) (ev 171 0 [some (.inr 4), some (.inl x), none] [] (mkR f)) := by
  have s1 := h.1.2.1.1
  have hN := h.2.2.2.1.2.2.1
  rcases run_ h with ⟨r1, r2⟩ | ⟨r, g, o, hrn⟩
  · exact OK2.of (v := -1) (by simp only [e_62_0, c_I, c_R, c_V, if_true, if_false, true_and, and_true, true_or, or_true, List.length_nil, List.length_cons, Nat.zero_le, k_si, l_si, r_si, k_sr, l_sr, i_sr, n_si, ar_si, ar_sr, ar_0, rc7 s1, s1, C_no, C_none, C_yes, C_done, C_bit0, C_bit1, C_fault, z10, z20, z30, z40, z50, z01, zm0, zm1, R_idle1 r1, r2]; try rfl) (by simp only [e_171_0, e_171_10, kR1, kR2, kR3, kR4, kR5, kR6, kR7, kR8, kR9, kR10, kR11, kR12, kR13, kR14, kR15, kR16, kR17, kR18, kR19, kR20, kR21, kR22, kR23, kR24, kR25, kR26, kR27, kR28, kR29, kR30, lR1, lR2, lR3, lR4, lR5, lR6, lR7, lR8, lR9, lR10, lR11, lR12, lR13, lR14, lR15, lR16, lR17, lR18, lR19, lR20, lR21, lR22, lR23, lR24, lR25, lR26, lR27, lR28, lR29, lR30, rR5, rR6, rR7, rR8, rR9, rR10, rR11, rR12, rR13, rR14, rR15, rR16, rR17, rR18, rR19, rR20, rR21, rR22, rR23, rR24, rR25, rR26, rR27, rR28, rR29, rR30, R_i, R_si, R_rec, if_true, if_false, true_and, and_true, true_or, or_true, List.length_nil, List.length_cons, Nat.zero_le, c_I, c_R, c_V, R_no, R_refuse, R_fault, f_s_row, f4c, f4k, f4n, ne_eq, not_false_eq_true, not_true_eq_false, Nat.reduceEqDiff, reduceCtorEq, Nat.succ_ne_zero, Nat.reduceAdd, ar_0, z10, z20, z30, z40, z50, z01, zm0, zm1, R_idle1 r1, r2]; try rfl) (U_status h 4) rfl rfl
  · obtain ⟨⟨hr, hg, ho⟩, r1, r2, r3, r4, r5, r6, r7, r8, r9, r10, r11, r12, r13, r14, r15, r16⟩ := id hrn
    rcases ix5 x with ⟨hx, -⟩ | ⟨hx, x1, x2, x3, x4, x5⟩ | ⟨i, hi, rfl, x1, x2, x3, x4, -⟩
    · exact OK2.of (v := 1) (by simp only [e_62_0, c_I, c_R, c_V, if_true, if_false, true_and, and_true, true_or, or_true, List.length_nil, List.length_cons, Nat.zero_le, k_si, l_si, r_si, k_sr, l_sr, i_sr, n_si, ar_si, ar_sr, ar_0, rc7 s1, s1, C_no, C_none, C_yes, C_done, C_bit0, C_bit1, C_fault, z10, z20, z30, z40, z50, z01, zm0, zm1, R_idle0 (r1.symm ▸ r2), r4, r5, C_isMeas0 (Or.inl hx), hx]; try rfl) (by simp only [e_171_0, e_171_10, kR1, kR2, kR3, kR4, kR5, kR6, kR7, kR8, kR9, kR10, kR11, kR12, kR13, kR14, kR15, kR16, kR17, kR18, kR19, kR20, kR21, kR22, kR23, kR24, kR25, kR26, kR27, kR28, kR29, kR30, lR1, lR2, lR3, lR4, lR5, lR6, lR7, lR8, lR9, lR10, lR11, lR12, lR13, lR14, lR15, lR16, lR17, lR18, lR19, lR20, lR21, lR22, lR23, lR24, lR25, lR26, lR27, lR28, lR29, lR30, rR5, rR6, rR7, rR8, rR9, rR10, rR11, rR12, rR13, rR14, rR15, rR16, rR17, rR18, rR19, rR20, rR21, rR22, rR23, rR24, rR25, rR26, rR27, rR28, rR29, rR30, R_i, R_si, R_rec, if_true, if_false, true_and, and_true, true_or, or_true, List.length_nil, List.length_cons, Nat.zero_le, c_I, c_R, c_V, R_no, R_refuse, R_fault, f_s_row, f4c, f4k, f4n, ne_eq, not_false_eq_true, not_true_eq_false, Nat.reduceEqDiff, reduceCtorEq, Nat.succ_ne_zero, Nat.reduceAdd, ar_0, z10, z20, z30, z40, z50, z01, zm0, zm1, R_idle0 (r1.symm ▸ r2), r4, r5, C_isMeas0 (Or.inl hx), hx]; try rfl) (U_fault h) rfl rfl
    · exact OK2.of (v := 1) (by simp only [e_62_0, c_I, c_R, c_V, if_true, if_false, true_and, and_true, true_or, or_true, List.length_nil, List.length_cons, Nat.zero_le, k_si, l_si, r_si, k_sr, l_sr, i_sr, n_si, ar_si, ar_sr, ar_0, rc7 s1, s1, C_no, C_none, C_yes, C_done, C_bit0, C_bit1, C_fault, z10, z20, z30, z40, z50, z01, zm0, zm1, R_idle0 (r1.symm ▸ r2), r4, r5, C_isMeas0 (Or.inr hx), x1, x3]; try rfl) (by simp only [e_171_0, e_171_10, kR1, kR2, kR3, kR4, kR5, kR6, kR7, kR8, kR9, kR10, kR11, kR12, kR13, kR14, kR15, kR16, kR17, kR18, kR19, kR20, kR21, kR22, kR23, kR24, kR25, kR26, kR27, kR28, kR29, kR30, lR1, lR2, lR3, lR4, lR5, lR6, lR7, lR8, lR9, lR10, lR11, lR12, lR13, lR14, lR15, lR16, lR17, lR18, lR19, lR20, lR21, lR22, lR23, lR24, lR25, lR26, lR27, lR28, lR29, lR30, rR5, rR6, rR7, rR8, rR9, rR10, rR11, rR12, rR13, rR14, rR15, rR16, rR17, rR18, rR19, rR20, rR21, rR22, rR23, rR24, rR25, rR26, rR27, rR28, rR29, rR30, R_i, R_si, R_rec, if_true, if_false, true_and, and_true, true_or, or_true, List.length_nil, List.length_cons, Nat.zero_le, c_I, c_R, c_V, R_no, R_refuse, R_fault, f_s_row, f4c, f4k, f4n, ne_eq, not_false_eq_true, not_true_eq_false, Nat.reduceEqDiff, reduceCtorEq, Nat.succ_ne_zero, Nat.reduceAdd, ar_0, z10, z20, z30, z40, z50, z01, zm0, zm1, R_idle0 (r1.symm ▸ r2), r4, r5, C_isMeas0 (Or.inr hx), x1, x3]; try rfl) (U_fault h) rfl rfl
    · obtain ⟨d1, -, -, -, -, -, -, -, -, d10⟩ := h.2.2.2.2.2.2.1 o ho r12
      obtain ⟨y1, y2, y3, y4, y5, y6⟩ := (h.2.1 (ρ o)).1 d1
      obtain ⟨q1, q2, q3⟩ := y6 i hi
      have rm := R_meas (show r < 96 by omega) (show o < 96 by omega) hi 8 0 (f_s f 4 1 0) rfl ((f4n (by decide)).trans r1) (by rw [f_s_row (show 7 ≠ 4 by decide)]; exact r11)
      rw [show nI 0 = 0 from rfl, Nat.add_zero, f4r (show 19 ≠ 4 by decide), f_s_row (show 11 ≠ 4 by decide)] at rm
      have h1 : Rel n (h_cp M (ρ o + 2 + i) 0 (κ r + 1) 0 8) (f_r f 19 (8 * r) (8 * r + 8) (fun j => f 11 (40 * o + 8 * i + (j - 8 * r)))) ρ τ κ :=
        U_regs h hr r3 (Nat.le_refl 8) (lo := 0) _ _ (fun k h1 h2 j hj => by
          subst hj
          show h_i M (ρ o + 2 + i) (0 + (k - 0)) = f 11 (40 * o + 8 * i + (8 * r + k - 8 * r))
          rw [show 0 + (k - 0) = k by omega, show 8 * r + k - 8 * r = k by omega]
          exact d10 i k hi h2)
      have l0 : ¬ (0 : Int32) < 0 := by decide
      have l8 : ¬ (8 : Int32) < 0 := by decide
      have ck : h_k (h_cp M (ρ o + 2 + i) 0 (κ r + 1) 0 8) 4 = 7 := s1
      exact OK2.of (v := 0) (by simp only [e_62_0, c_I, c_R, c_V, if_true, if_false, true_and, and_true, true_or, or_true, List.length_nil, List.length_cons, Nat.zero_le, k_si, l_si, r_si, k_sr, l_sr, i_sr, n_si, ar_si, ar_sr, ar_0, rc7 s1, s1, C_no, C_none, C_yes, C_done, C_bit0, C_bit1, C_fault, z10, z20, z30, z40, z50, z01, zm0, zm1, r4, r5, r6, r7, r8, r9, r10, r13, C_isMeas1 hi, y3, y4, y5, q1, q2, q3, i_t hi (N := 5) (by decide), i_c (show i < 2 ^ 31 by omega), l0, l8, not_false_eq_true, show 0 + 8 ≤ 8 from by decide, rc7 ck, C_done ck]) (by simp only [e_171_0, kR1, kR2, kR3, kR4, kR5, kR6, kR7, kR8, kR9, kR10, kR11, kR12, kR13, kR14, kR15, kR16, kR17, kR18, kR19, kR20, kR21, kR22, kR23, kR24, kR25, kR26, kR27, kR28, kR29, kR30, lR1, lR2, lR3, lR4, lR5, lR6, lR7, lR8, lR9, lR10, lR11, lR12, lR13, lR14, lR15, lR16, lR17, lR18, lR19, lR20, lR21, lR22, lR23, lR24, lR25, lR26, lR27, lR28, lR29, lR30, rR5, rR6, rR7, rR8, rR9, rR10, rR11, rR12, rR13, rR14, rR15, rR16, rR17, rR18, rR19, rR20, rR21, rR22, rR23, rR24, rR25, rR26, rR27, rR28, rR29, rR30, R_i, R_si, R_rec, if_true, if_false, true_and, and_true, true_or, or_true, List.length_nil, List.length_cons, Nat.zero_le, c_I, c_R, c_V, R_no, R_refuse, R_fault, f_s_row, f4c, f4k, f4n, ne_eq, not_false_eq_true, not_true_eq_false, Nat.reduceEqDiff, reduceCtorEq, Nat.succ_ne_zero, Nat.reduceAdd, ar_0, z10, z20, z30, z40, z50, z01, zm0, zm1, R_idle0 (r1.symm ▸ r2), x1, x4, rm]) (W_status h1 0) rfl rfl
end OP
