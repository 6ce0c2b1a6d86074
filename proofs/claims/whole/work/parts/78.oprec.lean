section OP
variable {n : Nat} {M : mM} {f : Nat → Nat → Int32} {ρ τ κ : Nat → Nat}
theorem bN (M : mM) (g : Nat) (s : Int32) (a : Nat) (m : Int32) : h_n (bcm M g s a m) = h_n M := rfl
theorem bV (M : mM) (g : Nat) (s : Int32) (a : Nat) (m : Int32) : h_v (bcm M g s a m) = h_v M := rfl
theorem bcK (N : mM) (g b A : Nat) (m : Int32) : h_k (bcr N g b A m) = h_k N := rfl
theorem bcN (N : mM) (g b A : Nat) (m : Int32) : h_n (bcr N g b A m) = h_n N := rfl
theorem bcV (N : mM) (g b A : Nat) (m : Int32) : h_v (bcr N g b A m) = h_v N := rfl
theorem rS_set {f F : Nat → Nat → Int32} {wl : List Int32} (h : rS f wl F) {b j : Nat} (hb : b ≠ 30) (h4 : b ≠ 4) (x : Int32) : rS (f_s f b j x) wl (f_s F b j x) := by
  refine ⟨(f_s_ne (by omega)).trans h.1, fun i hi => (f_s_ne (by omega)).trans (h.2.1 i hi), fun b' j' q1 q2 => ?_⟩
  by_cases q : b' = b ∧ j' = j
  · obtain ⟨rfl, rfl⟩ := q; rw [f_s_eq, f_s_eq]
  · rw [f_s_ne (by omega), f_s_ne (by omega)]; exact h.2.2 b' j' q1 q2
theorem R_rl {g s : Nat} (hg : g < 96) (hs : s < 96) (x2 : Int32) (W : Nat → Int32) : ∀ (m k : Nat) (F B : Nat → Nat → Int32) (wl : List Int32), k + m = 8 → wl.length + m ≤ 45 → rS B wl F → (∀ k, k < 8 → B 6 (32 * s + k) = W k) → ∃ F', ev 137 116 [some (.inr 4), some (.inl (nI g)), some (.inl x2), some (.inl (nI s)), some (.inl (nI k))] [] (mkR F) = ev 137 116 [some (.inr 4), some (.inl (nI g)), some (.inl x2), some (.inl (nI s)), some (.inl (nI 8))] [] (mkR F') ∧ rS (f_r B 19 (8 * g + k) (8 * g + 8) (fun j => W (j - 8 * g))) (wl ++ rowL (fun j => W (k + j)) m) F' := by
  intro m
  induction m with
  | zero =>
    intro k F B wl hk hl hS hW
    have : k = 8 := by omega
    subst this
    exact ⟨F, rfl, by rw [f_r0]; simpa [rowL] using hS⟩
  | succ m ih =>
    intro k F B wl hk hl hS hW
    have f6 : F 6 (32 * s + k) = W k := (hS.2.2 6 _ (by decide) (by omega)).trans (hW k (by omega))
    obtain ⟨F1, e1, e2⟩ := rS_say (rS_set hS (b := 19) (j := 8 * g + k) (by decide) (by decide) (W k)) (by omega) (W k)
    obtain ⟨F2, e3, e4⟩ := ih (k + 1) F1 _ (wl ++ [W k]) (by omega) (by rw [List.length_append]; simp; omega) e2 (fun j hj => by rw [f_s_row (show 6 ≠ 19 by decide)]; exact hW j hj)
    refine ⟨F2, ?_, ?_⟩
    · rw [e_137_116]
      simp only [kR1, kR2, kR3, kR4, kR5, kR6, kR7, kR8, kR9, kR10, kR11, kR12, kR13, kR14, kR15, kR16, kR17, kR18, kR19, kR20, kR21, kR22, kR23, kR24, kR25, kR26, kR27, kR28, kR29, kR30, lR1, lR2, lR3, lR4, lR5, lR6, lR7, lR8, lR9, lR10, lR11, lR12, lR13, lR14, lR15, lR16, lR17, lR18, lR19, lR20, lR21, lR22, lR23, lR24, lR25, lR26, lR27, lR28, lR29, lR30, rR5, rR6, rR7, rR8, rR9, rR10, rR11, rR12, rR13, rR14, rR15, rR16, rR17, rR18, rR19, rR20, rR21, rR22, rR23, rR24, rR25, rR26, rR27, rR28, rR29, rR30, R_i, R_si, R_rec, if_true, if_false, true_and, and_true, true_or, or_true, List.length_nil, List.length_cons, Nat.zero_le, c_I, c_R, c_V, n_l (N := 8) (k := k) 8 rfl (by omega) (by decide), n8, n32, nI_1, i_t (show 32 * s + k < 3072 by omega) (by decide), i_c (show 32 * s + k < 2 ^ 31 by omega), i_t (show 8 * g + k < 768 by omega) (by decide), i_c (show 8 * g + k < 2 ^ 31 by omega), f6, f_s_eq, e1]
      exact e3
    · have e := f_rs B 19 (8 * g + k) (8 * g + 8) (fun j => W (j - 8 * g)) (by omega)
      simp only [show 8 * g + k - 8 * g = k by omega] at e
      rw [← Nat.add_assoc, e, List.append_assoc] at e4
      rw [rowL_cons]
      rw [show (fun j => W (k + (j + 1))) = (fun j => W (k + 1 + j)) from funext fun j => by rw [show k + (j + 1) = k + 1 + j by omega]]
      exact e4
theorem op_rec (h : Rel n M f ρ τ κ) (x y z : Int32) : OK2 n M (ev 41 0 [some (.inr 4), some (.inl x), some (.inl y), some (.inl z), none, none, none, none, none, none] [] M) (ev 137 0 [some (.inr 4), some (.inl x), some (.inl y), some (.inl z), none] [] (mkR f)) := by
  have hB := h.1
  have s1 := h.1.2.1.1
  have hn := h.2.2.2.1.1
  have hN := h.2.2.2.1.2.2.1
  have hnn := h.1.2.2.2.2.2.1
  obtain ⟨u, hu⟩ := C_atE hB hN y
  obtain ⟨u', hu'⟩ := C_atE hB hN z
  rcases ix2 x (show n < 2 ^ 31 by omega) with hx | ⟨g, hg, rfl⟩
  · exact OK2.of (v := -1) (by simp only [e_41_0, e_41_18, c_I, c_R, c_V, if_true, if_false, true_and, and_true, true_or, or_true, List.length_nil, List.length_cons, Nat.zero_le, k_si, l_si, r_si, k_sr, l_sr, i_sr, n_si, ar_si, ar_sr, ar_0, rc7 s1, s1, C_no, C_none, C_yes, C_done, C_bit0, C_bit1, C_fault, z10, z20, z30, z40, z50, z01, zm0, zm1, C_at0 hB hx, R_isG0 hn hx, hu, hu']; try rfl) (by simp only [e_137_0, e_137_12, kR1, kR2, kR3, kR4, kR5, kR6, kR7, kR8, kR9, kR10, kR11, kR12, kR13, kR14, kR15, kR16, kR17, kR18, kR19, kR20, kR21, kR22, kR23, kR24, kR25, kR26, kR27, kR28, kR29, kR30, lR1, lR2, lR3, lR4, lR5, lR6, lR7, lR8, lR9, lR10, lR11, lR12, lR13, lR14, lR15, lR16, lR17, lR18, lR19, lR20, lR21, lR22, lR23, lR24, lR25, lR26, lR27, lR28, lR29, lR30, rR5, rR6, rR7, rR8, rR9, rR10, rR11, rR12, rR13, rR14, rR15, rR16, rR17, rR18, rR19, rR20, rR21, rR22, rR23, rR24, rR25, rR26, rR27, rR28, rR29, rR30, R_i, R_si, R_rec, if_true, if_false, true_and, and_true, true_or, or_true, List.length_nil, List.length_cons, Nat.zero_le, c_I, c_R, c_V, R_no, R_refuse, R_fault, f_s_row, f4c, f4k, f4n, ne_eq, not_false_eq_true, not_true_eq_false, Nat.reduceEqDiff, reduceCtorEq, Nat.succ_ne_zero, Nat.reduceAdd, ar_0, z10, z20, z30, z40, z50, z01, zm0, zm1, C_at0 hB hx, R_isG0 hn hx, hu, hu']; try rfl) (U_status h 1) rfl rfl
  obtain ⟨g1, g2, g3, g4, g5⟩ := hB.2.2.2.2.1 g hg
  have z2 := (h.2.2.2.2.2.1 g hg).2.1
  rcases ix2 y (show n < 2 ^ 31 by omega) with hy | ⟨o, ho, rfl⟩
  · exact OK2.of (v := -1) (by simp only [e_41_0, e_41_18, c_I, c_R, c_V, if_true, if_false, true_and, and_true, true_or, or_true, List.length_nil, List.length_cons, Nat.zero_le, k_si, l_si, r_si, k_sr, l_sr, i_sr, n_si, ar_si, ar_sr, ar_0, rc7 s1, s1, C_no, C_none, C_yes, C_done, C_bit0, C_bit1, C_fault, z10, z20, z30, z40, z50, z01, zm0, zm1, C_at1 hB hN hg, R_isG1 hn hg (by omega), G_ne, C_at0 hB hy, R_isG0 hn hy, hu']; try rfl) (by simp only [e_137_0, e_137_12, kR1, kR2, kR3, kR4, kR5, kR6, kR7, kR8, kR9, kR10, kR11, kR12, kR13, kR14, kR15, kR16, kR17, kR18, kR19, kR20, kR21, kR22, kR23, kR24, kR25, kR26, kR27, kR28, kR29, kR30, lR1, lR2, lR3, lR4, lR5, lR6, lR7, lR8, lR9, lR10, lR11, lR12, lR13, lR14, lR15, lR16, lR17, lR18, lR19, lR20, lR21, lR22, lR23, lR24, lR25, lR26, lR27, lR28, lR29, lR30, rR5, rR6, rR7, rR8, rR9, rR10, rR11, rR12, rR13, rR14, rR15, rR16, rR17, rR18, rR19, rR20, rR21, rR22, rR23, rR24, rR25, rR26, rR27, rR28, rR29, rR30, R_i, R_si, R_rec, if_true, if_false, true_and, and_true, true_or, or_true, List.length_nil, List.length_cons, Nat.zero_le, c_I, c_R, c_V, R_no, R_refuse, R_fault, f_s_row, f4c, f4k, f4n, ne_eq, not_false_eq_true, not_true_eq_false, Nat.reduceEqDiff, reduceCtorEq, Nat.succ_ne_zero, Nat.reduceAdd, ar_0, z10, z20, z30, z40, z50, z01, zm0, zm1, C_at1 hB hN hg, R_isG1 hn hg (by omega), G_ne, C_at0 hB hy, R_isG0 hn hy, hu']; try rfl) (U_status h 1) rfl rfl
  clear hu u
  have k2 := (hB.2.2.2.2.1 o ho).2.1
  rcases ix2 z (show n < 2 ^ 31 by omega) with hz | ⟨s, hs, rfl⟩
  · exact OK2.of (v := -1) (by simp only [e_41_0, e_41_18, c_I, c_R, c_V, if_true, if_false, true_and, and_true, true_or, or_true, List.length_nil, List.length_cons, Nat.zero_le, k_si, l_si, r_si, k_sr, l_sr, i_sr, n_si, ar_si, ar_sr, ar_0, rc7 s1, s1, C_no, C_none, C_yes, C_done, C_bit0, C_bit1, C_fault, z10, z20, z30, z40, z50, z01, zm0, zm1, C_at1 hB hN hg, R_isG1 hn hg (by omega), G_ne, C_at1 hB hN ho, R_isG1 hn ho (by omega), C_at0 hB hz, R_isG0 hn hz]; try rfl) (by simp only [e_137_0, e_137_12, kR1, kR2, kR3, kR4, kR5, kR6, kR7, kR8, kR9, kR10, kR11, kR12, kR13, kR14, kR15, kR16, kR17, kR18, kR19, kR20, kR21, kR22, kR23, kR24, kR25, kR26, kR27, kR28, kR29, kR30, lR1, lR2, lR3, lR4, lR5, lR6, lR7, lR8, lR9, lR10, lR11, lR12, lR13, lR14, lR15, lR16, lR17, lR18, lR19, lR20, lR21, lR22, lR23, lR24, lR25, lR26, lR27, lR28, lR29, lR30, rR5, rR6, rR7, rR8, rR9, rR10, rR11, rR12, rR13, rR14, rR15, rR16, rR17, rR18, rR19, rR20, rR21, rR22, rR23, rR24, rR25, rR26, rR27, rR28, rR29, rR30, R_i, R_si, R_rec, if_true, if_false, true_and, and_true, true_or, or_true, List.length_nil, List.length_cons, Nat.zero_le, c_I, c_R, c_V, R_no, R_refuse, R_fault, f_s_row, f4c, f4k, f4n, ne_eq, not_false_eq_true, not_true_eq_false, Nat.reduceEqDiff, reduceCtorEq, Nat.succ_ne_zero, Nat.reduceAdd, ar_0, z10, z20, z30, z40, z50, z01, zm0, zm1, C_at1 hB hN hg, R_isG1 hn hg (by omega), G_ne, C_at1 hB hN ho, R_isG1 hn ho (by omega), C_at0 hB hz, R_isG0 hn hz]; try rfl) (U_status h 1) rfl rfl
  clear hu' u'
  obtain ⟨b1, b2, b3, b4, b5⟩ := hB.2.2.2.2.1 s hs
  have zs := (h.2.2.2.2.2.1 s hs).2.1
  by_cases o2 : f 5 o = 2
  case neg => exact OK2.of (v := -1) (by simp only [e_41_0, e_41_34, c_I, c_R, c_V, if_true, if_false, true_and, and_true, true_or, or_true, List.length_nil, List.length_cons, Nat.zero_le, k_si, l_si, r_si, k_sr, l_sr, i_sr, n_si, ar_si, ar_sr, ar_0, rc7 s1, s1, C_no, C_none, C_yes, C_done, C_bit0, C_bit1, C_fault, z10, z20, z30, z40, z50, z01, zm0, zm1, C_at1 hB hN ho, R_isG1 hn ho (by omega), G_ne, C_at1 hB hN hg, R_isG1 hn hg (by omega), C_at1 hB hN hs, R_isG1 hn hs (by omega), rc3 k2, C_own0 h ho o2, R_is (show o < 96 by omega), o2]; try rfl) (by simp only [e_137_0, e_137_31, kR1, kR2, kR3, kR4, kR5, kR6, kR7, kR8, kR9, kR10, kR11, kR12, kR13, kR14, kR15, kR16, kR17, kR18, kR19, kR20, kR21, kR22, kR23, kR24, kR25, kR26, kR27, kR28, kR29, kR30, lR1, lR2, lR3, lR4, lR5, lR6, lR7, lR8, lR9, lR10, lR11, lR12, lR13, lR14, lR15, lR16, lR17, lR18, lR19, lR20, lR21, lR22, lR23, lR24, lR25, lR26, lR27, lR28, lR29, lR30, rR5, rR6, rR7, rR8, rR9, rR10, rR11, rR12, rR13, rR14, rR15, rR16, rR17, rR18, rR19, rR20, rR21, rR22, rR23, rR24, rR25, rR26, rR27, rR28, rR29, rR30, R_i, R_si, R_rec, if_true, if_false, true_and, and_true, true_or, or_true, List.length_nil, List.length_cons, Nat.zero_le, c_I, c_R, c_V, R_no, R_refuse, R_fault, f_s_row, f4c, f4k, f4n, ne_eq, not_false_eq_true, not_true_eq_false, Nat.reduceEqDiff, reduceCtorEq, Nat.succ_ne_zero, Nat.reduceAdd, ar_0, z10, z20, z30, z40, z50, z01, zm0, zm1, C_at1 hB hN ho, R_isG1 hn ho (by omega), G_ne, C_at1 hB hN hg, R_isG1 hn hg (by omega), C_at1 hB hN hs, R_isG1 hn hs (by omega), rc3 k2, C_own0 h ho o2, R_is (show o < 96 by omega), o2]; try rfl) (U_status h 2) rfl rfl
  obtain ⟨d1, -, -, d4, -, -, d7, -⟩ := h.2.2.2.2.2.2.1 o ho o2
  by_cases f5 : f 5 g = 1
  case neg => exact OK2.of (v := -1) (by simp only [e_41_0, e_41_34, c_I, c_R, c_V, if_true, if_false, true_and, and_true, true_or, or_true, List.length_nil, List.length_cons, Nat.zero_le, k_si, l_si, r_si, k_sr, l_sr, i_sr, n_si, ar_si, ar_sr, ar_0, rc7 s1, s1, C_no, C_none, C_yes, C_done, C_bit0, C_bit1, C_fault, z10, z20, z30, z40, z50, z01, zm0, zm1, C_at1 hB hN ho, R_isG1 hn ho (by omega), G_ne, C_at1 hB hN hg, R_isG1 hn hg (by omega), C_at1 hB hN hs, R_isG1 hn hs (by omega), rc3 k2, C_own1 h ho o2, ρ_ne h ho o2, R_is (show o < 96 by omega), R_is (show g < 96 by omega), o2, f5, g2, z2]; try rfl) (by simp only [e_137_0, e_137_31, kR1, kR2, kR3, kR4, kR5, kR6, kR7, kR8, kR9, kR10, kR11, kR12, kR13, kR14, kR15, kR16, kR17, kR18, kR19, kR20, kR21, kR22, kR23, kR24, kR25, kR26, kR27, kR28, kR29, kR30, lR1, lR2, lR3, lR4, lR5, lR6, lR7, lR8, lR9, lR10, lR11, lR12, lR13, lR14, lR15, lR16, lR17, lR18, lR19, lR20, lR21, lR22, lR23, lR24, lR25, lR26, lR27, lR28, lR29, lR30, rR5, rR6, rR7, rR8, rR9, rR10, rR11, rR12, rR13, rR14, rR15, rR16, rR17, rR18, rR19, rR20, rR21, rR22, rR23, rR24, rR25, rR26, rR27, rR28, rR29, rR30, R_i, R_si, R_rec, if_true, if_false, true_and, and_true, true_or, or_true, List.length_nil, List.length_cons, Nat.zero_le, c_I, c_R, c_V, R_no, R_refuse, R_fault, f_s_row, f4c, f4k, f4n, ne_eq, not_false_eq_true, not_true_eq_false, Nat.reduceEqDiff, reduceCtorEq, Nat.succ_ne_zero, Nat.reduceAdd, ar_0, z10, z20, z30, z40, z50, z01, zm0, zm1, C_at1 hB hN ho, R_isG1 hn ho (by omega), G_ne, C_at1 hB hN hg, R_isG1 hn hg (by omega), C_at1 hB hN hs, R_isG1 hn hs (by omega), rc3 k2, C_own1 h ho o2, ρ_ne h ho o2, R_is (show o < 96 by omega), R_is (show g < 96 by omega), o2, f5, g2, z2]; try rfl) (U_status h 2) rfl rfl
  by_cases s5 : f 5 s = 0
  case neg => exact OK2.of (v := -1) (by simp only [e_41_0, e_41_34, c_I, c_R, c_V, if_true, if_false, true_and, and_true, true_or, or_true, List.length_nil, List.length_cons, Nat.zero_le, k_si, l_si, r_si, k_sr, l_sr, i_sr, n_si, ar_si, ar_sr, ar_0, rc7 s1, s1, C_no, C_none, C_yes, C_done, C_bit0, C_bit1, C_fault, z10, z20, z30, z40, z50, z01, zm0, zm1, C_at1 hB hN ho, R_isG1 hn ho (by omega), G_ne, C_at1 hB hN hg, R_isG1 hn hg (by omega), C_at1 hB hN hs, R_isG1 hn hs (by omega), rc3 k2, C_own1 h ho o2, ρ_ne h ho o2, R_is (show o < 96 by omega), R_is (show g < 96 by omega), R_is (show s < 96 by omega), o2, f5, s5, g2, z2, b2, zs]; try rfl) (by simp only [e_137_0, e_137_31, kR1, kR2, kR3, kR4, kR5, kR6, kR7, kR8, kR9, kR10, kR11, kR12, kR13, kR14, kR15, kR16, kR17, kR18, kR19, kR20, kR21, kR22, kR23, kR24, kR25, kR26, kR27, kR28, kR29, kR30, lR1, lR2, lR3, lR4, lR5, lR6, lR7, lR8, lR9, lR10, lR11, lR12, lR13, lR14, lR15, lR16, lR17, lR18, lR19, lR20, lR21, lR22, lR23, lR24, lR25, lR26, lR27, lR28, lR29, lR30, rR5, rR6, rR7, rR8, rR9, rR10, rR11, rR12, rR13, rR14, rR15, rR16, rR17, rR18, rR19, rR20, rR21, rR22, rR23, rR24, rR25, rR26, rR27, rR28, rR29, rR30, R_i, R_si, R_rec, if_true, if_false, true_and, and_true, true_or, or_true, List.length_nil, List.length_cons, Nat.zero_le, c_I, c_R, c_V, R_no, R_refuse, R_fault, f_s_row, f4c, f4k, f4n, ne_eq, not_false_eq_true, not_true_eq_false, Nat.reduceEqDiff, reduceCtorEq, Nat.succ_ne_zero, Nat.reduceAdd, ar_0, z10, z20, z30, z40, z50, z01, zm0, zm1, C_at1 hB hN ho, R_isG1 hn ho (by omega), G_ne, C_at1 hB hN hg, R_isG1 hn hg (by omega), C_at1 hB hN hs, R_isG1 hn hs (by omega), rc3 k2, C_own1 h ho o2, ρ_ne h ho o2, R_is (show o < 96 by omega), R_is (show g < 96 by omega), R_is (show s < 96 by omega), o2, f5, s5, g2, z2, b2, zs]; try rfl) (U_status h 2) rfl rfl
  by_cases hw : f 8 o = 0
  case neg => exact OK2.of (v := -1) (by simp only [e_41_0, c_I, c_R, c_V, if_true, if_false, true_and, and_true, true_or, or_true, List.length_nil, List.length_cons, Nat.zero_le, k_si, l_si, r_si, k_sr, l_sr, i_sr, n_si, ar_si, ar_sr, ar_0, rc7 s1, s1, C_no, C_none, C_yes, C_done, C_bit0, C_bit1, C_fault, z10, z20, z30, z40, z50, z01, zm0, zm1, C_at1 hB hN ho, R_isG1 hn ho (by omega), G_ne, C_at1 hB hN hg, R_isG1 hn hg (by omega), C_at1 hB hN hs, R_isG1 hn hs (by omega), rc3 k2, C_own1 h ho o2, ρ_ne h ho o2, R_is (show o < 96 by omega), R_is (show g < 96 by omega), R_is (show s < 96 by omega), o2, f5, s5, g2, z2, b2, zs, d1, d4, hw, i_t (show o < 96 by omega) (by decide), i_c (show o < 2 ^ 31 by omega)]; try rfl) (by simp only [e_137_0, kR1, kR2, kR3, kR4, kR5, kR6, kR7, kR8, kR9, kR10, kR11, kR12, kR13, kR14, kR15, kR16, kR17, kR18, kR19, kR20, kR21, kR22, kR23, kR24, kR25, kR26, kR27, kR28, kR29, kR30, lR1, lR2, lR3, lR4, lR5, lR6, lR7, lR8, lR9, lR10, lR11, lR12, lR13, lR14, lR15, lR16, lR17, lR18, lR19, lR20, lR21, lR22, lR23, lR24, lR25, lR26, lR27, lR28, lR29, lR30, rR5, rR6, rR7, rR8, rR9, rR10, rR11, rR12, rR13, rR14, rR15, rR16, rR17, rR18, rR19, rR20, rR21, rR22, rR23, rR24, rR25, rR26, rR27, rR28, rR29, rR30, R_i, R_si, R_rec, if_true, if_false, true_and, and_true, true_or, or_true, List.length_nil, List.length_cons, Nat.zero_le, c_I, c_R, c_V, R_no, R_refuse, R_fault, f_s_row, f4c, f4k, f4n, ne_eq, not_false_eq_true, not_true_eq_false, Nat.reduceEqDiff, reduceCtorEq, Nat.succ_ne_zero, Nat.reduceAdd, ar_0, z10, z20, z30, z40, z50, z01, zm0, zm1, C_at1 hB hN ho, R_isG1 hn ho (by omega), G_ne, C_at1 hB hN hg, R_isG1 hn hg (by omega), C_at1 hB hN hs, R_isG1 hn hs (by omega), rc3 k2, C_own1 h ho o2, ρ_ne h ho o2, R_is (show o < 96 by omega), R_is (show g < 96 by omega), R_is (show s < 96 by omega), o2, f5, s5, g2, z2, b2, zs, d1, d4, hw, i_t (show o < 96 by omega) (by decide), i_c (show o < 2 ^ 31 by omega)]; try rfl) (U_status h 3) rfl rfl
  have og : o ≠ g := fun q => by rw [q, f5] at o2; exact absurd o2 (by decide)
  have sg : s ≠ g := fun q => by rw [q, f5] at s5; exact absurd s5 (by decide)
  have bo := (at_d h ho o2).1
  have bx := ((h.2.1 (ρ o)).1 d1).2.1
  have GS : G_ s ≤ 10 + 2 * n ∧ Wd s ≤ 10 + 2 * n ∧ G_ g ≤ 10 + 2 * n ∧ Wd g ≤ 10 + 2 * n := by unfold G_ Wd; omega
  have w8 := (h.2.2.2.2.2.1 s hs).2.2.1 8 (by decide)
  have rest : ∀ v : Int32, (v = 0 ∨ v = 1) → OK2 n M (ev 41 57 [some (.inr 4), some (.inl (nI g)), some (.inl (nI o)), some (.inl (nI s)), some (.inr (G_ g)), some (.inr (G_ o)), some (.inr (G_ s)), some (.inr (ρ o)), none, none] [.inl v, .inr (ρ o), .inr (G_ g), .inr (h_n M + 1), .inr (h_n M + 1)] (h_al M 5 11)) (ev 137 80 [some (.inr 4), some (.inl (nI g)), some (.inl (nI o)), some (.inl (nI s)), none] [.inl v, .inl (nI g), .inr 18] (mkR (f_s (f_s (f_b f g 3 (nI o)) 17 g (f 10 o)) 10 o (f 10 o + 1)))) := fun v hv => by
    have cR := C_Rec (M := M) (g := G_ g) (b := ρ o) hv
    have cI0 := cI_of (M := M) hB.2.2.2.2.2.2.1 (g := G_ g) (b := ρ o) (s := Wd s) (v := v) (by omega)
    have q1 : h_k (nC M (G_ g) (ρ o) v) (G_ s) = 3 := by rw [nC_k, if_neg (by omega), if_neg (by omega)]; exact b2
    have q2 : h_k (nC M (G_ g) (ρ o) v) (h_n M + 1) = 5 := by rw [nC_k, if_neg (by omega), if_pos rfl]
    have q3 : h_r (nC M (G_ g) (ρ o) v) (G_ s) 1 = Wd s := by rw [nC_r, if_neg (by omega), if_neg (by omega), if_neg (by omega), if_neg (by omega), if_neg (by omega)]; exact b3
    have q4 : h_r (nC M (G_ g) (ρ o) v) (h_n M + 1) 3 = h_n M + 2 := by rw [nC_r, if_neg (by omega), if_neg (by omega), if_pos ⟨rfl, rfl⟩]
    have q5 : h_k (nC M (G_ g) (ρ o) v) (Wd s) = 9 := by rw [nC_k, if_neg (by omega), if_neg (by omega)]; exact b4
    have q6 : h_k (nC M (G_ g) (ρ o) v) (h_n M + 2) = 9 := by rw [nC_k, if_pos rfl]
    have q7 : h_l (nC M (G_ g) (ρ o) v) (Wd s) = 32 := by rw [nC_l, if_neg (by omega), if_neg (by omega)]; exact b5
    have q8 : h_l (nC M (G_ g) (ρ o) v) (h_n M + 2) = 8 := by rw [nC_l, if_pos rfl]
    have l0 : ((0 : Int32) < 0) = False := eq_false (by decide)
    have l8 : ((8 : Int32) < 0) = False := eq_false (by decide)
    have r5 : ∀ as, a_rec (h_al M 5 11) 5 (.inr (h_n M + 1) :: as) = true := fun as => rc5 (show h_k (h_al M 5 11) (h_n M + 1) = 5 from if_pos rfl) as
    generalize hN0 : h_cp (nC M (G_ g) (ρ o) v) (Wd s) 0 (h_n M + 2) 0 8 = N at cI0
    have h1 := W_rec h hv hg f5 ho o2 cI0
    have hcp : h_cp (nC M (G_ g) (ρ o) v) (Wd s) 0 (h_n M + 2) 0 8 = N := hN0
    obtain ⟨T1, T2, T3, T4, T5, T6, T7, T8, T9, T10, T11, T12, T13, T14⟩ := id cI0
    have N2 : h_k N (G_ g) = 3 := ((T3 _ (by omega)).1).trans g2
    have N3 : h_r N (G_ g) 1 = Wd g := (((T3 _ (by omega)).2.2 1).2).trans g3
    have N4 : h_k N (Wd g) = 9 := ((T3 _ (by omega)).1).trans g4
    have N5 : h_l N (Wd g) = 32 := ((T3 _ (by omega)).2.1).trans g5
    have N6 : h_k N (ρ o) = 4 := ((T3 _ (by omega)).1).trans d1
    have num : h_i N (ρ o) 5 = f 10 o := (((T3 _ (by omega)).2.2 5).1).trans d7
    have c19 : ev 19 0 [some (.inr (G_ g)), some (.inr (h_n M + 1)), some (.inl (f 10 o))] [] N = some (none, bcr N g (ρ o) (h_n M + 1) (f 10 o)) := by
      have kb : h_k (bcm N g 3 (ρ o) (f 10 o)) (G_ g) = 3 := by rw [bK]; exact N2
      simp only [e_19_0, c_I, c_R, c_V, if_true, if_false, true_and, and_true, true_or, or_true, List.length_nil, List.length_cons, Nat.zero_le, k_si, l_si, r_si, k_sr, l_sr, i_sr, n_si, ar_si, ar_sr, ar_0, T5, T7, rc3 N2, C_become N2 N3 N4 N5, kb]
      rfl
    have Q4 : h_k (bcr N g (ρ o) (h_n M + 1) (f 10 o)) (ρ o) = 4 := by rw [bcK]; exact N6
    have Q7 : h_k (bcr N g (ρ o) (h_n M + 1) (f 10 o)) 4 = 7 := by rw [bcK]; exact ((T3 4 (by omega)).1).trans s1
    unfold rcn at h1
    have nQ : h_n (bcr N g (ρ o) (h_n M + 1) (f 10 o)) = h_n M + 2 := by rw [bcN]; exact T1
    have vQ : h_v (bcr N g (ρ o) (h_n M + 1) (f 10 o)) = h_v M + 19 := by rw [bcV]; exact T2
    generalize bcr N g (ρ o) (h_n M + 1) (f 10 o) = Q at h1 c19 Q4 Q7 nQ vQ
    have r7 : h_k (h_si (h_si Q (ρ o) 4 (h_i Q (ρ o) 4 + 1)) (ρ o) 5 (h_i (h_si Q (ρ o) 4 (h_i Q (ρ o) 4 + 1)) (ρ o) 5 + 1)) 4 = 7 := by rw [K_si, K_si]; exact Q7
    have nR : h_n (h_si (h_si Q (ρ o) 4 (h_i Q (ρ o) 4 + 1)) (ρ o) 5 (h_i (h_si Q (ρ o) 4 (h_i Q (ρ o) 4 + 1)) (ρ o) 5 + 1)) = h_n M + 2 := by rw [n_si, n_si]; exact nQ
    have vR : h_v (h_si (h_si Q (ρ o) 4 (h_i Q (ρ o) 4 + 1)) (ρ o) 5 (h_i (h_si Q (ρ o) 4 (h_i Q (ρ o) 4 + 1)) (ρ o) 5 + 1)) = h_v M + 19 := by rw [v_si, v_si]; exact vQ
    generalize hR0 : h_si (h_si Q (ρ o) 4 (h_i Q (ρ o) 4 + 1)) (ρ o) 5 (h_i (h_si Q (ρ o) 4 (h_i Q (ρ o) 4 + 1)) (ρ o) 5 + 1) = R at h1 r7 nR vR
    -- the rows of the reference
    have hf1 : f_s (f_s (f_s (f_s (f_s (f_b f g 3 (nI o)) 17 g (f 10 o)) 10 o (f 10 o + 1)) 18 g v) 20 g 0) 25 g 0 = f_nc f g o v := rfl
    have c4 : f_nc f g o v 4 = f 4 := by unfold f_nc; rw [f_s_row (by decide), f_s_row (by decide), f_s_row (by decide), f_s_row (by decide), f_s_row (by decide), fbr (by decide) (by decide) (by decide)]
    have c3 : f_nc f g o v 3 = f 3 := by unfold f_nc; rw [f_s_row (by decide), f_s_row (by decide), f_s_row (by decide), f_s_row (by decide), f_s_row (by decide), fbr (by decide) (by decide) (by decide)]
    have c11 : f_nc f g o v 11 = f 11 := by unfold f_nc; rw [f_s_row (by decide), f_s_row (by decide), f_s_row (by decide), f_s_row (by decide), f_s_row (by decide), fbr (by decide) (by decide) (by decide)]
    have c5 : f_nc f g o v 5 o = 2 := by unfold f_nc; rw [f_s_row (by decide), f_s_row (by decide), f_s_row (by decide), f_s_row (by decide), f_s_row (by decide), fbn (by omega) (by omega) (by omega)]; exact o2
    have c5g : f_nc f g o v 5 g = 3 := by unfold f_nc; rw [f_s_row (by decide), f_s_row (by decide), f_s_row (by decide), f_s_row (by decide), f_s_row (by decide), fb5]
    have c17 : f_nc f g o v 17 g = f 10 o := by unfold f_nc; rw [f_s_row (by decide), f_s_row (by decide), f_s_row (by decide), f_s_row (by decide), f_s_eq]
    have c18 : f_nc f g o v 18 g = v := by unfold f_nc; rw [f_s_row (by decide), f_s_row (by decide), f_s_eq]
    have c6 : ∀ k, k < 8 → f_nc f g o v 6 (32 * s + k) = h_i M (Wd s) k := fun k hk => by
      unfold f_nc; rw [f_s_row (by decide), f_s_row (by decide), f_s_row (by decide), f_s_row (by decide), f_s_row (by decide), fbn (by omega) (by omega) (by omega)]
      exact ((h.2.2.2.2.2.1 s hs).2.2.1 k (by omega)).symm
    generalize f_nc f g o v = f1 at h1 hf1 c4 c3 c11 c5 c5g c17 c18 c6
    have o2' : f_r f1 19 (8 * g) (8 * g + 8) (fun j => h_i M (Wd s) (j - 8 * g)) 5 o = 2 := by rw [f_r_row (by decide)]; exact c5
    have g3' : f_r f1 19 (8 * g) (8 * g + 8) (fun j => h_i M (Wd s) (j - 8 * g)) 5 g = 3 := by rw [f_r_row (by decide)]; exact c5g
    -- the class's digest
    have hD := h1.1.1
    have s2' := h1.1.2.1.2.2.1
    have a1 := at_d h1 ho o2'
    have hX := (h1.2.1 (ρ o)).1 a1.2
    obtain ⟨x1, x2, x3, x4, x5, x6⟩ := id hX
    obtain ⟨y1, y2, y3⟩ := x6 0 (by decide)
    obtain ⟨u1, u2, u3, u4, u5, u6, -⟩ := h1.2.2.2.2.2.2.2.2 g hg g3'
    simp only [if_true] at u1 u2 u3 u4 u5 u6
    rw [f_r_row (show 18 ≠ 19 by decide), c18] at u4
    obtain ⟨e1', e2', e3', e4', e5'⟩ := (h1.2.1 (h_n M + 1)).2.2 u1
    rw [show h_n M + 1 + 1 = h_n M + 2 by omega] at e3' e4' e5' u6
    obtain ⟨M1, e1, D1⟩ := dS_with hD y2 y3 (by omega) (by omega)
    obtain ⟨M2, e2, D2⟩ := dS_take hD D1 (by simp [rowL_len]) 4
    obtain ⟨M3, e3, D3⟩ := dS_take hD D2 (by simp [rowL_len]) (f 10 o)
    obtain ⟨M4, e4, D4⟩ := dS_take hD D3 (by simp [rowL_len]) v
    obtain ⟨M5, e5, D5⟩ := dS_row hD D4 (n := 8) (a := h_n M + 2) (by simp [rowL_len]) e4' (by omega) (by omega) (by omega) (by omega)
    obtain ⟨c, e6, k1, k2', k3⟩ := dS_fin hD D5 (a := ρ o + 2 + 0) (o := 0) (n := 8) (by simp [rowL_len]) y2 (by omega) (by omega) (by omega) (by omega) h1.2.2.1.1 h1.2.2.1.2
    rw [show nI 8 = 8 from rfl] at e5
    rw [show nI 8 = 8 from rfl, show nI 0 = 0 from rfl, Nat.add_zero] at e6
    rw [Nat.add_zero] at e1
    -- the reference's
    have n31 : f1 4 31 = 0 := by rw [c4]; exact h.2.2.2.1.2.2.2.1
    obtain ⟨F1, p1, S1⟩ := rS_sayM (rS_nil n31) (rd := o) (m := 0) (by simp) (by omega) (by decide)
    obtain ⟨F2, p2, S2⟩ := rS_say S1 (by simp [rowL_len]) 4
    obtain ⟨F3, p3, S3⟩ := rS_say S2 (by simp [rowL_len]) (f 10 o)
    obtain ⟨F4, p4, S4⟩ := rS_say S3 (by simp [rowL_len]) v
    obtain ⟨F5, p5, S5⟩ := R_rl (g := g) (s := s) (by omega) (by omega) (nI o) (h_i M (Wd s)) 8 0 F4 f1 _ rfl (by simp [rowL_len]) S4 c6
    rw [Nat.add_zero] at S5
    obtain ⟨F6, p6, m4, m5⟩ := rS_keep S5 (rd := o) (m := 0) (by simp [rowL_len]) (by omega) (by decide) (fun j hj => by rw [f_r_row (by decide), c3]; exact h.2.2.2.1.2.2.2.2.1 j hj)
    rw [show nI 0 = 0 from rfl] at p1 p5 p6
    have wlA : rowL (h_i R (ρ o + 2 + 0)) 8 = rowL (fun k => f1 11 (40 * o + 8 * 0 + k)) 8 := rowL_congr (fun k' hk' => by
      have := (h1.2.2.2.2.2.2.1 o ho o2').2.2.2.2.2.2.2.2.2 0 k' (by decide) hk'
      rw [f_r_row (show 11 ≠ 19 by decide)] at this
      exact this)
    have wlB : rowL (h_i R (h_n M + 2)) 8 = rowL (fun j => h_i M (Wd s) (0 + j)) 8 := rowL_congr (fun k' hk' => by
      rw [u6 k' hk', f_r_in (by omega) (by omega), Nat.zero_add, show 8 * g + k' - 8 * g = k' by omega])
    rw [List.nil_append, ← wlA, ← wlB] at m5
    have h9 := meas_ h1 ho o2' (by decide) k1 k2' k3 m4 m5
    have h10 := W_status h9 0
    obtain ⟨j1, j1l, j1r⟩ := dS_s D1
    obtain ⟨j2, j2l, j2r⟩ := dS_s D2
    obtain ⟨j3, j3l, j3r⟩ := dS_s D3
    obtain ⟨j4, j4l, j4r⟩ := dS_s D4
    obtain ⟨j5, j5l, j5r⟩ := dS_s D5
    have i3 : h_i M3 (h_n M + 1) 2 = v := by
      obtain ⟨cc, hcc, -, -, hc4⟩ := D3
      rw [hcc, U_i, hc4 _ _ (by omega) (by omega)]; exact u4
    have cbit : ∀ M, ev 89 0 [some (.inl v)] [] M = some (some (.inl v), M) := fun M => by rcases hv with rfl | rfl; exact C_bit0; exact C_bit1
    have sU : h_k (mkU R c) 4 = 7 := by rw [U_kf]; exact r7
    have fin : ev 137 116 [some (.inr 4), some (.inl (nI g)), some (.inl (nI o)), some (.inl (nI s)), some (.inl 0)] [] (mkR F4) = some (some (.inl (f 10 o)), mkR (f_s F6 4 1 0)) := by
      have f17 : F6 17 g = f 10 o := by rw [m5 17 g (by decide) (by decide) (by decide) (by omega), f_r_row (by decide), f_r_row (by decide)]; exact c17
      rw [p5, e_137_116, if_pos (by decide)]
      simp only [kR1, kR2, kR3, kR4, kR5, kR6, kR7, kR8, kR9, kR10, kR11, kR12, kR13, kR14, kR15, kR16, kR17, kR18, kR19, kR20, kR21, kR22, kR23, kR24, kR25, kR26, kR27, kR28, kR29, kR30, lR1, lR2, lR3, lR4, lR5, lR6, lR7, lR8, lR9, lR10, lR11, lR12, lR13, lR14, lR15, lR16, lR17, lR18, lR19, lR20, lR21, lR22, lR23, lR24, lR25, lR26, lR27, lR28, lR29, lR30, rR5, rR6, rR7, rR8, rR9, rR10, rR11, rR12, rR13, rR14, rR15, rR16, rR17, rR18, rR19, rR20, rR21, rR22, rR23, rR24, rR25, rR26, rR27, rR28, rR29, rR30, R_i, R_si, R_rec, if_true, if_false, true_and, and_true, true_or, or_true, List.length_nil, List.length_cons, Nat.zero_le, c_I, c_R, c_V, R_no, R_refuse, R_fault, f_s_row, f4c, f4k, f4n, ne_eq, not_false_eq_true, not_true_eq_false, Nat.reduceEqDiff, reduceCtorEq, Nat.succ_ne_zero, Nat.reduceAdd, ar_0, z10, z20, z30, z40, z50, z01, zm0, zm1, p6, i_t (show g < 96 by omega) (show 96 < 2 ^ 31 by decide), i_c (show g < 2 ^ 31 by omega), f17]
    have f17 : F2 17 g = f 10 o := (S2.2.2 17 g (by decide) (by omega)).trans c17
    have f18 : F3 18 g = v := (S3.2.2 18 g (by decide) (by omega)).trans c18
    have pv : (v = 0 ∨ v = 1) = True := eq_true hv
    have rQ : h_r Q 4 1 = 5 := by
      have := s2'
      rw [← hR0, Q_si, Q_si] at this
      exact this
    refine ⟨f 10 o, _, _, _, _, _, ?_, ?_, h10, ?_, ?_⟩
    · simp only [e_41_57, c_I, c_R, c_V, if_true, if_false, true_and, and_true, true_or, or_true, List.length_nil, List.length_cons, Nat.zero_le, k_si, l_si, r_si, k_sr, l_sr, i_sr, n_si, ar_si, ar_sr, ar_0, r5, cR, q1, q2, q3, q4, q5, q6, q7, q8, l0, l8, not_false_eq_true, Nat.reduceAdd, Nat.le_refl, Nat.zero_add, Nat.reduceLeDiff, and_self, hcp]
      simp only [c_I, c_R, c_V, if_true, if_false, true_and, and_true, true_or, or_true, List.length_nil, List.length_cons, Nat.zero_le, k_si, l_si, r_si, k_sr, l_sr, i_sr, n_si, ar_si, ar_sr, ar_0, N6, num, rc3 N2, c19, Q4, Q7, rc4 Q4, rQ, hR0, r7, s2', rc4 (show h_k R (ρ o) = 4 from a1.2), C_rim hX a1.2 ⟨rfl, rfl, rfl⟩, rc1 hD.1, e1, j1, j1r, rc1 (show h_k M1 5 = 1 by rw [j1]; exact hD.1), e2, j2, j2r, rc1 (show h_k M2 5 = 1 by rw [j2]; exact hD.1), e3, j3, j3r, u1, i3, ln1, cbit, rc1 (show h_k M3 5 = 1 by rw [j3]; exact hD.1), e4, j4, j4r, e3', rc1 (show h_k M4 5 = 1 by rw [j4]; exact hD.1), e5, j5, j5r, rc4 (show h_k M5 (ρ o) = 4 by rw [j5]; exact a1.2), C_rim hX a1.2 (dS_s D5), rc1 (show h_k M5 5 = 1 by rw [j5]; exact hD.1), e6, rc7 sU, C_done sU, show ((1 : Nat) ≤ 8) = True from eq_true (by decide)]
    · rcases hv with rfl | rfl
      · simp only [e_137_80, e_137_113, kR1, kR2, kR3, kR4, kR5, kR6, kR7, kR8, kR9, kR10, kR11, kR12, kR13, kR14, kR15, kR16, kR17, kR18, kR19, kR20, kR21, kR22, kR23, kR24, kR25, kR26, kR27, kR28, kR29, kR30, lR1, lR2, lR3, lR4, lR5, lR6, lR7, lR8, lR9, lR10, lR11, lR12, lR13, lR14, lR15, lR16, lR17, lR18, lR19, lR20, lR21, lR22, lR23, lR24, lR25, lR26, lR27, lR28, lR29, lR30, rR5, rR6, rR7, rR8, rR9, rR10, rR11, rR12, rR13, rR14, rR15, rR16, rR17, rR18, rR19, rR20, rR21, rR22, rR23, rR24, rR25, rR26, rR27, rR28, rR29, rR30, R_i, R_si, R_rec, if_true, if_false, true_and, and_true, true_or, or_true, List.length_nil, List.length_cons, Nat.zero_le, c_I, c_R, c_V, R_no, R_refuse, R_fault, f_s_row, f4c, f4k, f4n, ne_eq, not_false_eq_true, not_true_eq_false, Nat.reduceEqDiff, reduceCtorEq, Nat.succ_ne_zero, Nat.reduceAdd, ar_0, z10, z20, z30, z40, z50, z01, zm0, zm1, pv, i_t (show g < 96 by omega) (show 96 < 2 ^ 31 by decide), i_c (show g < 2 ^ 31 by omega)]
        simp only [hf1, kR1, kR2, kR3, kR4, kR5, kR6, kR7, kR8, kR9, kR10, kR11, kR12, kR13, kR14, kR15, kR16, kR17, kR18, kR19, kR20, kR21, kR22, kR23, kR24, kR25, kR26, kR27, kR28, kR29, kR30, lR1, lR2, lR3, lR4, lR5, lR6, lR7, lR8, lR9, lR10, lR11, lR12, lR13, lR14, lR15, lR16, lR17, lR18, lR19, lR20, lR21, lR22, lR23, lR24, lR25, lR26, lR27, lR28, lR29, lR30, rR5, rR6, rR7, rR8, rR9, rR10, rR11, rR12, rR13, rR14, rR15, rR16, rR17, rR18, rR19, rR20, rR21, rR22, rR23, rR24, rR25, rR26, rR27, rR28, rR29, rR30, R_i, R_si, R_rec, if_true, if_false, true_and, and_true, true_or, or_true, List.length_nil, List.length_cons, Nat.zero_le, c_I, c_R, c_V, R_no, R_refuse, R_fault, f_s_row, f4c, f4k, f4n, ne_eq, not_false_eq_true, not_true_eq_false, Nat.reduceEqDiff, reduceCtorEq, Nat.succ_ne_zero, Nat.reduceAdd, ar_0, z10, z20, z30, z40, z50, z01, zm0, zm1, p1, p2, f17, p3, f18, p4, fin, i_t (show g < 96 by omega) (show 96 < 2 ^ 31 by decide), i_c (show g < 2 ^ 31 by omega)]
      · simp only [e_137_80, e_137_113, kR1, kR2, kR3, kR4, kR5, kR6, kR7, kR8, kR9, kR10, kR11, kR12, kR13, kR14, kR15, kR16, kR17, kR18, kR19, kR20, kR21, kR22, kR23, kR24, kR25, kR26, kR27, kR28, kR29, kR30, lR1, lR2, lR3, lR4, lR5, lR6, lR7, lR8, lR9, lR10, lR11, lR12, lR13, lR14, lR15, lR16, lR17, lR18, lR19, lR20, lR21, lR22, lR23, lR24, lR25, lR26, lR27, lR28, lR29, lR30, rR5, rR6, rR7, rR8, rR9, rR10, rR11, rR12, rR13, rR14, rR15, rR16, rR17, rR18, rR19, rR20, rR21, rR22, rR23, rR24, rR25, rR26, rR27, rR28, rR29, rR30, R_i, R_si, R_rec, if_true, if_false, true_and, and_true, true_or, or_true, List.length_nil, List.length_cons, Nat.zero_le, c_I, c_R, c_V, R_no, R_refuse, R_fault, f_s_row, f4c, f4k, f4n, ne_eq, not_false_eq_true, not_true_eq_false, Nat.reduceEqDiff, reduceCtorEq, Nat.succ_ne_zero, Nat.reduceAdd, ar_0, z10, z20, z30, z40, z50, z01, zm0, zm1, pv, i_t (show g < 96 by omega) (show 96 < 2 ^ 31 by decide), i_c (show g < 2 ^ 31 by omega)]
        simp only [hf1, kR1, kR2, kR3, kR4, kR5, kR6, kR7, kR8, kR9, kR10, kR11, kR12, kR13, kR14, kR15, kR16, kR17, kR18, kR19, kR20, kR21, kR22, kR23, kR24, kR25, kR26, kR27, kR28, kR29, kR30, lR1, lR2, lR3, lR4, lR5, lR6, lR7, lR8, lR9, lR10, lR11, lR12, lR13, lR14, lR15, lR16, lR17, lR18, lR19, lR20, lR21, lR22, lR23, lR24, lR25, lR26, lR27, lR28, lR29, lR30, rR5, rR6, rR7, rR8, rR9, rR10, rR11, rR12, rR13, rR14, rR15, rR16, rR17, rR18, rR19, rR20, rR21, rR22, rR23, rR24, rR25, rR26, rR27, rR28, rR29, rR30, R_i, R_si, R_rec, if_true, if_false, true_and, and_true, true_or, or_true, List.length_nil, List.length_cons, Nat.zero_le, c_I, c_R, c_V, R_no, R_refuse, R_fault, f_s_row, f4c, f4k, f4n, ne_eq, not_false_eq_true, not_true_eq_false, Nat.reduceEqDiff, reduceCtorEq, Nat.succ_ne_zero, Nat.reduceAdd, ar_0, z10, z20, z30, z40, z50, z01, zm0, zm1, p1, p2, f17, p3, f18, p4, fin, i_t (show g < 96 by omega) (show 96 < 2 ^ 31 by decide), i_c (show g < 2 ^ 31 by omega)]
    · rw [n_si, U_nf]; omega
    · rw [v_si, U_vf]; omega
  have A1 : h_k (h_al M 5 11) (G_ s) = 3 := by show (if G_ s = h_n M + 1 then 5 else h_k M (G_ s)) = 3; rw [if_neg (by omega)]; exact b2
  have A2 : h_r (h_al M 5 11) (G_ s) 1 = Wd s := by show (if G_ s = h_n M + 1 then 0 else h_r M (G_ s) 1) = Wd s; rw [if_neg (by omega)]; exact b3
  have A3 : h_k (h_al M 5 11) (Wd s) = 9 := by show (if Wd s = h_n M + 1 then 5 else h_k M (Wd s)) = 9; rw [if_neg (by omega)]; exact b4
  have A4 : h_l (h_al M 5 11) (Wd s) = 32 := by show (if Wd s = h_n M + 1 then 11 else h_l M (Wd s)) = 32; rw [if_neg (by omega)]; exact b5
  have A5 : h_i (h_al M 5 11) (Wd s) 8 = f 6 (32 * s + 8) := by show (if Wd s = h_n M + 1 then 0 else h_i M (Wd s) 8) = _; rw [if_neg (by omega)]; exact w8
  have fb10 : f_b f g 3 (nI o) 10 = f 10 := fbr (by decide) (by decide) (by decide)
  have fb6' : f_b f g 3 (nI o) 6 (32 * s + 8) = f 6 (32 * s + 8) := fbn (by omega) (by omega) (by omega)
  have n328 : nI (32 * s) + 8 = nI (32 * s + 8) := by rw [show (8 : Int32) = nI 8 from rfl, nI_add]
  have i8 : (8 : Int32).toNatClampNeg = 8 := rfl
  by_cases c8 : f 6 (32 * s + 8) = 0
  · refine OK2.map (rest 0 (by simp)) (fun v M' q => ?_) (fun v M' q => ?_)
    · rw [← q]
      simp only [e_41_0, c_I, c_R, c_V, if_true, if_false, true_and, and_true, true_or, or_true, List.length_nil, List.length_cons, Nat.zero_le, k_si, l_si, r_si, k_sr, l_sr, i_sr, n_si, ar_si, ar_sr, ar_0, rc7 s1, s1, C_no, C_none, C_yes, C_done, C_bit0, C_bit1, C_fault, z10, z20, z30, z40, z50, z01, zm0, zm1, C_at1 hB hN ho, C_at1 hB hN hg, C_at1 hB hN hs, G_ne, rc3 k2, C_own1 h ho o2, ρ_ne h ho o2, g2, z2, f5, b2, zs, s5, d1, d4, hw, A1, A2, A3, A4, A5, c8, il (show (8 : Int32) = nI 8 from rfl) (show 8 < 32 by decide) (by decide)]
    · rw [← q]
      simp only [e_137_0, kR1, kR2, kR3, kR4, kR5, kR6, kR7, kR8, kR9, kR10, kR11, kR12, kR13, kR14, kR15, kR16, kR17, kR18, kR19, kR20, kR21, kR22, kR23, kR24, kR25, kR26, kR27, kR28, kR29, kR30, lR1, lR2, lR3, lR4, lR5, lR6, lR7, lR8, lR9, lR10, lR11, lR12, lR13, lR14, lR15, lR16, lR17, lR18, lR19, lR20, lR21, lR22, lR23, lR24, lR25, lR26, lR27, lR28, lR29, lR30, rR5, rR6, rR7, rR8, rR9, rR10, rR11, rR12, rR13, rR14, rR15, rR16, rR17, rR18, rR19, rR20, rR21, rR22, rR23, rR24, rR25, rR26, rR27, rR28, rR29, rR30, R_i, R_si, R_rec, if_true, if_false, true_and, and_true, true_or, or_true, List.length_nil, List.length_cons, Nat.zero_le, c_I, c_R, c_V, R_no, R_refuse, R_fault, f_s_row, f4c, f4k, f4n, ne_eq, not_false_eq_true, not_true_eq_false, Nat.reduceEqDiff, reduceCtorEq, Nat.succ_ne_zero, Nat.reduceAdd, ar_0, z10, z20, z30, z40, z50, z01, zm0, zm1, R_isG1 hn ho (show n < 2 ^ 31 by omega), R_isG1 hn hg (show n < 2 ^ 31 by omega), R_isG1 hn hs (show n < 2 ^ 31 by omega), R_is (show o < 96 by omega), R_is (show g < 96 by omega), R_is (show s < 96 by omega), o2, f5, s5, hw, i_t (show o < 96 by omega) (show 96 < 2 ^ 31 by decide), i_c (show o < 2 ^ 31 by omega), i_t (show g < 96 by omega) (show 96 < 2 ^ 31 by decide), i_c (show g < 2 ^ 31 by omega), R_become (show g < 96 by omega), fb10, n32', n328, i_t (show 32 * s + 8 < 3072 by omega) (show 3072 < 2 ^ 31 by decide), i_c (show 32 * s + 8 < 2 ^ 31 by omega), fb6', c8]
  · refine OK2.map (rest 1 (by simp)) (fun v M' q => ?_) (fun v M' q => ?_)
    · rw [← q]
      simp only [e_41_0, c_I, c_R, c_V, if_true, if_false, true_and, and_true, true_or, or_true, List.length_nil, List.length_cons, Nat.zero_le, k_si, l_si, r_si, k_sr, l_sr, i_sr, n_si, ar_si, ar_sr, ar_0, rc7 s1, s1, C_no, C_none, C_yes, C_done, C_bit0, C_bit1, C_fault, z10, z20, z30, z40, z50, z01, zm0, zm1, C_at1 hB hN ho, C_at1 hB hN hg, C_at1 hB hN hs, G_ne, rc3 k2, C_own1 h ho o2, ρ_ne h ho o2, g2, z2, f5, b2, zs, s5, d1, d4, hw, A1, A2, A3, A4, A5, c8, il (show (8 : Int32) = nI 8 from rfl) (show 8 < 32 by decide) (by decide)]
    · rw [← q]
      simp only [e_137_0, kR1, kR2, kR3, kR4, kR5, kR6, kR7, kR8, kR9, kR10, kR11, kR12, kR13, kR14, kR15, kR16, kR17, kR18, kR19, kR20, kR21, kR22, kR23, kR24, kR25, kR26, kR27, kR28, kR29, kR30, lR1, lR2, lR3, lR4, lR5, lR6, lR7, lR8, lR9, lR10, lR11, lR12, lR13, lR14, lR15, lR16, lR17, lR18, lR19, lR20, lR21, lR22, lR23, lR24, lR25, lR26, lR27, lR28, lR29, lR30, rR5, rR6, rR7, rR8, rR9, rR10, rR11, rR12, rR13, rR14, rR15, rR16, rR17, rR18, rR19, rR20, rR21, rR22, rR23, rR24, rR25, rR26, rR27, rR28, rR29, rR30, R_i, R_si, R_rec, if_true, if_false, true_and, and_true, true_or, or_true, List.length_nil, List.length_cons, Nat.zero_le, c_I, c_R, c_V, R_no, R_refuse, R_fault, f_s_row, f4c, f4k, f4n, ne_eq, not_false_eq_true, not_true_eq_false, Nat.reduceEqDiff, reduceCtorEq, Nat.succ_ne_zero, Nat.reduceAdd, ar_0, z10, z20, z30, z40, z50, z01, zm0, zm1, R_isG1 hn ho (show n < 2 ^ 31 by omega), R_isG1 hn hg (show n < 2 ^ 31 by omega), R_isG1 hn hs (show n < 2 ^ 31 by omega), R_is (show o < 96 by omega), R_is (show g < 96 by omega), R_is (show s < 96 by omega), o2, f5, s5, hw, i_t (show o < 96 by omega) (show 96 < 2 ^ 31 by decide), i_c (show o < 2 ^ 31 by omega), i_t (show g < 96 by omega) (show 96 < 2 ^ 31 by decide), i_c (show g < 2 ^ 31 by omega), R_become (show g < 96 by omega), fb10, n32', n328, i_t (show 32 * s + 8 < 3072 by omega) (show 3072 < 2 ^ 31 by decide), i_c (show 32 * s + 8 < 2 ^ 31 by omega), fb6', c8]
end OP
