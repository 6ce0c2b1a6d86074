section OP
variable {n : Nat} {M : mM} {f : Nat → Nat → Int32} {ρ τ κ : Nat → Nat}
theorem U_kf (M : mM) (c : Nat → Nat → Int32) : h_k (mkU M c) = h_k M := rfl
theorem U_lf (M : mM) (c : Nat → Nat → Int32) : h_l (mkU M c) = h_l M := rfl
theorem U_nf (M : mM) (c : Nat → Nat → Int32) : h_n (mkU M c) = h_n M := rfl
theorem U_vf (M : mM) (c : Nat → Nat → Int32) : h_v (mkU M c) = h_v M := rfl
theorem U_rf (M : mM) (c : Nat → Nat → Int32) : h_r (mkU M c) = h_r M := rfl
theorem f_rc {a lo hi b j : Nat} {w : Nat → Int32} {x : Int32} (h : b ≠ a) : f_s (f_r f a lo hi w) b j x = f_r (f_s f b j x) a lo hi w := by
  funext c i
  by_cases q : c = b ∧ i = j
  · obtain ⟨rfl, rfl⟩ := q
    rw [f_s_eq, f_r_row h, f_s_eq]
  · rw [f_s_ne (by omega)]
    by_cases q2 : c = a ∧ lo ≤ i ∧ i < hi
    · obtain ⟨rfl, h1, h2⟩ := q2
      rw [f_r_in h1 h2, f_r_in h1 h2]
    · rw [f_r_ne (by omega), f_r_ne (by omega), f_s_ne (by omega)]
/-- the reference's copy of the words -/
theorem R_dcopy {s d : Nat} (hs : s < 96) (hd : d < 96) (hne : s ≠ d) (x1 x3 x5 : Int32) : ∀ (m k : Nat) (F : Nat → Nat → Int32), k + m = 32 → ev 148 84 [some (.inr 4), some (.inl x1), some (.inl (nI d)), some (.inl x3), some (.inl (nI s)), some (.inl x5), some (.inl (nI k))] [] (mkR F) = ev 148 84 [some (.inr 4), some (.inl x1), some (.inl (nI d)), some (.inl x3), some (.inl (nI s)), some (.inl x5), some (.inl (nI 32))] [] (mkR (f_r F 6 (32 * d + k) (32 * d + 32) (fun j => F 6 (32 * s + (j - 32 * d))))) := by
  intro m
  induction m with
  | zero =>
    intro k F hk
    rw [show k = 32 by omega, f_r0]
  | succ m ih =>
    intro k F hk
    rw [e_148_84]
    simp only [kR1, kR2, kR3, kR4, kR5, kR6, kR7, kR8, kR9, kR10, kR11, kR12, kR13, kR14, kR15, kR16, kR17, kR18, kR19, kR20, kR21, kR22, kR23, kR24, kR25, kR26, kR27, kR28, kR29, kR30, lR1, lR2, lR3, lR4, lR5, lR6, lR7, lR8, lR9, lR10, lR11, lR12, lR13, lR14, lR15, lR16, lR17, lR18, lR19, lR20, lR21, lR22, lR23, lR24, lR25, lR26, lR27, lR28, lR29, lR30, rR5, rR6, rR7, rR8, rR9, rR10, rR11, rR12, rR13, rR14, rR15, rR16, rR17, rR18, rR19, rR20, rR21, rR22, rR23, rR24, rR25, rR26, rR27, rR28, rR29, rR30, R_i, R_si, R_rec, if_true, if_false, true_and, and_true, true_or, or_true, List.length_nil, List.length_cons, Nat.zero_le, c_I, c_R, c_V, n_l (N := 32) (k := k) 32 rfl (by omega) (by decide), n32, nI_1, i_t (show 32 * s + k < 3072 by omega) (by decide), i_c (show 32 * s + k < 2 ^ 31 by omega), i_t (show 32 * d + k < 3072 by omega) (by decide), i_c (show 32 * d + k < 2 ^ 31 by omega)]
    rw [ih (k + 1) _ (by omega)]
    have e := f_rs2 (F := F) (a := 6) (b := 6) (lo := 32 * d + k) (hi := 32 * d + 32) (w := fun j => 32 * s + (j - 32 * d)) (by omega) (Or.inr (fun j h3 h4 => by show 32 * s + (j - 32 * d) ≠ 32 * d + k; omega))
    simp only [show 32 * d + k - 32 * d = k by omega] at e
    rw [← Nat.add_assoc, e]
/-- the reference says the words of a page -/
theorem R_dw {f0 : Nat → Nat → Int32} {d : Nat} (hd : d < 96) (x1 x2 : Int32) : ∀ (m k : Nat) (F : Nat → Nat → Int32) (wl : List Int32), k + m = 32 → wl.length + m ≤ 45 → rS f0 wl F → ∃ F', ev 147 2 [some (.inr 4), some (.inl x1), some (.inl x2), some (.inl (nI d)), some (.inl (nI k))] [] (mkR F) = ev 147 2 [some (.inr 4), some (.inl x1), some (.inl x2), some (.inl (nI d)), some (.inl (nI 32))] [] (mkR F') ∧ rS f0 (wl ++ rowL (fun j => f0 6 (32 * d + (k + j))) m) F' := by
  intro m
  induction m with
  | zero =>
    intro k F wl hk hl hS
    exact ⟨F, by rw [show k = 32 by omega], by simpa [rowL] using hS⟩
  | succ m ih =>
    intro k F wl hk hl hS
    obtain ⟨F1, e1, e2⟩ := rS_say hS (by omega) (f0 6 (32 * d + k))
    obtain ⟨F2, e3, e4⟩ := ih (k + 1) F1 (wl ++ [f0 6 (32 * d + k)]) (by omega) (by rw [List.length_append]; simp; omega) e2
    refine ⟨F2, ?_, ?_⟩
    · rw [e_147_2]
      have f6 : F 6 (32 * d + k) = f0 6 (32 * d + k) := hS.2.2 6 _ (by decide) (by omega)
      simp only [kR1, kR2, kR3, kR4, kR5, kR6, kR7, kR8, kR9, kR10, kR11, kR12, kR13, kR14, kR15, kR16, kR17, kR18, kR19, kR20, kR21, kR22, kR23, kR24, kR25, kR26, kR27, kR28, kR29, kR30, lR1, lR2, lR3, lR4, lR5, lR6, lR7, lR8, lR9, lR10, lR11, lR12, lR13, lR14, lR15, lR16, lR17, lR18, lR19, lR20, lR21, lR22, lR23, lR24, lR25, lR26, lR27, lR28, lR29, lR30, rR5, rR6, rR7, rR8, rR9, rR10, rR11, rR12, rR13, rR14, rR15, rR16, rR17, rR18, rR19, rR20, rR21, rR22, rR23, rR24, rR25, rR26, rR27, rR28, rR29, rR30, R_i, R_si, R_rec, if_true, if_false, true_and, and_true, true_or, or_true, List.length_nil, List.length_cons, Nat.zero_le, c_I, c_R, c_V, n_l (N := 32) (k := k) 32 rfl (by omega) (by decide), n32, nI_1, i_t (show 32 * d + k < 3072 by omega) (by decide), i_c (show 32 * d + k < 2 ^ 31 by omega), f6, e1]
      exact e3
    · rw [rowL_cons]
      rw [List.append_assoc] at e4
      rw [show (fun j => f0 6 (32 * d + (k + (j + 1)))) = (fun j => f0 6 (32 * d + (k + 1 + j))) from funext fun j => by rw [show k + (j + 1) = k + 1 + j by omega]]
      exact e4
theorem R_dh {f0 : Nat → Nat → Int32} (x1 x2 x3 : Int32) : ∀ (m k : Nat) (F : Nat → Nat → Int32) (wl : List Int32), k + m = 8 → wl.length + m ≤ 45 → rS f0 wl F → ∃ F', ev 147 31 [some (.inr 4), some (.inl x1), some (.inl x2), some (.inl x3), some (.inl (nI k))] [] (mkR F) = ev 147 31 [some (.inr 4), some (.inl x1), some (.inl x2), some (.inl x3), some (.inl (nI 8))] [] (mkR F') ∧ rS f0 (wl ++ rowL (fun j => f0 28 (k + j)) m) F' := by
  intro m
  induction m with
  | zero =>
    intro k F wl hk hl hS
    exact ⟨F, by rw [show k = 8 by omega], by simpa [rowL] using hS⟩
  | succ m ih =>
    intro k F wl hk hl hS
    obtain ⟨F1, e1, e2⟩ := rS_say hS (by omega) (f0 28 k)
    obtain ⟨F2, e3, e4⟩ := ih (k + 1) F1 (wl ++ [f0 28 k]) (by omega) (by rw [List.length_append]; simp; omega) e2
    refine ⟨F2, ?_, ?_⟩
    · rw [e_147_31]
      have f28 : F 28 k = f0 28 k := hS.2.2 28 _ (by decide) (by omega)
      simp only [kR1, kR2, kR3, kR4, kR5, kR6, kR7, kR8, kR9, kR10, kR11, kR12, kR13, kR14, kR15, kR16, kR17, kR18, kR19, kR20, kR21, kR22, kR23, kR24, kR25, kR26, kR27, kR28, kR29, kR30, lR1, lR2, lR3, lR4, lR5, lR6, lR7, lR8, lR9, lR10, lR11, lR12, lR13, lR14, lR15, lR16, lR17, lR18, lR19, lR20, lR21, lR22, lR23, lR24, lR25, lR26, lR27, lR28, lR29, lR30, rR5, rR6, rR7, rR8, rR9, rR10, rR11, rR12, rR13, rR14, rR15, rR16, rR17, rR18, rR19, rR20, rR21, rR22, rR23, rR24, rR25, rR26, rR27, rR28, rR29, rR30, R_i, R_si, R_rec, if_true, if_false, true_and, and_true, true_or, or_true, List.length_nil, List.length_cons, Nat.zero_le, c_I, c_R, c_V, n_l (N := 8) (k := k) 8 rfl (by omega) (by decide), nI_1, i_t (show k < 8 by omega) (by decide), i_c (show k < 2 ^ 31 by omega), f28, e1]
      exact e3
    · rw [rowL_cons]
      rw [List.append_assoc] at e4
      rw [show (fun j => f0 28 (k + (j + 1))) = (fun j => f0 28 (k + 1 + j)) from funext fun j => by rw [show k + (j + 1) = k + 1 + j by omega]]
      exact e4
theorem op_data (h : Rel n M f ρ τ κ) (x y z v : Int32) : OK2 n M (ev 47 0 [some (.inr 4), some (.inl x), some (.inl y), some (.inl z), some (.inl v), none, none, none, none, none] [] M) (ev 148 0 [some (.inr 4), some (.inl x), some (.inl y), some (.inl z), some (.inl v), none, none] [] (mkR f)) := by
  have hB := h.1
  have s1 := h.1.2.1.1
  have hn := h.2.2.2.1.1
  have hN := h.2.2.2.1.2.2.1
  obtain ⟨u, hu⟩ := C_atE hB hN y
  obtain ⟨u', hu'⟩ := C_atE hB hN v
  rcases ix2 x (show n < 2 ^ 31 by omega) with hx | ⟨o, ho, rfl⟩
  · exact OK2.of (v := 0) (by simp only [e_47_0, e_47_21, e_47_37, e_47_59, c_I, c_R, c_V, if_true, if_false, true_and, and_true, true_or, or_true, List.length_nil, List.length_cons, Nat.zero_le, k_si, l_si, r_si, k_sr, l_sr, i_sr, n_si, ar_si, ar_sr, ar_0, rc7 s1, s1, C_no, C_none, C_yes, C_done, C_bit0, C_bit1, C_fault, z10, z20, z30, z40, z50, z01, zm0, zm1, C_at0 hB hx, R_isG0 hn hx, hu, hu']; try rfl) (by simp only [e_148_0, e_148_15, kR1, kR2, kR3, kR4, kR5, kR6, kR7, kR8, kR9, kR10, kR11, kR12, kR13, kR14, kR15, kR16, kR17, kR18, kR19, kR20, kR21, kR22, kR23, kR24, kR25, kR26, kR27, kR28, kR29, kR30, lR1, lR2, lR3, lR4, lR5, lR6, lR7, lR8, lR9, lR10, lR11, lR12, lR13, lR14, lR15, lR16, lR17, lR18, lR19, lR20, lR21, lR22, lR23, lR24, lR25, lR26, lR27, lR28, lR29, lR30, rR5, rR6, rR7, rR8, rR9, rR10, rR11, rR12, rR13, rR14, rR15, rR16, rR17, rR18, rR19, rR20, rR21, rR22, rR23, rR24, rR25, rR26, rR27, rR28, rR29, rR30, R_i, R_si, R_rec, if_true, if_false, true_and, and_true, true_or, or_true, List.length_nil, List.length_cons, Nat.zero_le, c_I, c_R, c_V, R_no, R_refuse, R_fault, f_s_row, f4c, f4k, f4n, ne_eq, not_false_eq_true, not_true_eq_false, Nat.reduceEqDiff, reduceCtorEq, Nat.succ_ne_zero, Nat.reduceAdd, ar_0, z10, z20, z30, z40, z50, z01, zm0, zm1, C_at0 hB hx, R_isG0 hn hx, hu, hu']; try rfl) (U_status h 1) rfl rfl
  have k2 := (hB.2.2.2.2.1 o ho).2.1
  rcases ix2 y (show n < 2 ^ 31 by omega) with hy | ⟨d, hd, rfl⟩
  · exact OK2.of (v := 0) (by simp only [e_47_0, e_47_21, e_47_37, e_47_59, c_I, c_R, c_V, if_true, if_false, true_and, and_true, true_or, or_true, List.length_nil, List.length_cons, Nat.zero_le, k_si, l_si, r_si, k_sr, l_sr, i_sr, n_si, ar_si, ar_sr, ar_0, rc7 s1, s1, C_no, C_none, C_yes, C_done, C_bit0, C_bit1, C_fault, z10, z20, z30, z40, z50, z01, zm0, zm1, C_at1 hB hN ho, R_isG1 hn ho (by omega), G_ne, C_at0 hB hy, R_isG0 hn hy, hu']; try rfl) (by simp only [e_148_0, e_148_15, kR1, kR2, kR3, kR4, kR5, kR6, kR7, kR8, kR9, kR10, kR11, kR12, kR13, kR14, kR15, kR16, kR17, kR18, kR19, kR20, kR21, kR22, kR23, kR24, kR25, kR26, kR27, kR28, kR29, kR30, lR1, lR2, lR3, lR4, lR5, lR6, lR7, lR8, lR9, lR10, lR11, lR12, lR13, lR14, lR15, lR16, lR17, lR18, lR19, lR20, lR21, lR22, lR23, lR24, lR25, lR26, lR27, lR28, lR29, lR30, rR5, rR6, rR7, rR8, rR9, rR10, rR11, rR12, rR13, rR14, rR15, rR16, rR17, rR18, rR19, rR20, rR21, rR22, rR23, rR24, rR25, rR26, rR27, rR28, rR29, rR30, R_i, R_si, R_rec, if_true, if_false, true_and, and_true, true_or, or_true, List.length_nil, List.length_cons, Nat.zero_le, c_I, c_R, c_V, R_no, R_refuse, R_fault, f_s_row, f4c, f4k, f4n, ne_eq, not_false_eq_true, not_true_eq_false, Nat.reduceEqDiff, reduceCtorEq, Nat.succ_ne_zero, Nat.reduceAdd, ar_0, z10, z20, z30, z40, z50, z01, zm0, zm1, C_at1 hB hN ho, R_isG1 hn ho (by omega), G_ne, C_at0 hB hy, R_isG0 hn hy, hu']; try rfl) (U_status h 1) rfl rfl
  clear hu u
  obtain ⟨g1, g2, g3, g4, g5⟩ := hB.2.2.2.2.1 d hd
  have z2 := (h.2.2.2.2.2.1 d hd).2.1
  rcases ix2 v (show n < 2 ^ 31 by omega) with hv | ⟨s, hs, rfl⟩
  · exact OK2.of (v := 0) (by simp only [e_47_0, e_47_21, e_47_37, e_47_59, c_I, c_R, c_V, if_true, if_false, true_and, and_true, true_or, or_true, List.length_nil, List.length_cons, Nat.zero_le, k_si, l_si, r_si, k_sr, l_sr, i_sr, n_si, ar_si, ar_sr, ar_0, rc7 s1, s1, C_no, C_none, C_yes, C_done, C_bit0, C_bit1, C_fault, z10, z20, z30, z40, z50, z01, zm0, zm1, C_at1 hB hN ho, R_isG1 hn ho (by omega), G_ne, C_at1 hB hN hd, R_isG1 hn hd (by omega), C_at0 hB hv, R_isG0 hn hv]; try rfl) (by simp only [e_148_0, e_148_15, kR1, kR2, kR3, kR4, kR5, kR6, kR7, kR8, kR9, kR10, kR11, kR12, kR13, kR14, kR15, kR16, kR17, kR18, kR19, kR20, kR21, kR22, kR23, kR24, kR25, kR26, kR27, kR28, kR29, kR30, lR1, lR2, lR3, lR4, lR5, lR6, lR7, lR8, lR9, lR10, lR11, lR12, lR13, lR14, lR15, lR16, lR17, lR18, lR19, lR20, lR21, lR22, lR23, lR24, lR25, lR26, lR27, lR28, lR29, lR30, rR5, rR6, rR7, rR8, rR9, rR10, rR11, rR12, rR13, rR14, rR15, rR16, rR17, rR18, rR19, rR20, rR21, rR22, rR23, rR24, rR25, rR26, rR27, rR28, rR29, rR30, R_i, R_si, R_rec, if_true, if_false, true_and, and_true, true_or, or_true, List.length_nil, List.length_cons, Nat.zero_le, c_I, c_R, c_V, R_no, R_refuse, R_fault, f_s_row, f4c, f4k, f4n, ne_eq, not_false_eq_true, not_true_eq_false, Nat.reduceEqDiff, reduceCtorEq, Nat.succ_ne_zero, Nat.reduceAdd, ar_0, z10, z20, z30, z40, z50, z01, zm0, zm1, C_at1 hB hN ho, R_isG1 hn ho (by omega), G_ne, C_at1 hB hN hd, R_isG1 hn hd (by omega), C_at0 hB hv, R_isG0 hn hv]; try rfl) (U_status h 1) rfl rfl
  clear hu' u'
  obtain ⟨b1, b2, b3, b4, b5⟩ := hB.2.2.2.2.1 s hs
  have zs := (h.2.2.2.2.2.1 s hs).2.1
  rcases ix2048 z with ⟨hz, -⟩ | ⟨hz, -⟩ | ⟨P, hP, rfl, -⟩
  · exact OK2.of (v := 0) (by simp only [e_47_0, e_47_21, e_47_37, e_47_59, c_I, c_R, c_V, if_true, if_false, true_and, and_true, true_or, or_true, List.length_nil, List.length_cons, Nat.zero_le, k_si, l_si, r_si, k_sr, l_sr, i_sr, n_si, ar_si, ar_sr, ar_0, rc7 s1, s1, C_no, C_none, C_yes, C_done, C_bit0, C_bit1, C_fault, z10, z20, z30, z40, z50, z01, zm0, zm1, C_at1 hB hN ho, R_isG1 hn ho (by omega), G_ne, C_at1 hB hN hd, R_isG1 hn hd (by omega), C_at1 hB hN hs, R_isG1 hn hs (by omega), C_isProt0 (Or.inl hz), R_isSafe0 (Or.inl hz)]; try rfl) (by simp only [e_148_0, e_148_15, kR1, kR2, kR3, kR4, kR5, kR6, kR7, kR8, kR9, kR10, kR11, kR12, kR13, kR14, kR15, kR16, kR17, kR18, kR19, kR20, kR21, kR22, kR23, kR24, kR25, kR26, kR27, kR28, kR29, kR30, lR1, lR2, lR3, lR4, lR5, lR6, lR7, lR8, lR9, lR10, lR11, lR12, lR13, lR14, lR15, lR16, lR17, lR18, lR19, lR20, lR21, lR22, lR23, lR24, lR25, lR26, lR27, lR28, lR29, lR30, rR5, rR6, rR7, rR8, rR9, rR10, rR11, rR12, rR13, rR14, rR15, rR16, rR17, rR18, rR19, rR20, rR21, rR22, rR23, rR24, rR25, rR26, rR27, rR28, rR29, rR30, R_i, R_si, R_rec, if_true, if_false, true_and, and_true, true_or, or_true, List.length_nil, List.length_cons, Nat.zero_le, c_I, c_R, c_V, R_no, R_refuse, R_fault, f_s_row, f4c, f4k, f4n, ne_eq, not_false_eq_true, not_true_eq_false, Nat.reduceEqDiff, reduceCtorEq, Nat.succ_ne_zero, Nat.reduceAdd, ar_0, z10, z20, z30, z40, z50, z01, zm0, zm1, C_at1 hB hN ho, R_isG1 hn ho (by omega), G_ne, C_at1 hB hN hd, R_isG1 hn hd (by omega), C_at1 hB hN hs, R_isG1 hn hs (by omega), C_isProt0 (Or.inl hz), R_isSafe0 (Or.inl hz)]; try rfl) (U_status h 1) rfl rfl
  · exact OK2.of (v := 0) (by simp only [e_47_0, e_47_21, e_47_37, e_47_59, c_I, c_R, c_V, if_true, if_false, true_and, and_true, true_or, or_true, List.length_nil, List.length_cons, Nat.zero_le, k_si, l_si, r_si, k_sr, l_sr, i_sr, n_si, ar_si, ar_sr, ar_0, rc7 s1, s1, C_no, C_none, C_yes, C_done, C_bit0, C_bit1, C_fault, z10, z20, z30, z40, z50, z01, zm0, zm1, C_at1 hB hN ho, R_isG1 hn ho (by omega), G_ne, C_at1 hB hN hd, R_isG1 hn hd (by omega), C_at1 hB hN hs, R_isG1 hn hs (by omega), C_isProt0 (Or.inr hz), R_isSafe0 (Or.inr hz)]; try rfl) (by simp only [e_148_0, e_148_15, kR1, kR2, kR3, kR4, kR5, kR6, kR7, kR8, kR9, kR10, kR11, kR12, kR13, kR14, kR15, kR16, kR17, kR18, kR19, kR20, kR21, kR22, kR23, kR24, kR25, kR26, kR27, kR28, kR29, kR30, lR1, lR2, lR3, lR4, lR5, lR6, lR7, lR8, lR9, lR10, lR11, lR12, lR13, lR14, lR15, lR16, lR17, lR18, lR19, lR20, lR21, lR22, lR23, lR24, lR25, lR26, lR27, lR28, lR29, lR30, rR5, rR6, rR7, rR8, rR9, rR10, rR11, rR12, rR13, rR14, rR15, rR16, rR17, rR18, rR19, rR20, rR21, rR22, rR23, rR24, rR25, rR26, rR27, rR28, rR29, rR30, R_i, R_si, R_rec, if_true, if_false, true_and, and_true, true_or, or_true, List.length_nil, List.length_cons, Nat.zero_le, c_I, c_R, c_V, R_no, R_refuse, R_fault, f_s_row, f4c, f4k, f4n, ne_eq, not_false_eq_true, not_true_eq_false, Nat.reduceEqDiff, reduceCtorEq, Nat.succ_ne_zero, Nat.reduceAdd, ar_0, z10, z20, z30, z40, z50, z01, zm0, zm1, C_at1 hB hN ho, R_isG1 hn ho (by omega), G_ne, C_at1 hB hN hd, R_isG1 hn hd (by omega), C_at1 hB hN hs, R_isG1 hn hs (by omega), C_isProt0 (Or.inr hz), R_isSafe0 (Or.inr hz)]; try rfl) (U_status h 1) rfl rfl
  by_cases o2 : f 5 o = 2
  case neg => exact OK2.of (v := 0) (by simp only [e_47_0, e_47_21, e_47_37, e_47_59, c_I, c_R, c_V, if_true, if_false, true_and, and_true, true_or, or_true, List.length_nil, List.length_cons, Nat.zero_le, k_si, l_si, r_si, k_sr, l_sr, i_sr, n_si, ar_si, ar_sr, ar_0, rc7 s1, s1, C_no, C_none, C_yes, C_done, C_bit0, C_bit1, C_fault, z10, z20, z30, z40, z50, z01, zm0, zm1, C_at1 hB hN ho, R_isG1 hn ho (by omega), G_ne, C_at1 hB hN hd, R_isG1 hn hd (by omega), C_at1 hB hN hs, R_isG1 hn hs (by omega), C_isProt1 hP, R_isSafe1 hP, rc3 k2, C_own0 h ho o2, R_is (show o < 96 by omega), o2]; try rfl) (by simp only [e_148_0, e_148_34, kR1, kR2, kR3, kR4, kR5, kR6, kR7, kR8, kR9, kR10, kR11, kR12, kR13, kR14, kR15, kR16, kR17, kR18, kR19, kR20, kR21, kR22, kR23, kR24, kR25, kR26, kR27, kR28, kR29, kR30, lR1, lR2, lR3, lR4, lR5, lR6, lR7, lR8, lR9, lR10, lR11, lR12, lR13, lR14, lR15, lR16, lR17, lR18, lR19, lR20, lR21, lR22, lR23, lR24, lR25, lR26, lR27, lR28, lR29, lR30, rR5, rR6, rR7, rR8, rR9, rR10, rR11, rR12, rR13, rR14, rR15, rR16, rR17, rR18, rR19, rR20, rR21, rR22, rR23, rR24, rR25, rR26, rR27, rR28, rR29, rR30, R_i, R_si, R_rec, if_true, if_false, true_and, and_true, true_or, or_true, List.length_nil, List.length_cons, Nat.zero_le, c_I, c_R, c_V, R_no, R_refuse, R_fault, f_s_row, f4c, f4k, f4n, ne_eq, not_false_eq_true, not_true_eq_false, Nat.reduceEqDiff, reduceCtorEq, Nat.succ_ne_zero, Nat.reduceAdd, ar_0, z10, z20, z30, z40, z50, z01, zm0, zm1, C_at1 hB hN ho, R_isG1 hn ho (by omega), G_ne, C_at1 hB hN hd, R_isG1 hn hd (by omega), C_at1 hB hN hs, R_isG1 hn hs (by omega), C_isProt1 hP, R_isSafe1 hP, rc3 k2, C_own0 h ho o2, R_is (show o < 96 by omega), o2]; try rfl) (U_status h 2) rfl rfl
  obtain ⟨d1, -, -, d4, -⟩ := h.2.2.2.2.2.2.1 o ho o2
  by_cases d5 : f 5 d = 1
  case neg => exact OK2.of (v := 0) (by simp only [e_47_0, e_47_21, e_47_37, e_47_59, c_I, c_R, c_V, if_true, if_false, true_and, and_true, true_or, or_true, List.length_nil, List.length_cons, Nat.zero_le, k_si, l_si, r_si, k_sr, l_sr, i_sr, n_si, ar_si, ar_sr, ar_0, rc7 s1, s1, C_no, C_none, C_yes, C_done, C_bit0, C_bit1, C_fault, z10, z20, z30, z40, z50, z01, zm0, zm1, C_at1 hB hN ho, R_isG1 hn ho (by omega), G_ne, C_at1 hB hN hd, R_isG1 hn hd (by omega), C_at1 hB hN hs, R_isG1 hn hs (by omega), C_isProt1 hP, R_isSafe1 hP, rc3 k2, C_own1 h ho o2, ρ_ne h ho o2, R_is (show o < 96 by omega), R_is (show d < 96 by omega), o2, d5, g2, z2]; try rfl) (by simp only [e_148_0, e_148_34, kR1, kR2, kR3, kR4, kR5, kR6, kR7, kR8, kR9, kR10, kR11, kR12, kR13, kR14, kR15, kR16, kR17, kR18, kR19, kR20, kR21, kR22, kR23, kR24, kR25, kR26, kR27, kR28, kR29, kR30, lR1, lR2, lR3, lR4, lR5, lR6, lR7, lR8, lR9, lR10, lR11, lR12, lR13, lR14, lR15, lR16, lR17, lR18, lR19, lR20, lR21, lR22, lR23, lR24, lR25, lR26, lR27, lR28, lR29, lR30, rR5, rR6, rR7, rR8, rR9, rR10, rR11, rR12, rR13, rR14, rR15, rR16, rR17, rR18, rR19, rR20, rR21, rR22, rR23, rR24, rR25, rR26, rR27, rR28, rR29, rR30, R_i, R_si, R_rec, if_true, if_false, true_and, and_true, true_or, or_true, List.length_nil, List.length_cons, Nat.zero_le, c_I, c_R, c_V, R_no, R_refuse, R_fault, f_s_row, f4c, f4k, f4n, ne_eq, not_false_eq_true, not_true_eq_false, Nat.reduceEqDiff, reduceCtorEq, Nat.succ_ne_zero, Nat.reduceAdd, ar_0, z10, z20, z30, z40, z50, z01, zm0, zm1, C_at1 hB hN ho, R_isG1 hn ho (by omega), G_ne, C_at1 hB hN hd, R_isG1 hn hd (by omega), C_at1 hB hN hs, R_isG1 hn hs (by omega), C_isProt1 hP, R_isSafe1 hP, rc3 k2, C_own1 h ho o2, ρ_ne h ho o2, R_is (show o < 96 by omega), R_is (show d < 96 by omega), o2, d5, g2, z2]; try rfl) (U_status h 2) rfl rfl
  by_cases s5 : f 5 s = 0
  case neg => exact OK2.of (v := 0) (by simp only [e_47_0, e_47_21, e_47_37, e_47_59, c_I, c_R, c_V, if_true, if_false, true_and, and_true, true_or, or_true, List.length_nil, List.length_cons, Nat.zero_le, k_si, l_si, r_si, k_sr, l_sr, i_sr, n_si, ar_si, ar_sr, ar_0, rc7 s1, s1, C_no, C_none, C_yes, C_done, C_bit0, C_bit1, C_fault, z10, z20, z30, z40, z50, z01, zm0, zm1, C_at1 hB hN ho, R_isG1 hn ho (by omega), G_ne, C_at1 hB hN hd, R_isG1 hn hd (by omega), C_at1 hB hN hs, R_isG1 hn hs (by omega), C_isProt1 hP, R_isSafe1 hP, rc3 k2, C_own1 h ho o2, ρ_ne h ho o2, R_is (show o < 96 by omega), R_is (show d < 96 by omega), R_is (show s < 96 by omega), o2, d5, s5, g2, z2, b2, zs]; try rfl) (by simp only [e_148_0, e_148_34, kR1, kR2, kR3, kR4, kR5, kR6, kR7, kR8, kR9, kR10, kR11, kR12, kR13, kR14, kR15, kR16, kR17, kR18, kR19, kR20, kR21, kR22, kR23, kR24, kR25, kR26, kR27, kR28, kR29, kR30, lR1, lR2, lR3, lR4, lR5, lR6, lR7, lR8, lR9, lR10, lR11, lR12, lR13, lR14, lR15, lR16, lR17, lR18, lR19, lR20, lR21, lR22, lR23, lR24, lR25, lR26, lR27, lR28, lR29, lR30, rR5, rR6, rR7, rR8, rR9, rR10, rR11, rR12, rR13, rR14, rR15, rR16, rR17, rR18, rR19, rR20, rR21, rR22, rR23, rR24, rR25, rR26, rR27, rR28, rR29, rR30, R_i, R_si, R_rec, if_true, if_false, true_and, and_true, true_or, or_true, List.length_nil, List.length_cons, Nat.zero_le, c_I, c_R, c_V, R_no, R_refuse, R_fault, f_s_row, f4c, f4k, f4n, ne_eq, not_false_eq_true, not_true_eq_false, Nat.reduceEqDiff, reduceCtorEq, Nat.succ_ne_zero, Nat.reduceAdd, ar_0, z10, z20, z30, z40, z50, z01, zm0, zm1, C_at1 hB hN ho, R_isG1 hn ho (by omega), G_ne, C_at1 hB hN hd, R_isG1 hn hd (by omega), C_at1 hB hN hs, R_isG1 hn hs (by omega), C_isProt1 hP, R_isSafe1 hP, rc3 k2, C_own1 h ho o2, ρ_ne h ho o2, R_is (show o < 96 by omega), R_is (show d < 96 by omega), R_is (show s < 96 by omega), o2, d5, s5, g2, z2, b2, zs]; try rfl) (U_status h 2) rfl rfl
  by_cases hw : f 8 o = 0
  case neg => exact OK2.of (v := 0) (by simp only [e_47_0, e_47_21, e_47_37, e_47_59, c_I, c_R, c_V, if_true, if_false, true_and, and_true, true_or, or_true, List.length_nil, List.length_cons, Nat.zero_le, k_si, l_si, r_si, k_sr, l_sr, i_sr, n_si, ar_si, ar_sr, ar_0, rc7 s1, s1, C_no, C_none, C_yes, C_done, C_bit0, C_bit1, C_fault, z10, z20, z30, z40, z50, z01, zm0, zm1, C_at1 hB hN ho, R_isG1 hn ho (by omega), G_ne, C_at1 hB hN hd, R_isG1 hn hd (by omega), C_at1 hB hN hs, R_isG1 hn hs (by omega), C_isProt1 hP, R_isSafe1 hP, rc3 k2, C_own1 h ho o2, ρ_ne h ho o2, R_is (show o < 96 by omega), R_is (show d < 96 by omega), R_is (show s < 96 by omega), o2, d5, s5, g2, z2, b2, zs, d1, d4, hw, i_t (show o < 96 by omega) (by decide), i_c (show o < 2 ^ 31 by omega)]; try rfl) (by simp only [e_148_0, kR1, kR2, kR3, kR4, kR5, kR6, kR7, kR8, kR9, kR10, kR11, kR12, kR13, kR14, kR15, kR16, kR17, kR18, kR19, kR20, kR21, kR22, kR23, kR24, kR25, kR26, kR27, kR28, kR29, kR30, lR1, lR2, lR3, lR4, lR5, lR6, lR7, lR8, lR9, lR10, lR11, lR12, lR13, lR14, lR15, lR16, lR17, lR18, lR19, lR20, lR21, lR22, lR23, lR24, lR25, lR26, lR27, lR28, lR29, lR30, rR5, rR6, rR7, rR8, rR9, rR10, rR11, rR12, rR13, rR14, rR15, rR16, rR17, rR18, rR19, rR20, rR21, rR22, rR23, rR24, rR25, rR26, rR27, rR28, rR29, rR30, R_i, R_si, R_rec, if_true, if_false, true_and, and_true, true_or, or_true, List.length_nil, List.length_cons, Nat.zero_le, c_I, c_R, c_V, R_no, R_refuse, R_fault, f_s_row, f4c, f4k, f4n, ne_eq, not_false_eq_true, not_true_eq_false, Nat.reduceEqDiff, reduceCtorEq, Nat.succ_ne_zero, Nat.reduceAdd, ar_0, z10, z20, z30, z40, z50, z01, zm0, zm1, C_at1 hB hN ho, R_isG1 hn ho (by omega), G_ne, C_at1 hB hN hd, R_isG1 hn hd (by omega), C_at1 hB hN hs, R_isG1 hn hs (by omega), C_isProt1 hP, R_isSafe1 hP, rc3 k2, C_own1 h ho o2, ρ_ne h ho o2, R_is (show o < 96 by omega), R_is (show d < 96 by omega), R_is (show s < 96 by omega), o2, d5, s5, g2, z2, b2, zs, d1, d4, hw, i_t (show o < 96 by omega) (by decide), i_c (show o < 2 ^ 31 by omega)]; try rfl) (U_status h 3) rfl rfl
  obtain ⟨k, t, i, hwk, hk, l1, l3, -⟩ := leaf_ h ho o2 (show P < 4096 by omega)
  obtain ⟨w1, w2, w3, w4, w5, w6, w7, w8, w9, w10, w11, w12, w13, w14, w15⟩ := hwk
  have e8 : (8 * t + i) / 8 = t := by omega
  by_cases k3 : k = 3
  case neg =>
    have k3' : ¬ nI k = 3 := fun q => k3 (nI_inj (by omega) (by decide) q)
    exact OK2.of (v := 0) (by simp only [e_47_0, e_47_21, e_47_37, e_47_59, c_I, c_R, c_V, if_true, if_false, true_and, and_true, true_or, or_true, List.length_nil, List.length_cons, Nat.zero_le, k_si, l_si, r_si, k_sr, l_sr, i_sr, n_si, ar_si, ar_sr, ar_0, rc7 s1, s1, C_no, C_none, C_yes, C_done, C_bit0, C_bit1, C_fault, z10, z20, z30, z40, z50, z01, zm0, zm1, C_at1 hB hN ho, R_isG1 hn ho (by omega), G_ne, C_at1 hB hN hd, R_isG1 hn hd (by omega), C_at1 hB hN hs, R_isG1 hn hs (by omega), C_isProt1 hP, R_isSafe1 hP, rc3 k2, C_own1 h ho o2, ρ_ne h ho o2, R_is (show o < 96 by omega), R_is (show d < 96 by omega), R_is (show s < 96 by omega), o2, d5, s5, g2, z2, b2, zs, d1, d4, hw, i_t (show o < 96 by omega) (by decide), i_c (show o < 2 ^ 31 by omega), rc4 d1, l1, l3, rc2 w10, C_free0 w10 (fun q => k3' (w11.symm.trans q.1)), R_levelOf (show 8 * t + i < 768 by omega), e8, w9, k3', i_t (show 8 * t + i < 768 by omega) (by decide), i_c (show 8 * t + i < 2 ^ 31 by omega)]; try rfl) (by simp only [e_148_0, e_148_68, kR1, kR2, kR3, kR4, kR5, kR6, kR7, kR8, kR9, kR10, kR11, kR12, kR13, kR14, kR15, kR16, kR17, kR18, kR19, kR20, kR21, kR22, kR23, kR24, kR25, kR26, kR27, kR28, kR29, kR30, lR1, lR2, lR3, lR4, lR5, lR6, lR7, lR8, lR9, lR10, lR11, lR12, lR13, lR14, lR15, lR16, lR17, lR18, lR19, lR20, lR21, lR22, lR23, lR24, lR25, lR26, lR27, lR28, lR29, lR30, rR5, rR6, rR7, rR8, rR9, rR10, rR11, rR12, rR13, rR14, rR15, rR16, rR17, rR18, rR19, rR20, rR21, rR22, rR23, rR24, rR25, rR26, rR27, rR28, rR29, rR30, R_i, R_si, R_rec, if_true, if_false, true_and, and_true, true_or, or_true, List.length_nil, List.length_cons, Nat.zero_le, c_I, c_R, c_V, R_no, R_refuse, R_fault, f_s_row, f4c, f4k, f4n, ne_eq, not_false_eq_true, not_true_eq_false, Nat.reduceEqDiff, reduceCtorEq, Nat.succ_ne_zero, Nat.reduceAdd, ar_0, z10, z20, z30, z40, z50, z01, zm0, zm1, C_at1 hB hN ho, R_isG1 hn ho (by omega), G_ne, C_at1 hB hN hd, R_isG1 hn hd (by omega), C_at1 hB hN hs, R_isG1 hn hs (by omega), C_isProt1 hP, R_isSafe1 hP, rc3 k2, C_own1 h ho o2, ρ_ne h ho o2, R_is (show o < 96 by omega), R_is (show d < 96 by omega), R_is (show s < 96 by omega), o2, d5, s5, g2, z2, b2, zs, d1, d4, hw, i_t (show o < 96 by omega) (by decide), i_c (show o < 2 ^ 31 by omega), rc4 d1, l1, l3, rc2 w10, C_free0 w10 (fun q => k3' (w11.symm.trans q.1)), R_levelOf (show 8 * t + i < 768 by omega), e8, w9, k3', i_t (show 8 * t + i < 768 by omega) (by decide), i_c (show 8 * t + i < 2 ^ 31 by omega)]; try rfl) (U_status h 5) rfl rfl
  subst k3
  rw [show spn 3 = 1 from rfl] at w7 w8
  have eP : bs f t + i = P := by omega
  by_cases c0 : f 14 (8 * t + i) = 0
  case neg =>
    rw [if_neg c0] at w14
    exact OK2.of (v := 0) (by simp only [e_47_0, e_47_21, e_47_37, e_47_59, c_I, c_R, c_V, if_true, if_false, true_and, and_true, true_or, or_true, List.length_nil, List.length_cons, Nat.zero_le, k_si, l_si, r_si, k_sr, l_sr, i_sr, n_si, ar_si, ar_sr, ar_0, rc7 s1, s1, C_no, C_none, C_yes, C_done, C_bit0, C_bit1, C_fault, z10, z20, z30, z40, z50, z01, zm0, zm1, C_at1 hB hN ho, R_isG1 hn ho (by omega), G_ne, C_at1 hB hN hd, R_isG1 hn hd (by omega), C_at1 hB hN hs, R_isG1 hn hs (by omega), C_isProt1 hP, R_isSafe1 hP, rc3 k2, C_own1 h ho o2, ρ_ne h ho o2, R_is (show o < 96 by omega), R_is (show d < 96 by omega), R_is (show s < 96 by omega), o2, d5, s5, g2, z2, b2, zs, d1, d4, hw, i_t (show o < 96 by omega) (by decide), i_c (show o < 2 ^ 31 by omega), rc4 d1, l1, l3, rc2 w10, C_free0 w10 (fun q => G_ne _ (w14.symm.trans q.2)), R_levelOf (show 8 * t + i < 768 by omega), e8, w9, show nI 3 = (3 : Int32) from rfl, c0, i_t (show 8 * t + i < 768 by omega) (by decide), i_c (show 8 * t + i < 2 ^ 31 by omega)]; try rfl) (by simp only [e_148_0, e_148_68, kR1, kR2, kR3, kR4, kR5, kR6, kR7, kR8, kR9, kR10, kR11, kR12, kR13, kR14, kR15, kR16, kR17, kR18, kR19, kR20, kR21, kR22, kR23, kR24, kR25, kR26, kR27, kR28, kR29, kR30, lR1, lR2, lR3, lR4, lR5, lR6, lR7, lR8, lR9, lR10, lR11, lR12, lR13, lR14, lR15, lR16, lR17, lR18, lR19, lR20, lR21, lR22, lR23, lR24, lR25, lR26, lR27, lR28, lR29, lR30, rR5, rR6, rR7, rR8, rR9, rR10, rR11, rR12, rR13, rR14, rR15, rR16, rR17, rR18, rR19, rR20, rR21, rR22, rR23, rR24, rR25, rR26, rR27, rR28, rR29, rR30, R_i, R_si, R_rec, if_true, if_false, true_and, and_true, true_or, or_true, List.length_nil, List.length_cons, Nat.zero_le, c_I, c_R, c_V, R_no, R_refuse, R_fault, f_s_row, f4c, f4k, f4n, ne_eq, not_false_eq_true, not_true_eq_false, Nat.reduceEqDiff, reduceCtorEq, Nat.succ_ne_zero, Nat.reduceAdd, ar_0, z10, z20, z30, z40, z50, z01, zm0, zm1, C_at1 hB hN ho, R_isG1 hn ho (by omega), G_ne, C_at1 hB hN hd, R_isG1 hn hd (by omega), C_at1 hB hN hs, R_isG1 hn hs (by omega), C_isProt1 hP, R_isSafe1 hP, rc3 k2, C_own1 h ho o2, ρ_ne h ho o2, R_is (show o < 96 by omega), R_is (show d < 96 by omega), R_is (show s < 96 by omega), o2, d5, s5, g2, z2, b2, zs, d1, d4, hw, i_t (show o < 96 by omega) (by decide), i_c (show o < 2 ^ 31 by omega), rc4 d1, l1, l3, rc2 w10, C_free0 w10 (fun q => G_ne _ (w14.symm.trans q.2)), R_levelOf (show 8 * t + i < 768 by omega), e8, w9, show nI 3 = (3 : Int32) from rfl, c0, i_t (show 8 * t + i < 768 by omega) (by decide), i_c (show 8 * t + i < 2 ^ 31 by omega)]; try rfl) (U_status h 5) rfl rfl
  rw [if_pos c0] at w14
  by_cases r1 : f 16 (8 * t + i) = 1
  case neg => exact OK2.of (v := 0) (by simp only [e_47_0, e_47_21, e_47_37, e_47_59, c_I, c_R, c_V, if_true, if_false, true_and, and_true, true_or, or_true, List.length_nil, List.length_cons, Nat.zero_le, k_si, l_si, r_si, k_sr, l_sr, i_sr, n_si, ar_si, ar_sr, ar_0, rc7 s1, s1, C_no, C_none, C_yes, C_done, C_bit0, C_bit1, C_fault, z10, z20, z30, z40, z50, z01, zm0, zm1, C_at1 hB hN ho, R_isG1 hn ho (by omega), G_ne, C_at1 hB hN hd, R_isG1 hn hd (by omega), C_at1 hB hN hs, R_isG1 hn hs (by omega), C_isProt1 hP, R_isSafe1 hP, rc3 k2, C_own1 h ho o2, ρ_ne h ho o2, R_is (show o < 96 by omega), R_is (show d < 96 by omega), R_is (show s < 96 by omega), o2, d5, s5, g2, z2, b2, zs, d1, d4, hw, i_t (show o < 96 by omega) (by decide), i_c (show o < 2 ^ 31 by omega), rc4 d1, l1, l3, rc2 w10, w10, w13, C_free1 w10 w11 w14, R_levelOf (show 8 * t + i < 768 by omega), e8, w9, show nI 3 = (3 : Int32) from rfl, c0, r1, i_t (show 8 * t + i < 768 by omega) (by decide), i_c (show 8 * t + i < 2 ^ 31 by omega)]; try rfl) (by simp only [e_148_0, e_148_68, kR1, kR2, kR3, kR4, kR5, kR6, kR7, kR8, kR9, kR10, kR11, kR12, kR13, kR14, kR15, kR16, kR17, kR18, kR19, kR20, kR21, kR22, kR23, kR24, kR25, kR26, kR27, kR28, kR29, kR30, lR1, lR2, lR3, lR4, lR5, lR6, lR7, lR8, lR9, lR10, lR11, lR12, lR13, lR14, lR15, lR16, lR17, lR18, lR19, lR20, lR21, lR22, lR23, lR24, lR25, lR26, lR27, lR28, lR29, lR30, rR5, rR6, rR7, rR8, rR9, rR10, rR11, rR12, rR13, rR14, rR15, rR16, rR17, rR18, rR19, rR20, rR21, rR22, rR23, rR24, rR25, rR26, rR27, rR28, rR29, rR30, R_i, R_si, R_rec, if_true, if_false, true_and, and_true, true_or, or_true, List.length_nil, List.length_cons, Nat.zero_le, c_I, c_R, c_V, R_no, R_refuse, R_fault, f_s_row, f4c, f4k, f4n, ne_eq, not_false_eq_true, not_true_eq_false, Nat.reduceEqDiff, reduceCtorEq, Nat.succ_ne_zero, Nat.reduceAdd, ar_0, z10, z20, z30, z40, z50, z01, zm0, zm1, C_at1 hB hN ho, R_isG1 hn ho (by omega), G_ne, C_at1 hB hN hd, R_isG1 hn hd (by omega), C_at1 hB hN hs, R_isG1 hn hs (by omega), C_isProt1 hP, R_isSafe1 hP, rc3 k2, C_own1 h ho o2, ρ_ne h ho o2, R_is (show o < 96 by omega), R_is (show d < 96 by omega), R_is (show s < 96 by omega), o2, d5, s5, g2, z2, b2, zs, d1, d4, hw, i_t (show o < 96 by omega) (by decide), i_c (show o < 2 ^ 31 by omega), rc4 d1, l1, l3, rc2 w10, w10, w13, C_free1 w10 w11 w14, R_levelOf (show 8 * t + i < 768 by omega), e8, w9, show nI 3 = (3 : Int32) from rfl, c0, r1, i_t (show 8 * t + i < 768 by omega) (by decide), i_c (show 8 * t + i < 2 ^ 31 by omega)]; try rfl) (U_status h 5) rfl rfl
  have sd : s ≠ d := fun q => by rw [q, d5] at s5; exact absurd s5 (by decide)
  have h1 := W_give h hd d5 ho o2 w1 w2 w3 w6 w4 c0 (by omega)
  rw [eP] at h1
  have bo := (at_d h ho o2).1
  have cgv := C_give g2 g3 g4 g5 d1 w10
  have hkv : h_k (gvd M d (ρ o) (τ t + 2 + i)) = h_k M := rfl
  have hlv : h_l (gvd M d (ρ o) (τ t + 2 + i)) = h_l M := rfl
  have hnv : h_n (gvd M d (ρ o) (τ t + 2 + i)) = h_n M := rfl
  have hvv : h_v (gvd M d (ρ o) (τ t + 2 + i)) = h_v M := rfl
  have g3v := (h1.1.2.2.2.2.1 d hd).2.2.1
  have b3v := (h1.1.2.2.2.2.1 s hs).2.2.1
  generalize gvd M d (ρ o) (τ t + 2 + i) = N1 at h1 cgv hkv hlv hnv hvv g3v b3v
  have h2 := U_words h1 hd (hi := 0 + 32) (by decide) (lo := 0) (fun j => h_i N1 (Wd s) (0 + (j - 0))) (fun j => f_s (f_s (f_s (f_b f d 5 (nI o)) 27 d (nI P)) 14 (8 * t + i) 1) 15 (8 * t + i) (nI d) 6 (32 * s + (j - 32 * d))) (fun k' _ hk' j hj => by
    subst hj
    show h_i N1 (Wd s) (0 + (k' - 0)) = _
    rw [Nat.zero_add, Nat.sub_zero, (h1.2.2.2.2.2.1 s hs).2.2.1 k' (by omega), show 32 * d + k' - 32 * d = k' by omega])
  rw [Nat.add_zero, show 32 * d + (0 + 32) = 32 * d + 32 by omega] at h2
  have eF : f_s (f_s (f_r (f_s (f_b f d 5 (nI o)) 27 d (nI P)) 6 (32 * d) (32 * d + 32) (fun j => f_s (f_b f d 5 (nI o)) 27 d (nI P) 6 (32 * s + (j - 32 * d)))) 14 (8 * t + i) 1) 15 (8 * t + i) (nI d) = f_r (f_s (f_s (f_s (f_b f d 5 (nI o)) 27 d (nI P)) 14 (8 * t + i) 1) 15 (8 * t + i) (nI d)) 6 (32 * d) (32 * d + 32) (fun j => f_s (f_s (f_s (f_b f d 5 (nI o)) 27 d (nI P)) 14 (8 * t + i) 1) 15 (8 * t + i) (nI d) 6 (32 * s + (j - 32 * d))) := by
    rw [f_rc (by decide), f_rc (by decide), f_s_row (show 6 ≠ 15 by decide), f_s_row (show 6 ≠ 14 by decide)]
  have o2' : f_r (f_s (f_s (f_s (f_b f d 5 (nI o)) 27 d (nI P)) 14 (8 * t + i) 1) 15 (8 * t + i) (nI d)) 6 (32 * d) (32 * d + 32) (fun j => f_s (f_s (f_s (f_b f d 5 (nI o)) 27 d (nI P)) 14 (8 * t + i) 1) 15 (8 * t + i) (nI d) 6 (32 * s + (j - 32 * d))) 5 o = 2 := by
    have od : o ≠ d := fun q => by rw [q, d5] at o2; exact absurd o2 (by decide)
    rw [f_r_row (by decide), f_s_ne (by omega), f_s_ne (by omega), f_s_ne (by omega), fbn (by omega) (by omega) (by omega)]; exact o2
  have cpe := cp_U N1 (Wd s) 0 (Wd d) 0 32
  generalize f_r (f_s (f_s (f_s (f_b f d 5 (nI o)) 27 d (nI P)) 14 (8 * t + i) 1) 15 (8 * t + i) (nI d)) 6 (32 * d) (32 * d + 32) (fun j => f_s (f_s (f_s (f_b f d 5 (nI o)) 27 d (nI P)) 14 (8 * t + i) 1) 15 (8 * t + i) (nI d) 6 (32 * s + (j - 32 * d))) = F0 at h2 eF o2'
  have hk2 : h_k (mkU N1 (f_r (h_i N1) (Wd d) 0 (0 + 32) (fun j => h_i N1 (Wd s) (0 + (j - 0))))) = h_k M := (U_kf _ _).trans hkv
  have hl2 : h_l (mkU N1 (f_r (h_i N1) (Wd d) 0 (0 + 32) (fun j => h_i N1 (Wd s) (0 + (j - 0))))) = h_l M := (U_lf _ _).trans hlv
  have hn2 : h_n (mkU N1 (f_r (h_i N1) (Wd d) 0 (0 + 32) (fun j => h_i N1 (Wd s) (0 + (j - 0))))) = h_n M := (U_nf _ _).trans hnv
  have hv2 : h_v (mkU N1 (f_r (h_i N1) (Wd d) 0 (0 + 32) (fun j => h_i N1 (Wd s) (0 + (j - 0))))) = h_v M := (U_vf _ _).trans hvv
  generalize mkU N1 (f_r (h_i N1) (Wd d) 0 (0 + 32) (fun j => h_i N1 (Wd s) (0 + (j - 0)))) = N at h2 cpe hk2 hl2 hn2 hv2
  -- the class's digests
  have hB2 := h2.1
  have hD := h2.1.1
  have s1' := hB2.2.1.1
  have s2' := hB2.2.1.2.2.1
  have s3' := hB2.2.1.2.2.2
  obtain ⟨y1, y2, y3, y4, y5⟩ := hB2.2.2.2.2.1 d hd
  have a1 := at_d h2 ho o2'
  have hX := (h2.2.1 (ρ o)).1 a1.2
  obtain ⟨x1, x2, x3, x4, x5, x6⟩ := id hX
  obtain ⟨q1, q2, q3⟩ := x6 0 (by decide)
  obtain ⟨M1, e1, D1⟩ := dS_start hD
  obtain ⟨M2, e2, D2⟩ := dS_row hD D1 (n := 32) (a := Wd d) (by simp) y4 (by omega) (by omega) (by unfold Wd; omega) (by unfold Wd; omega)
  rw [List.nil_append] at D2
  obtain ⟨c, e3, c1, c2, c3⟩ := dS_fin hD D2 (a := 9) (o := 0) (n := 8) (by simp [rowL_len]) hB2.2.2.1.1 (by omega) (by omega) (by rw [hB2.2.2.1.2]; decide) (by rw [hB2.2.2.1.2]; decide) h2.2.2.1.1 h2.2.2.1.2
  have h3 := Rel_c (c := c) h2 (fun a k' hsc => c3 a k' (fun q => hsc (Or.inl (by omega))) (fun q => hsc (Or.inl (by omega))))
  have hD3 := h3.1.1
  have q2' : h_k (mkU N c) (ρ o + 2 + 0) = 9 := by rw [U_kf]; exact q2
  have q3' : h_l (mkU N c) (ρ o + 2 + 0) = 8 := by rw [U_lf]; exact q3
  obtain ⟨M4, e4, D4⟩ := dS_with (M := mkU N c) hD3 q2' q3' (by omega) (by omega)
  obtain ⟨M5, e5, D5⟩ := dS_take hD3 D4 (by simp [rowL_len]) 2
  obtain ⟨M6, e6, D6⟩ := dS_take hD3 D5 (by simp [rowL_len]) (nI P)
  obtain ⟨M7, e7, D7⟩ := dS_row hD3 D6 (n := 8) (a := 9) (by simp [rowL_len]) h3.1.2.2.1.1 (by rw [h3.1.2.2.1.2]; decide) (by rw [h3.1.2.2.1.2]; decide) (by decide) (by decide)
  obtain ⟨c', e9, c4, c5, c6⟩ := dS_fin hD3 D7 (a := ρ o + 2 + 0) (o := 0) (n := 8) (by simp [rowL_len]) q2' (by omega) (by omega) (by omega) (by omega) h3.2.2.1.1 h3.2.2.1.2
  rw [show nI 32 = 32 from rfl] at e2
  rw [show nI 8 = 8 from rfl, show nI 0 = 0 from rfl] at e3
  rw [show nI 8 = 8 from rfl] at e7
  rw [show nI 8 = 8 from rfl, show nI 0 = 0 from rfl, Nat.add_zero] at e9
  rw [Nat.add_zero] at e4
  -- the reference's
  have n31 := h2.2.2.2.1.2.2.2.1
  have hK3 := h2.2.2.2.1.2.2.2.2.1
  obtain ⟨F1, p1, S1⟩ := R_dw (f0 := F0) (d := d) (by omega) (nI o) (nI P) 32 0 F0 [] rfl (by simp) (rS_nil n31)
  rw [List.nil_append] at S1
  obtain ⟨F2, p2, m1, m2, m3⟩ := rS_dig S1 (by simp [rowL_len]) hK3
  have h4 := Rel_f h3 m1 m3
  obtain ⟨F3, p3, S3⟩ := rS_sayM (rS_nil m1) (rd := o) (m := 0) (by simp) (by omega) (by decide)
  obtain ⟨F4, p4, S4⟩ := rS_say S3 (by simp [rowL_len]) 2
  obtain ⟨F5, p5, S5⟩ := rS_say S4 (by simp [rowL_len]) (nI P)
  obtain ⟨F6, p6, S6⟩ := R_dh (f0 := F2) (nI o) (nI P) (nI d) 8 0 F5 _ rfl (by simp [rowL_len]) S5
  have o2'' : F2 5 o = 2 := by rw [m3 5 o (by decide) (by decide) (by decide) (by omega)]; exact o2'
  obtain ⟨F7, p7, m4, m5⟩ := rS_keep S6 (rd := o) (m := 0) (by simp [rowL_len]) (by omega) (by decide) (fun j hj => by rw [m3 3 j (by decide) (by decide) (by decide) (by omega)]; exact hK3 j hj)
  rw [show nI 0 = 0 from rfl] at p1 p3 p6 p7
  have wlA : rowL (h_i N (Wd d)) 32 = rowL (fun j => F0 6 (32 * d + (0 + j))) 32 := rowL_congr (fun k' hk' => by rw [Nat.zero_add]; exact (h2.2.2.2.2.2.1 d hd).2.2.1 k' hk')
  have wlB : rowL (h_i (mkU N c) 9) 8 = rowL (fun j => F2 28 (0 + j)) 8 := rowL_congr (fun k' hk' => by
    rw [Nat.zero_add, m2 k' hk', U_i]
    have := c1 k' hk'
    rw [Nat.zero_add] at this
    rw [this, wlA])
  have wlC : rowL (h_i (mkU N c) (ρ o + 2 + 0)) 8 = rowL (fun k => F2 11 (40 * o + 8 * 0 + k)) 8 := rowL_congr (fun k' hk' => (h4.2.2.2.2.2.2.1 o ho o2'').2.2.2.2.2.2.2.2.2 0 k' (by decide) hk')
  rw [List.nil_append, ← wlC, ← wlB] at m5
  have h9 := meas_ h4 ho o2'' (by decide) c4 c5 c6 m4 m5
  have h10 := W_status h9 0
  obtain ⟨j1, j1l, j1r⟩ := dS_s D1
  obtain ⟨j2, j2l, j2r⟩ := dS_s D2
  obtain ⟨j4, j4l, j4r⟩ := dS_s D4
  obtain ⟨j5, j5l, j5r⟩ := dS_s D5
  obtain ⟨j6, j6l, j6r⟩ := dS_s D6
  obtain ⟨j7, j7l, j7r⟩ := dS_s D7
  have kU : h_k (mkU N c) = h_k N := U_kf _ _
  have rU : h_r (mkU N c) = h_r N := U_rf _ _
  rw [kU] at j4 j5 j6 j7
  rw [rU] at j4r j5r j6r j7r
  have a1' : h_k (mkU N c) (ρ o) = 4 := by rw [U_kf]; exact a1.2
  have hX3 := (h3.2.1 (ρ o)).1 a1'
  have sU : h_k (mkU (mkU N c) c') 4 = 7 := by rw [U_kf, U_kf]; exact s1'
  have k51 : h_k (mkU N c) 5 = 1 := by rw [U_kf]; exact hD.1
  have l0 : ((0 : Int32) < 0) = False := eq_false (by decide)
  have l32 : ((32 : Int32) < 0) = False := eq_false (by decide)
  have cq1 : h_k N1 (Wd s) = 9 := by rw [hkv]; exact b4
  have cq2 : h_k N1 (Wd d) = 9 := by rw [hkv]; exact g4
  have cq3 : h_l N1 (Wd s) = 32 := by rw [hlv]; exact b5
  have cq4 : h_l N1 (Wd d) = 32 := by rw [hlv]; exact g5
  have kq2 : h_k N1 (G_ d) = 3 := by rw [hkv]; exact g2
  have kq3 : h_k N1 (G_ s) = 3 := by rw [hkv]; exact b2
  have fin : ev 147 31 [some (.inr 4), some (.inl (nI o)), some (.inl (nI P)), some (.inl (nI d)), some (.inl 0)] [] (mkR F5) = some (none, mkR F7) := by
    rw [p6, e_147_31, if_pos (by decide)]
    simp only [kR1, kR2, kR3, kR4, kR5, kR6, kR7, kR8, kR9, kR10, kR11, kR12, kR13, kR14, kR15, kR16, kR17, kR18, kR19, kR20, kR21, kR22, kR23, kR24, kR25, kR26, kR27, kR28, kR29, kR30, lR1, lR2, lR3, lR4, lR5, lR6, lR7, lR8, lR9, lR10, lR11, lR12, lR13, lR14, lR15, lR16, lR17, lR18, lR19, lR20, lR21, lR22, lR23, lR24, lR25, lR26, lR27, lR28, lR29, lR30, rR5, rR6, rR7, rR8, rR9, rR10, rR11, rR12, rR13, rR14, rR15, rR16, rR17, rR18, rR19, rR20, rR21, rR22, rR23, rR24, rR25, rR26, rR27, rR28, rR29, rR30, R_i, R_si, R_rec, if_true, if_false, true_and, and_true, true_or, or_true, List.length_nil, List.length_cons, Nat.zero_le, c_I, c_R, c_V, p7]
  have fin2 : ev 147 0 [some (.inr 4), some (.inl (nI o)), some (.inl (nI P)), some (.inl (nI d)), none] [] (mkR F0) = some (none, mkR F7) := by
    rw [e_147_0, p1, e_147_2, if_pos (by decide)]
    simp only [kR1, kR2, kR3, kR4, kR5, kR6, kR7, kR8, kR9, kR10, kR11, kR12, kR13, kR14, kR15, kR16, kR17, kR18, kR19, kR20, kR21, kR22, kR23, kR24, kR25, kR26, kR27, kR28, kR29, kR30, lR1, lR2, lR3, lR4, lR5, lR6, lR7, lR8, lR9, lR10, lR11, lR12, lR13, lR14, lR15, lR16, lR17, lR18, lR19, lR20, lR21, lR22, lR23, lR24, lR25, lR26, lR27, lR28, lR29, lR30, rR5, rR6, rR7, rR8, rR9, rR10, rR11, rR12, rR13, rR14, rR15, rR16, rR17, rR18, rR19, rR20, rR21, rR22, rR23, rR24, rR25, rR26, rR27, rR28, rR29, rR30, R_i, R_si, R_rec, if_true, if_false, true_and, and_true, true_or, or_true, List.length_nil, List.length_cons, Nat.zero_le, c_I, c_R, c_V, p2, p3, p4, p5, fin]
  have rc := R_dcopy (s := s) (d := d) (by omega) (by omega) sd (nI o) (nI P) (nI (8 * t + i)) 32 0 (f_s (f_b f d 5 (nI o)) 27 d (nI P)) rfl
  rw [show nI 0 = 0 from rfl, Nat.add_zero] at rc
  have rcd : ev 148 84 [some (.inr 4), some (.inl (nI o)), some (.inl (nI d)), some (.inl (nI P)), some (.inl (nI s)), some (.inl (nI (8 * t + i))), some (.inl 0)] [] (mkR (f_s (f_b f d 5 (nI o)) 27 d (nI P))) = some (some (.inl 1), mkR (f_s F7 4 1 0)) := by
    rw [rc, e_148_84, if_pos (by decide)]
    simp only [e_146_0, kR1, kR2, kR3, kR4, kR5, kR6, kR7, kR8, kR9, kR10, kR11, kR12, kR13, kR14, kR15, kR16, kR17, kR18, kR19, kR20, kR21, kR22, kR23, kR24, kR25, kR26, kR27, kR28, kR29, kR30, lR1, lR2, lR3, lR4, lR5, lR6, lR7, lR8, lR9, lR10, lR11, lR12, lR13, lR14, lR15, lR16, lR17, lR18, lR19, lR20, lR21, lR22, lR23, lR24, lR25, lR26, lR27, lR28, lR29, lR30, rR5, rR6, rR7, rR8, rR9, rR10, rR11, rR12, rR13, rR14, rR15, rR16, rR17, rR18, rR19, rR20, rR21, rR22, rR23, rR24, rR25, rR26, rR27, rR28, rR29, rR30, R_i, R_si, R_rec, if_true, if_false, true_and, and_true, true_or, or_true, List.length_nil, List.length_cons, Nat.zero_le, c_I, c_R, c_V, i_t (show 8 * t + i < 768 by omega) (show 768 < 2 ^ 31 by decide), i_c (show 8 * t + i < 2 ^ 31 by omega)]
    rw [eF]
    simp only [kR1, kR2, kR3, kR4, kR5, kR6, kR7, kR8, kR9, kR10, kR11, kR12, kR13, kR14, kR15, kR16, kR17, kR18, kR19, kR20, kR21, kR22, kR23, kR24, kR25, kR26, kR27, kR28, kR29, kR30, lR1, lR2, lR3, lR4, lR5, lR6, lR7, lR8, lR9, lR10, lR11, lR12, lR13, lR14, lR15, lR16, lR17, lR18, lR19, lR20, lR21, lR22, lR23, lR24, lR25, lR26, lR27, lR28, lR29, lR30, rR5, rR6, rR7, rR8, rR9, rR10, rR11, rR12, rR13, rR14, rR15, rR16, rR17, rR18, rR19, rR20, rR21, rR22, rR23, rR24, rR25, rR26, rR27, rR28, rR29, rR30, R_i, R_si, R_rec, if_true, if_false, true_and, and_true, true_or, or_true, List.length_nil, List.length_cons, Nat.zero_le, c_I, c_R, c_V, R_no, R_refuse, R_fault, f_s_row, f4c, f4k, f4n, ne_eq, not_false_eq_true, not_true_eq_false, Nat.reduceEqDiff, reduceCtorEq, Nat.succ_ne_zero, Nat.reduceAdd, ar_0, z10, z20, z30, z40, z50, z01, zm0, zm1, fin2]
  refine OK2.of (v := 1) (M' := h_si (mkU (mkU N c) c') 4 4 0) (f' := f_s F7 4 1 0) ?_ ?_ h10 (by rw [n_si, U_nf, U_nf]; exact hn2) (by rw [v_si, U_vf, U_vf]; exact hv2)
  · simp only [e_47_0, c_I, c_R, c_V, if_true, if_false, true_and, and_true, true_or, or_true, List.length_nil, List.length_cons, Nat.zero_le, k_si, l_si, r_si, k_sr, l_sr, i_sr, n_si, ar_si, ar_sr, ar_0, rc7 s1, s1, C_no, C_none, C_yes, C_done, C_bit0, C_bit1, C_fault, z10, z20, z30, z40, z50, z01, zm0, zm1, C_at1 hB hN ho, C_at1 hB hN hd, C_at1 hB hN hs, G_ne, C_isProt1 hP, rc3 k2, C_own1 h ho o2, ρ_ne h ho o2, g2, z2, d5, b2, zs, s5, d1, d4, hw, rc4 d1, l1, rc2 w10, w10, w13, r1, C_free1 w10 w11 w14, cgv, kq2, kq3, g3v, b3v, cq1, cq2, cq3, cq4, l0, l32, not_false_eq_true, Nat.reduceAdd, Nat.le_refl, Nat.zero_add, and_self, cpe]
    simp only [c_I, c_R, c_V, if_true, if_false, true_and, and_true, true_or, or_true, List.length_nil, List.length_cons, Nat.zero_le, k_si, l_si, r_si, k_sr, l_sr, i_sr, n_si, ar_si, ar_sr, ar_0, s1', s2', s3', rc1 hD.1, e1, j1, j1r, y2, y3, rc1 (show h_k M1 5 = 1 by rw [j1]; exact hD.1), e2, j2, j2r, rc1 (show h_k M2 5 = 1 by rw [j2]; exact hD.1), e3, kU, rU, rc4 a1', C_rim hX3 a1' ⟨rfl, rfl, rfl⟩, rc1 k51, e4, j4, j4r, rc1 (show h_k M4 5 = 1 by rw [j4]; exact hD.1), e5, j5, j5r, rc1 (show h_k M5 5 = 1 by rw [j5]; exact hD.1), e6, j6, j6r, rc1 (show h_k M6 5 = 1 by rw [j6]; exact hD.1), e7, j7, j7r, rc4 (show h_k M7 (ρ o) = 4 by rw [j7]; exact a1.2), C_rim hX3 a1' (dS_s D7), rc1 (show h_k M7 5 = 1 by rw [j7]; exact hD.1), e9, rc7 sU, C_yes sU, show ((1 : Nat) ≤ 8) = True from eq_true (by decide), ln1]
  · simp only [e_148_0, kR1, kR2, kR3, kR4, kR5, kR6, kR7, kR8, kR9, kR10, kR11, kR12, kR13, kR14, kR15, kR16, kR17, kR18, kR19, kR20, kR21, kR22, kR23, kR24, kR25, kR26, kR27, kR28, kR29, kR30, lR1, lR2, lR3, lR4, lR5, lR6, lR7, lR8, lR9, lR10, lR11, lR12, lR13, lR14, lR15, lR16, lR17, lR18, lR19, lR20, lR21, lR22, lR23, lR24, lR25, lR26, lR27, lR28, lR29, lR30, rR5, rR6, rR7, rR8, rR9, rR10, rR11, rR12, rR13, rR14, rR15, rR16, rR17, rR18, rR19, rR20, rR21, rR22, rR23, rR24, rR25, rR26, rR27, rR28, rR29, rR30, R_i, R_si, R_rec, if_true, if_false, true_and, and_true, true_or, or_true, List.length_nil, List.length_cons, Nat.zero_le, c_I, c_R, c_V, R_no, R_refuse, R_fault, f_s_row, f4c, f4k, f4n, ne_eq, not_false_eq_true, not_true_eq_false, Nat.reduceEqDiff, reduceCtorEq, Nat.succ_ne_zero, Nat.reduceAdd, ar_0, z10, z20, z30, z40, z50, z01, zm0, zm1, R_isG1 hn ho (show n < 2 ^ 31 by omega), R_isG1 hn hd (show n < 2 ^ 31 by omega), R_isG1 hn hs (show n < 2 ^ 31 by omega), R_isSafe1 hP, R_is (show o < 96 by omega), R_is (show d < 96 by omega), R_is (show s < 96 by omega), o2, d5, s5, hw, i_t (show o < 96 by omega) (show 96 < 2 ^ 31 by decide), i_c (show o < 2 ^ 31 by omega), i_t (show d < 96 by omega) (show 96 < 2 ^ 31 by decide), i_c (show d < 2 ^ 31 by omega), l3, R_levelOf (show 8 * t + i < 768 by omega), e8, w9, show nI 3 = (3 : Int32) from rfl, c0, r1, R_become (show d < 96 by omega), i_t (show 8 * t + i < 768 by omega) (show 768 < 2 ^ 31 by decide), i_c (show 8 * t + i < 2 ^ 31 by omega), rcd]
end OP
