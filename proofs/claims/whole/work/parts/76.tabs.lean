section OP
variable {n : Nat} {M : mM} {f : Nat → Nat → Int32} {ρ τ κ : Nat → Nat}
theorem bK (M : mM) (g : Nat) (s : Int32) (a : Nat) (m : Int32) : h_k (bcm M g s a m) = h_k M := rfl
theorem bL (M : mM) (g : Nat) (s : Int32) (a : Nat) (m : Int32) : h_l (bcm M g s a m) = h_l M := rfl
theorem mK (N : mM) (g b a A : Nat) (l : Int32) : h_k (mtb N g b a A l) = h_k N := rfl
theorem mN (N : mM) (g b a A : Nat) (l : Int32) : h_n (mtb N g b a A l) = h_n N := rfl
theorem mV_ (N : mM) (g b a A : Nat) (l : Int32) : h_v (mtb N g b a A l) = h_v N := rfl
theorem cK (M : mM) (a : Nat) (r : Int32) : h_k (clr M a r) = h_k M := rfl
theorem cL (M : mM) (a : Nat) (r : Int32) : h_l (clr M a r) = h_l M := rfl
theorem C_un1 {M : mM} {a : Nat} (h2 : h_k M a = 2) (h3 : h_r M a 3 = 0) : ev 11 0 [some (.inr a)] [] M = some (some (.inl 1), M) := by
  simp only [e_11_0, e_11_6, c_I, c_R, c_V, if_true, if_false, true_and, and_true, true_or, or_true, List.length_nil, List.length_cons, Nat.zero_le, k_si, l_si, r_si, k_sr, l_sr, i_sr, n_si, ar_si, ar_sr, ar_0, h2, h3]
theorem C_un0 {M : mM} {a : Nat} (h2 : h_k M a = 2) (h3 : ¬ h_r M a 3 = 0) : ev 11 0 [some (.inr a)] [] M = some (some (.inl 0), M) := by
  simp only [e_11_0, e_11_6, c_I, c_R, c_V, if_true, if_false, true_and, and_true, true_or, or_true, List.length_nil, List.length_cons, Nat.zero_le, k_si, l_si, r_si, k_sr, l_sr, i_sr, n_si, ar_si, ar_sr, ar_0, h2, h3]
theorem C_isUn (h : Rel n M f ρ τ κ) {d : Nat} (hd : d < n) (d4 : f 5 d = 4) : ev 29 0 [some (.inr (τ d)), none, none, none, none] [] M = some (some (.inl (if all_ (fun i => decide (f 14 (8 * d + i) = 0)) 0 8 then 1 else 0)), M) := by
  obtain ⟨z1, z2, z3, z4⟩ := h.2.2.2.2.2.2.2.1 d hd d4
  obtain ⟨x1, x2, x3, x4, x5, x6⟩ := (h.2.1 (τ d)).2.1 z1
  have key : ∀ (m k : Nat) (u : Option mV), k + m = 8 → ev 29 8 [some (.inr (τ d)), some (.inr (τ d + 1)), some (.inl (nI 8)), some (.inl (nI k)), u] [] M = some (some (.inl (if all_ (fun i => decide (f 14 (8 * d + i) = 0)) k m then 1 else 0)), M) := by
    intro m
    induction m with
    | zero =>
      intro k u hk
      rw [show k = 8 by omega, e_29_8, if_pos (by decide)]; rfl
    | succ m ih =>
      intro k u hk
      have c1 := n_l (N := 8) (k := k) (nI 8) rfl (by omega) (by decide)
      have w10 := (x6 k (by omega)).2
      have y4 := (z4 k (by omega)).2.2.2.1
      rw [e_29_8]
      simp only [c_I, c_R, c_V, if_true, if_false, true_and, and_true, true_or, or_true, List.length_nil, List.length_cons, Nat.zero_le, k_si, l_si, r_si, k_sr, l_sr, i_sr, n_si, ar_si, ar_sr, ar_0, c1, x4, x5, i_t (show k < 8 by omega) (show 8 < 2 ^ 31 by decide), i_c (show k < 2 ^ 31 by omega), (x6 k (by omega)).1, rc2 w10, nI_1, all_]
      by_cases c : f 14 (8 * d + k) = 0
      · rw [if_pos c] at y4
        simp only [C_un1 w10 y4, z10, if_false, ih (k + 1) _ (show k + 1 + m = 8 by omega), c, decide_true, Bool.true_and]
      · rw [if_neg c] at y4
        simp only [C_un0 w10 (by rw [y4]; exact G_ne _), if_true, c, decide_false, Bool.false_and, Bool.false_eq_true, if_false]
  rw [e_29_0, if_pos z1, x3, x4, x5, if_pos (by decide)]
  exact key 8 0 none rfl
theorem C_one (h : Rel n M f ρ τ κ) {d : Nat} (hd : d < n) (d4 : f 5 d = 4) : ev 30 0 [some (.inr (τ d)), none, none, none, none] [] M = some (some (.inl (if all_ (fun i => decide (f 16 (8 * d + i) = f 16 (8 * d))) 1 7 then 1 else 0)), M) := by
  obtain ⟨z1, z2, z3, z4⟩ := h.2.2.2.2.2.2.2.1 d hd d4
  obtain ⟨x1, x2, x3, x4, x5, x6⟩ := (h.2.1 (τ d)).2.1 z1
  have y0 := (z4 0 (by decide)).2.2.1
  rw [Nat.add_zero (8 * d)] at y0
  have key : ∀ (m k : Nat) (u : Option mV), k + m = 8 → ev 30 8 [some (.inr (τ d)), some (.inr (τ d + 1)), some (.inl (nI 8)), some (.inl (nI k)), u] [] M = some (some (.inl (if all_ (fun i => decide (f 16 (8 * d + i) = f 16 (8 * d))) k m then 1 else 0)), M) := by
    intro m
    induction m with
    | zero =>
      intro k u hk
      rw [show k = 8 by omega, e_30_8, if_pos (by decide)]; rfl
    | succ m ih =>
      intro k u hk
      have c1 := n_l (N := 8) (k := k) (nI 8) rfl (by omega) (by decide)
      have w10 := (x6 k (by omega)).2
      have y4 := (z4 k (by omega)).2.2.1
      rw [e_30_8]
      simp only [c_I, c_R, c_V, if_true, if_false, true_and, and_true, true_or, or_true, List.length_nil, List.length_cons, Nat.zero_le, k_si, l_si, r_si, k_sr, l_sr, i_sr, n_si, ar_si, ar_sr, ar_0, c1, x3, x4, x5, z1, i_t (show k < 8 by omega) (show 8 < 2 ^ 31 by decide), i_c (show k < 2 ^ 31 by omega), (x6 k (by omega)).1, (x6 0 (by decide)).1, (x6 0 (by decide)).2, il (show (0 : Int32) = nI 0 from rfl) (show 0 < 8 by decide) (by decide), w10, y4, y0, nI_1, all_]
      by_cases c : f 16 (8 * d + k) = f 16 (8 * d)
      · simp only [c, if_true, ih (k + 1) _ (show k + 1 + m = 8 by omega), decide_true, Bool.true_and]
      · simp only [c, if_false, decide_false, Bool.false_and, Bool.false_eq_true]
  rw [e_30_0, if_pos z1, x3, x4, x5, if_pos (by decide)]
  refine (key 8 0 none rfl).trans ?_
  have e : all_ (fun i => decide (f 16 (8 * d + i) = f 16 (8 * d))) 0 8 = all_ (fun i => decide (f 16 (8 * d + i) = f 16 (8 * d))) 1 7 := by
    show (decide (f 16 (8 * d + 0) = f 16 (8 * d)) && all_ _ 1 7) = _
    rw [Nat.add_zero, decide_eq_true rfl, Bool.true_and]
  rw [e]
theorem wk_P (h : Rel n M f ρ τ κ) {o P L t i : Nat} (hw : wk_ n M f τ o P L t i) (hL : L ≤ 2) (hm : P % spn L = 0) : bs f t + i * spn L = P := by
  obtain ⟨w1, w2, w3, w4, w5, w6, w7, w8, -⟩ := hw
  have b := ((h.2.2.2.1.2.2.2.2.2.1.2.1 t w1 w2).2.1.2.1).2.2
  rw [w4] at b
  rcases (show L = 0 ∨ L = 1 ∨ L = 2 by omega) with rfl | rfl | rfl
  · rw [show spn 0 = 512 from rfl] at *; omega
  · rw [show spn 1 = 64 from rfl] at *; omega
  · rw [show spn 2 = 8 from rfl] at *; omega
theorem op_table (h : Rel n M f ρ τ κ) (x y z v : Int32) : OK2 n M (ev 43 0 [some (.inr 4), some (.inl x), some (.inl y), some (.inl z), some (.inl v), none, none, none, none, none] [] M) (ev 140 0 [some (.inr 4), some (.inl x), some (.inl y), some (.inl z), some (.inl v), none, none] [] (mkR f)) := by
  have hB := h.1
  have s1 := h.1.2.1.1
  have hn := h.2.2.2.1.1
  have hN := h.2.2.2.1.2.2.1
  have hnn := h.1.2.2.2.2.2.1
  obtain ⟨u, hu⟩ := C_atE hB hN y
  rcases ix2 x (show n < 2 ^ 31 by omega) with hx | ⟨o, ho, rfl⟩
  · exact OK2.of (v := 0) (by simp only [e_43_0, e_43_16, e_43_29, e_43_49, c_I, c_R, c_V, if_true, if_false, true_and, and_true, true_or, or_true, List.length_nil, List.length_cons, Nat.zero_le, k_si, l_si, r_si, k_sr, l_sr, i_sr, n_si, ar_si, ar_sr, ar_0, rc7 s1, s1, C_no, C_none, C_yes, C_done, C_bit0, C_bit1, C_fault, z10, z20, z30, z40, z50, z01, zm0, zm1, C_at0 hB hx, R_isG0 hn hx, hu]; try rfl) (by simp only [e_140_0, e_140_13, kR1, kR2, kR3, kR4, kR5, kR6, kR7, kR8, kR9, kR10, kR11, kR12, kR13, kR14, kR15, kR16, kR17, kR18, kR19, kR20, kR21, kR22, kR23, kR24, kR25, kR26, kR27, kR28, kR29, kR30, lR1, lR2, lR3, lR4, lR5, lR6, lR7, lR8, lR9, lR10, lR11, lR12, lR13, lR14, lR15, lR16, lR17, lR18, lR19, lR20, lR21, lR22, lR23, lR24, lR25, lR26, lR27, lR28, lR29, lR30, rR5, rR6, rR7, rR8, rR9, rR10, rR11, rR12, rR13, rR14, rR15, rR16, rR17, rR18, rR19, rR20, rR21, rR22, rR23, rR24, rR25, rR26, rR27, rR28, rR29, rR30, R_i, R_si, R_rec, if_true, if_false, true_and, and_true, true_or, or_true, List.length_nil, List.length_cons, Nat.zero_le, c_I, c_R, c_V, R_no, R_refuse, R_fault, f_s_row, f4c, f4k, f4n, ne_eq, not_false_eq_true, not_true_eq_false, Nat.reduceEqDiff, reduceCtorEq, Nat.succ_ne_zero, Nat.reduceAdd, ar_0, z10, z20, z30, z40, z50, z01, zm0, zm1, C_at0 hB hx, R_isG0 hn hx, hu]; try rfl) (U_status h 1) rfl rfl
  have k2 := (hB.2.2.2.2.1 o ho).2.1
  rcases ix2 y (show n < 2 ^ 31 by omega) with hy | ⟨g, hg, rfl⟩
  · exact OK2.of (v := 0) (by simp only [e_43_0, e_43_16, e_43_29, e_43_49, c_I, c_R, c_V, if_true, if_false, true_and, and_true, true_or, or_true, List.length_nil, List.length_cons, Nat.zero_le, k_si, l_si, r_si, k_sr, l_sr, i_sr, n_si, ar_si, ar_sr, ar_0, rc7 s1, s1, C_no, C_none, C_yes, C_done, C_bit0, C_bit1, C_fault, z10, z20, z30, z40, z50, z01, zm0, zm1, C_at1 hB hN ho, R_isG1 hn ho (by omega), G_ne, C_at0 hB hy, R_isG0 hn hy]; try rfl) (by simp only [e_140_0, e_140_13, kR1, kR2, kR3, kR4, kR5, kR6, kR7, kR8, kR9, kR10, kR11, kR12, kR13, kR14, kR15, kR16, kR17, kR18, kR19, kR20, kR21, kR22, kR23, kR24, kR25, kR26, kR27, kR28, kR29, kR30, lR1, lR2, lR3, lR4, lR5, lR6, lR7, lR8, lR9, lR10, lR11, lR12, lR13, lR14, lR15, lR16, lR17, lR18, lR19, lR20, lR21, lR22, lR23, lR24, lR25, lR26, lR27, lR28, lR29, lR30, rR5, rR6, rR7, rR8, rR9, rR10, rR11, rR12, rR13, rR14, rR15, rR16, rR17, rR18, rR19, rR20, rR21, rR22, rR23, rR24, rR25, rR26, rR27, rR28, rR29, rR30, R_i, R_si, R_rec, if_true, if_false, true_and, and_true, true_or, or_true, List.length_nil, List.length_cons, Nat.zero_le, c_I, c_R, c_V, R_no, R_refuse, R_fault, f_s_row, f4c, f4k, f4n, ne_eq, not_false_eq_true, not_true_eq_false, Nat.reduceEqDiff, reduceCtorEq, Nat.succ_ne_zero, Nat.reduceAdd, ar_0, z10, z20, z30, z40, z50, z01, zm0, zm1, C_at1 hB hN ho, R_isG1 hn ho (by omega), G_ne, C_at0 hB hy, R_isG0 hn hy]; try rfl) (U_status h 1) rfl rfl
  clear hu u
  obtain ⟨g1, g2, g3, g4, g5⟩ := hB.2.2.2.2.1 g hg
  have z2 := (h.2.2.2.2.2.1 g hg).2.1
  rcases ixT z v with ⟨t1, t2⟩ | ⟨P, L, hP, hL, rfl, rfl, hm, t1, t2⟩
  · exact OK2.of (v := 0) (by simp only [e_43_0, e_43_16, e_43_29, e_43_49, c_I, c_R, c_V, if_true, if_false, true_and, and_true, true_or, or_true, List.length_nil, List.length_cons, Nat.zero_le, k_si, l_si, r_si, k_sr, l_sr, i_sr, n_si, ar_si, ar_sr, ar_0, rc7 s1, s1, C_no, C_none, C_yes, C_done, C_bit0, C_bit1, C_fault, z10, z20, z30, z40, z50, z01, zm0, zm1, C_at1 hB hN ho, R_isG1 hn ho (by omega), G_ne, C_at1 hB hN hg, R_isG1 hn hg (by omega), t1, t2]; try rfl) (by simp only [e_140_0, e_140_13, kR1, kR2, kR3, kR4, kR5, kR6, kR7, kR8, kR9, kR10, kR11, kR12, kR13, kR14, kR15, kR16, kR17, kR18, kR19, kR20, kR21, kR22, kR23, kR24, kR25, kR26, kR27, kR28, kR29, kR30, lR1, lR2, lR3, lR4, lR5, lR6, lR7, lR8, lR9, lR10, lR11, lR12, lR13, lR14, lR15, lR16, lR17, lR18, lR19, lR20, lR21, lR22, lR23, lR24, lR25, lR26, lR27, lR28, lR29, lR30, rR5, rR6, rR7, rR8, rR9, rR10, rR11, rR12, rR13, rR14, rR15, rR16, rR17, rR18, rR19, rR20, rR21, rR22, rR23, rR24, rR25, rR26, rR27, rR28, rR29, rR30, R_i, R_si, R_rec, if_true, if_false, true_and, and_true, true_or, or_true, List.length_nil, List.length_cons, Nat.zero_le, c_I, c_R, c_V, R_no, R_refuse, R_fault, f_s_row, f4c, f4k, f4n, ne_eq, not_false_eq_true, not_true_eq_false, Nat.reduceEqDiff, reduceCtorEq, Nat.succ_ne_zero, Nat.reduceAdd, ar_0, z10, z20, z30, z40, z50, z01, zm0, zm1, C_at1 hB hN ho, R_isG1 hn ho (by omega), G_ne, C_at1 hB hN hg, R_isG1 hn hg (by omega), t1, t2]; try rfl) (U_status h 1) rfl rfl
  have m1 : nI (L + 1) - 1 = nI L := by rw [show (1 : Int32) = nI 1 from rfl, pk_sub (by omega), Nat.add_sub_cancel]
  by_cases o2 : f 5 o = 2
  case neg => exact OK2.of (v := 0) (by simp only [e_43_0, e_43_16, e_43_29, e_43_49, c_I, c_R, c_V, if_true, if_false, true_and, and_true, true_or, or_true, List.length_nil, List.length_cons, Nat.zero_le, k_si, l_si, r_si, k_sr, l_sr, i_sr, n_si, ar_si, ar_sr, ar_0, rc7 s1, s1, C_no, C_none, C_yes, C_done, C_bit0, C_bit1, C_fault, z10, z20, z30, z40, z50, z01, zm0, zm1, C_at1 hB hN ho, R_isG1 hn ho (by omega), G_ne, C_at1 hB hN hg, R_isG1 hn hg (by omega), t1, t2, rc3 k2, C_own0 h ho o2, R_is (show o < 96 by omega), o2]; try rfl) (by simp only [e_140_0, e_140_27, kR1, kR2, kR3, kR4, kR5, kR6, kR7, kR8, kR9, kR10, kR11, kR12, kR13, kR14, kR15, kR16, kR17, kR18, kR19, kR20, kR21, kR22, kR23, kR24, kR25, kR26, kR27, kR28, kR29, kR30, lR1, lR2, lR3, lR4, lR5, lR6, lR7, lR8, lR9, lR10, lR11, lR12, lR13, lR14, lR15, lR16, lR17, lR18, lR19, lR20, lR21, lR22, lR23, lR24, lR25, lR26, lR27, lR28, lR29, lR30, rR5, rR6, rR7, rR8, rR9, rR10, rR11, rR12, rR13, rR14, rR15, rR16, rR17, rR18, rR19, rR20, rR21, rR22, rR23, rR24, rR25, rR26, rR27, rR28, rR29, rR30, R_i, R_si, R_rec, if_true, if_false, true_and, and_true, true_or, or_true, List.length_nil, List.length_cons, Nat.zero_le, c_I, c_R, c_V, R_no, R_refuse, R_fault, f_s_row, f4c, f4k, f4n, ne_eq, not_false_eq_true, not_true_eq_false, Nat.reduceEqDiff, reduceCtorEq, Nat.succ_ne_zero, Nat.reduceAdd, ar_0, z10, z20, z30, z40, z50, z01, zm0, zm1, C_at1 hB hN ho, R_isG1 hn ho (by omega), G_ne, C_at1 hB hN hg, R_isG1 hn hg (by omega), t1, t2, rc3 k2, C_own0 h ho o2, R_is (show o < 96 by omega), o2]; try rfl) (U_status h 2) rfl rfl
  have d1 := (at_d h ho o2).2
  by_cases f5 : f 5 g = 1
  case neg => exact OK2.of (v := 0) (by simp only [e_43_0, e_43_16, e_43_29, e_43_49, c_I, c_R, c_V, if_true, if_false, true_and, and_true, true_or, or_true, List.length_nil, List.length_cons, Nat.zero_le, k_si, l_si, r_si, k_sr, l_sr, i_sr, n_si, ar_si, ar_sr, ar_0, rc7 s1, s1, C_no, C_none, C_yes, C_done, C_bit0, C_bit1, C_fault, z10, z20, z30, z40, z50, z01, zm0, zm1, C_at1 hB hN ho, R_isG1 hn ho (by omega), G_ne, C_at1 hB hN hg, R_isG1 hn hg (by omega), t1, t2, rc3 k2, C_own1 h ho o2, ρ_ne h ho o2, R_is (show o < 96 by omega), R_is (show g < 96 by omega), o2, f5, g2, z2]; try rfl) (by simp only [e_140_0, e_140_27, kR1, kR2, kR3, kR4, kR5, kR6, kR7, kR8, kR9, kR10, kR11, kR12, kR13, kR14, kR15, kR16, kR17, kR18, kR19, kR20, kR21, kR22, kR23, kR24, kR25, kR26, kR27, kR28, kR29, kR30, lR1, lR2, lR3, lR4, lR5, lR6, lR7, lR8, lR9, lR10, lR11, lR12, lR13, lR14, lR15, lR16, lR17, lR18, lR19, lR20, lR21, lR22, lR23, lR24, lR25, lR26, lR27, lR28, lR29, lR30, rR5, rR6, rR7, rR8, rR9, rR10, rR11, rR12, rR13, rR14, rR15, rR16, rR17, rR18, rR19, rR20, rR21, rR22, rR23, rR24, rR25, rR26, rR27, rR28, rR29, rR30, R_i, R_si, R_rec, if_true, if_false, true_and, and_true, true_or, or_true, List.length_nil, List.length_cons, Nat.zero_le, c_I, c_R, c_V, R_no, R_refuse, R_fault, f_s_row, f4c, f4k, f4n, ne_eq, not_false_eq_true, not_true_eq_false, Nat.reduceEqDiff, reduceCtorEq, Nat.succ_ne_zero, Nat.reduceAdd, ar_0, z10, z20, z30, z40, z50, z01, zm0, zm1, C_at1 hB hN ho, R_isG1 hn ho (by omega), G_ne, C_at1 hB hN hg, R_isG1 hn hg (by omega), t1, t2, rc3 k2, C_own1 h ho o2, ρ_ne h ho o2, R_is (show o < 96 by omega), R_is (show g < 96 by omega), o2, f5, g2, z2]; try rfl) (U_status h 2) rfl rfl
  obtain ⟨k, t, i, hwk, hkL, hk, l1, l3, -⟩ := walk_ h ho o2 hP (show L ≤ 3 by omega)
  by_cases kL : k = L
  case neg =>
    obtain ⟨w1, w2, w3, w4, w5, w6, w7, w8, w9, w10, w11, w12, w13, w14, w15⟩ := hwk
    have e8 : (8 * t + i) / 8 = t := by omega
    have k3' : ¬ nI k = nI L := fun q => kL (nI_inj (by omega) (by omega) q)
    exact OK2.of (v := 0) (by simp only [e_43_0, e_43_16, e_43_29, e_43_49, c_I, c_R, c_V, if_true, if_false, true_and, and_true, true_or, or_true, List.length_nil, List.length_cons, Nat.zero_le, k_si, l_si, r_si, k_sr, l_sr, i_sr, n_si, ar_si, ar_sr, ar_0, rc7 s1, s1, C_no, C_none, C_yes, C_done, C_bit0, C_bit1, C_fault, z10, z20, z30, z40, z50, z01, zm0, zm1, C_at1 hB hN ho, R_isG1 hn ho (by omega), G_ne, C_at1 hB hN hg, R_isG1 hn hg (by omega), t1, t2, rc3 k2, C_own1 h ho o2, ρ_ne h ho o2, R_is (show o < 96 by omega), R_is (show g < 96 by omega), o2, f5, g2, z2, m1, rc4 d1, l1, l3, w10, w11, R_levelOf (show 8 * t + i < 768 by omega), e8, w9, k3']; try rfl) (by simp only [e_140_0, e_140_51, kR1, kR2, kR3, kR4, kR5, kR6, kR7, kR8, kR9, kR10, kR11, kR12, kR13, kR14, kR15, kR16, kR17, kR18, kR19, kR20, kR21, kR22, kR23, kR24, kR25, kR26, kR27, kR28, kR29, kR30, lR1, lR2, lR3, lR4, lR5, lR6, lR7, lR8, lR9, lR10, lR11, lR12, lR13, lR14, lR15, lR16, lR17, lR18, lR19, lR20, lR21, lR22, lR23, lR24, lR25, lR26, lR27, lR28, lR29, lR30, rR5, rR6, rR7, rR8, rR9, rR10, rR11, rR12, rR13, rR14, rR15, rR16, rR17, rR18, rR19, rR20, rR21, rR22, rR23, rR24, rR25, rR26, rR27, rR28, rR29, rR30, R_i, R_si, R_rec, if_true, if_false, true_and, and_true, true_or, or_true, List.length_nil, List.length_cons, Nat.zero_le, c_I, c_R, c_V, R_no, R_refuse, R_fault, f_s_row, f4c, f4k, f4n, ne_eq, not_false_eq_true, not_true_eq_false, Nat.reduceEqDiff, reduceCtorEq, Nat.succ_ne_zero, Nat.reduceAdd, ar_0, z10, z20, z30, z40, z50, z01, zm0, zm1, C_at1 hB hN ho, R_isG1 hn ho (by omega), G_ne, C_at1 hB hN hg, R_isG1 hn hg (by omega), t1, t2, rc3 k2, C_own1 h ho o2, ρ_ne h ho o2, R_is (show o < 96 by omega), R_is (show g < 96 by omega), o2, f5, g2, z2, m1, rc4 d1, l1, l3, w10, w11, R_levelOf (show 8 * t + i < 768 by omega), e8, w9, k3']; try rfl) (U_status h 5) rfl rfl
  subst kL
  have hPe := wk_P h hwk hL hm
  obtain ⟨w1, w2, w3, w4, w5, w6, w7, w8, w9, w10, w11, w12, w13, w14, w15⟩ := hwk
  have e8 : (8 * t + i) / 8 = t := by omega
  by_cases c0 : f 14 (8 * t + i) = 0
  case neg =>
    rw [if_neg c0] at w14
    exact OK2.of (v := 0) (by simp only [e_43_0, e_43_16, e_43_29, e_43_49, c_I, c_R, c_V, if_true, if_false, true_and, and_true, true_or, or_true, List.length_nil, List.length_cons, Nat.zero_le, k_si, l_si, r_si, k_sr, l_sr, i_sr, n_si, ar_si, ar_sr, ar_0, rc7 s1, s1, C_no, C_none, C_yes, C_done, C_bit0, C_bit1, C_fault, z10, z20, z30, z40, z50, z01, zm0, zm1, C_at1 hB hN ho, R_isG1 hn ho (by omega), G_ne, C_at1 hB hN hg, R_isG1 hn hg (by omega), t1, t2, rc3 k2, C_own1 h ho o2, ρ_ne h ho o2, R_is (show o < 96 by omega), R_is (show g < 96 by omega), o2, f5, g2, z2, m1, rc4 d1, l1, l3, w10, w11, rc2 w10, C_un0 w10 (fun q => G_ne _ (w14.symm.trans q)), R_levelOf (show 8 * t + i < 768 by omega), e8, w9, c0, i_t (show 8 * t + i < 768 by omega) (by decide), i_c (show 8 * t + i < 2 ^ 31 by omega)]; try rfl) (by simp only [e_140_0, e_140_51, kR1, kR2, kR3, kR4, kR5, kR6, kR7, kR8, kR9, kR10, kR11, kR12, kR13, kR14, kR15, kR16, kR17, kR18, kR19, kR20, kR21, kR22, kR23, kR24, kR25, kR26, kR27, kR28, kR29, kR30, lR1, lR2, lR3, lR4, lR5, lR6, lR7, lR8, lR9, lR10, lR11, lR12, lR13, lR14, lR15, lR16, lR17, lR18, lR19, lR20, lR21, lR22, lR23, lR24, lR25, lR26, lR27, lR28, lR29, lR30, rR5, rR6, rR7, rR8, rR9, rR10, rR11, rR12, rR13, rR14, rR15, rR16, rR17, rR18, rR19, rR20, rR21, rR22, rR23, rR24, rR25, rR26, rR27, rR28, rR29, rR30, R_i, R_si, R_rec, if_true, if_false, true_and, and_true, true_or, or_true, List.length_nil, List.length_cons, Nat.zero_le, c_I, c_R, c_V, R_no, R_refuse, R_fault, f_s_row, f4c, f4k, f4n, ne_eq, not_false_eq_true, not_true_eq_false, Nat.reduceEqDiff, reduceCtorEq, Nat.succ_ne_zero, Nat.reduceAdd, ar_0, z10, z20, z30, z40, z50, z01, zm0, zm1, C_at1 hB hN ho, R_isG1 hn ho (by omega), G_ne, C_at1 hB hN hg, R_isG1 hn hg (by omega), t1, t2, rc3 k2, C_own1 h ho o2, ρ_ne h ho o2, R_is (show o < 96 by omega), R_is (show g < 96 by omega), o2, f5, g2, z2, m1, rc4 d1, l1, l3, w10, w11, rc2 w10, C_un0 w10 (fun q => G_ne _ (w14.symm.trans q)), R_levelOf (show 8 * t + i < 768 by omega), e8, w9, c0, i_t (show 8 * t + i < 768 by omega) (by decide), i_c (show 8 * t + i < 2 ^ 31 by omega)]; try rfl) (U_status h 5) rfl rfl
  rw [if_pos c0] at w14
  have bo := (at_d h ho o2).1
  have bt := at_t h w1 w2
  have bx := ((h.2.1 (ρ o)).1 d1).2.1
  have btx := ((h.2.1 (τ t)).2.1 bt.2).2.1
  obtain ⟨N, eN, hT⟩ := C_Rtt (M := M) hB.2.2.2.2.2.2.1 (g := G_ g) (L := k + 1) (P := P) (by omega) (r := f 16 (8 * t + i))
  have h1 := W_lay h hg f5 ho o2 w1 w2 w3 w6 w4 hL c0 hP hPe hm hT
  unfold lyt at h1
  obtain ⟨T1, T2, T3, T4, T5, T6, T7, T8, T9, T10, T11⟩ := id hT
  have GA : G_ g ≤ 10 + 2 * n ∧ Wd g ≤ 10 + 2 * n := by unfold G_ Wd; omega
  have N2 : h_k N (G_ g) = 3 := ((T3 _ (by omega)).1).trans g2
  have N3 : h_r N (G_ g) 1 = Wd g := (((T3 _ (by omega)).2.2 1).2).trans g3
  have N4 : h_k N (Wd g) = 9 := ((T3 _ (by omega)).1).trans g4
  have N5 : h_l N (Wd g) = 32 := ((T3 _ (by omega)).2.1).trans g5
  have c18 : ev 18 0 [some (.inr (G_ g)), some (.inr (ρ o)), some (.inr (h_n M + 1))] [] N = some (none, h_sr (bcm N g 4 (ρ o) (nI (k + 1))) (G_ g) 6 (h_n M + 1)) := by
    have kb : h_k (bcm N g 4 (ρ o) (nI (k + 1))) (G_ g) = 3 := by rw [bK]; exact N2
    simp only [e_18_0, c_I, c_R, c_V, if_true, if_false, true_and, and_true, true_or, or_true, List.length_nil, List.length_cons, Nat.zero_le, k_si, l_si, r_si, k_sr, l_sr, i_sr, n_si, ar_si, ar_sr, ar_0, T5, T7, rc3 N2, C_become N2 N3 N4 N5, kb]
  have c14 : ev 14 0 [some (.inr (τ t + 2 + i)), some (.inr (h_n M + 1))] [] (h_sr (bcm N g 4 (ρ o) (nI (k + 1))) (G_ g) 6 (h_n M + 1)) = some (none, mtb N g (ρ o) (τ t + 2 + i) (h_n M + 1) (nI (k + 1))) := by
    have ka : h_k (bcm N g 4 (ρ o) (nI (k + 1))) (h_n M + 1) = 6 := by rw [bK]; exact T5
    have kb : h_k (bcm N g 4 (ρ o) (nI (k + 1))) (τ t + 2 + i) = 2 := by rw [bK]; exact ((T3 _ (by omega)).1).trans w10
    have kr : h_r (h_sr (bcm N g 4 (ρ o) (nI (k + 1))) (G_ g) 6 (h_n M + 1)) (h_n M + 1) 0 = G_ g := by
      rw [Q_sr, r_s_ne (by omega), b_r (by omega)]; exact T6
    simp only [e_14_0, c_I, c_R, c_V, if_true, if_false, true_and, and_true, true_or, or_true, List.length_nil, List.length_cons, Nat.zero_le, k_si, l_si, r_si, k_sr, l_sr, i_sr, n_si, ar_si, ar_sr, ar_0, ka, kb, kr]
    rfl
  have r27 : ∀ as, a_rec (h_al M 6 3) 6 (.inr (h_n M + 1) :: as) = true := fun as => rc6 (show h_k (h_al M 6 3) (h_n M + 1) = 6 from if_pos rfl) as
  have ka : h_k (h_al M 6 3) (τ t + 2 + i) = 2 := by
    show (if τ t + 2 + i = h_n M + 1 then 6 else h_k M (τ t + 2 + i)) = 2
    rw [if_neg (by omega)]; exact w10
  have ia : h_i (h_al M 6 3) (τ t + 2 + i) 2 = f 16 (8 * t + i) := by
    show (if τ t + 2 + i = h_n M + 1 then 0 else h_i M (τ t + 2 + i) 2) = _
    rw [if_neg (by omega)]; exact w13
  have kq : h_k (h_sr (bcm N g 4 (ρ o) (nI (k + 1))) (G_ g) 6 (h_n M + 1)) (τ t + 2 + i) = 2 := by rw [K_sr, bK]; exact ((T3 _ (by omega)).1).trans w10
  have km : h_k (mtb N g (ρ o) (τ t + 2 + i) (h_n M + 1) (nI (k + 1))) (ρ o) = 4 := by rw [mK]; exact ((T3 _ (by omega)).1).trans d1
  have ks : h_k (mtb N g (ρ o) (τ t + 2 + i) (h_n M + 1) (nI (k + 1))) 4 = 7 := by rw [mK]; exact ((T3 4 (by omega)).1).trans s1
  have hnm : h_n (mtb N g (ρ o) (τ t + 2 + i) (h_n M + 1) (nI (k + 1))) = h_n N := mN _ _ _ _ _ _
  have hvm : h_v (mtb N g (ρ o) (τ t + 2 + i) (h_n M + 1) (nI (k + 1))) = h_v N := mV_ _ _ _ _ _ _
  generalize mtb N g (ρ o) (τ t + 2 + i) (h_n M + 1) (nI (k + 1)) = Q at h1 c14 km ks hnm hvm
  have kt : h_k (h_si Q (ρ o) 6 (h_i Q (ρ o) 6 + 1)) 4 = 7 := by rw [K_si]; exact ks
  refine ⟨1, _, _, _, _, _, ?_, ?_, W_status h1 0, ?_, ?_⟩
  · simp only [e_43_0, c_I, c_R, c_V, if_true, if_false, true_and, and_true, true_or, or_true, List.length_nil, List.length_cons, Nat.zero_le, k_si, l_si, r_si, k_sr, l_sr, i_sr, n_si, ar_si, ar_sr, ar_0, rc7 s1, s1, C_no, C_none, C_yes, C_done, C_bit0, C_bit1, C_fault, z10, z20, z30, z40, z50, z01, zm0, zm1, C_at1 hB hN ho, C_at1 hB hN hg, G_ne, t1, rc3 k2, C_own1 h ho o2, ρ_ne h ho o2, g2, z2, f5, m1, rc4 d1, l1, w10, w11, rc2 w10, C_un1 w10 w14, ka, ia, r27, eN, rc3 N2, c18, rc2 kq, c14, km, rc7 ks, rc7 kt, C_yes kt, ln1]
  · simp only [e_140_0, kR1, kR2, kR3, kR4, kR5, kR6, kR7, kR8, kR9, kR10, kR11, kR12, kR13, kR14, kR15, kR16, kR17, kR18, kR19, kR20, kR21, kR22, kR23, kR24, kR25, kR26, kR27, kR28, kR29, kR30, lR1, lR2, lR3, lR4, lR5, lR6, lR7, lR8, lR9, lR10, lR11, lR12, lR13, lR14, lR15, lR16, lR17, lR18, lR19, lR20, lR21, lR22, lR23, lR24, lR25, lR26, lR27, lR28, lR29, lR30, rR5, rR6, rR7, rR8, rR9, rR10, rR11, rR12, rR13, rR14, rR15, rR16, rR17, rR18, rR19, rR20, rR21, rR22, rR23, rR24, rR25, rR26, rR27, rR28, rR29, rR30, R_i, R_si, R_rec, if_true, if_false, true_and, and_true, true_or, or_true, List.length_nil, List.length_cons, Nat.zero_le, c_I, c_R, c_V, R_no, R_refuse, R_fault, f_s_row, f4c, f4k, f4n, ne_eq, not_false_eq_true, not_true_eq_false, Nat.reduceEqDiff, reduceCtorEq, Nat.succ_ne_zero, Nat.reduceAdd, ar_0, z10, z20, z30, z40, z50, z01, zm0, zm1, R_isG1 hn ho (show n < 2 ^ 31 by omega), R_isG1 hn hg (show n < 2 ^ 31 by omega), t2, R_is (show o < 96 by omega), R_is (show g < 96 by omega), o2, f5, m1, l3, R_levelOf (show 8 * t + i < 768 by omega), e8, w9, c0, i_t (show 8 * t + i < 768 by omega) (show 768 < 2 ^ 31 by decide), i_c (show 8 * t + i < 2 ^ 31 by omega), R_lay (show g < 96 by omega)]
  · rw [n_si, n_si]; omega
  · rw [v_si, v_si]; omega
/-- what stands at a place where a table is to be taken away, on both sides -/
theorem tk_ (h : Rel n M f ρ τ κ) (x y z b : Int32) (hb : b = 0 ∨ b = 1) : (∃ s, ev 91 0 [some (.inr 4), some (.inl x), some (.inl y), some (.inl z), some (.inl b), none, none, none, none, none] [] M = some (some (.inl 0), h_si M 4 4 s) ∧ ev 141 0 [some (.inr 4), some (.inl x), some (.inl y), some (.inl z), some (.inl b), none] [] (mkR f) = some (some (.inl (-1)), mkR (f_s f 4 1 s))) ∨
    ∃ o p e d P L, (o < n ∧ f 5 o = 2 ∧ p < n ∧ f 5 p = 4 ∧ f 7 p = nI o ∧ e < 8 ∧ d < n ∧ f 5 d = 4 ∧ f 14 (8 * p + e) = 2 ∧ f 15 (8 * p + e) = nI d ∧ (∀ e', e' < 8 → f 14 (8 * d + e') = 0) ∧ lv f p = L ∧ L ≤ 2 ∧ P < 4096 ∧ bs f p + e * spn L = P ∧ bs f d = P ∧ y = nI P ∧ h_k M (τ p + 2 + e) = 2) ∧ ev 91 0 [some (.inr 4), some (.inl x), some (.inl y), some (.inl z), some (.inl b), none, none, none, none, none] [] M = ev 91 47 [some (.inr 4), some (.inl x), some (.inl y), some (.inl z), some (.inl b), some (.inr (G_ o)), some (.inr (ρ o)), some (.inr (τ p + 2 + e)), some (.inr (τ d)), none] [] M ∧ ev 141 0 [some (.inr 4), some (.inl x), some (.inl y), some (.inl z), some (.inl b), none] [] (mkR f) = some (some (.inl (nI (8 * p + e))), mkR f) := by
  have hB := h.1
  have s1 := h.1.2.1.1
  have hn := h.2.2.2.1.1
  have hN := h.2.2.2.1.2.2.1
  rcases ix2 x (show n < 2 ^ 31 by omega) with hx | ⟨o, ho, rfl⟩
  · exact Or.inl ⟨1, by simp only [e_91_0, e_91_10, c_I, c_R, c_V, if_true, if_false, true_and, and_true, true_or, or_true, List.length_nil, List.length_cons, Nat.zero_le, k_si, l_si, r_si, k_sr, l_sr, i_sr, n_si, ar_si, ar_sr, ar_0, rc7 s1, s1, C_no, C_none, C_yes, C_done, C_bit0, C_bit1, C_fault, z10, z20, z30, z40, z50, z01, zm0, zm1, C_at0 hB hx], by simp only [e_141_0, e_141_9, kR1, kR2, kR3, kR4, kR5, kR6, kR7, kR8, kR9, kR10, kR11, kR12, kR13, kR14, kR15, kR16, kR17, kR18, kR19, kR20, kR21, kR22, kR23, kR24, kR25, kR26, kR27, kR28, kR29, kR30, lR1, lR2, lR3, lR4, lR5, lR6, lR7, lR8, lR9, lR10, lR11, lR12, lR13, lR14, lR15, lR16, lR17, lR18, lR19, lR20, lR21, lR22, lR23, lR24, lR25, lR26, lR27, lR28, lR29, lR30, rR5, rR6, rR7, rR8, rR9, rR10, rR11, rR12, rR13, rR14, rR15, rR16, rR17, rR18, rR19, rR20, rR21, rR22, rR23, rR24, rR25, rR26, rR27, rR28, rR29, rR30, R_i, R_si, R_rec, if_true, if_false, true_and, and_true, true_or, or_true, List.length_nil, List.length_cons, Nat.zero_le, c_I, c_R, c_V, R_no, R_refuse, R_fault, f_s_row, f4c, f4k, f4n, ne_eq, not_false_eq_true, not_true_eq_false, Nat.reduceEqDiff, reduceCtorEq, Nat.succ_ne_zero, Nat.reduceAdd, ar_0, z10, z20, z30, z40, z50, z01, zm0, zm1, R_isG0 hn hx]⟩
  have k2 := (hB.2.2.2.2.1 o ho).2.1
  rcases ixT y z with ⟨t1, t2⟩ | ⟨P, L, hP, hL, rfl, rfl, hm, t1, t2⟩
  · exact Or.inl ⟨1, by simp only [e_91_0, e_91_10, c_I, c_R, c_V, if_true, if_false, true_and, and_true, true_or, or_true, List.length_nil, List.length_cons, Nat.zero_le, k_si, l_si, r_si, k_sr, l_sr, i_sr, n_si, ar_si, ar_sr, ar_0, rc7 s1, s1, C_no, C_none, C_yes, C_done, C_bit0, C_bit1, C_fault, z10, z20, z30, z40, z50, z01, zm0, zm1, C_at1 hB hN ho, G_ne, t1], by simp only [e_141_0, e_141_9, kR1, kR2, kR3, kR4, kR5, kR6, kR7, kR8, kR9, kR10, kR11, kR12, kR13, kR14, kR15, kR16, kR17, kR18, kR19, kR20, kR21, kR22, kR23, kR24, kR25, kR26, kR27, kR28, kR29, kR30, lR1, lR2, lR3, lR4, lR5, lR6, lR7, lR8, lR9, lR10, lR11, lR12, lR13, lR14, lR15, lR16, lR17, lR18, lR19, lR20, lR21, lR22, lR23, lR24, lR25, lR26, lR27, lR28, lR29, lR30, rR5, rR6, rR7, rR8, rR9, rR10, rR11, rR12, rR13, rR14, rR15, rR16, rR17, rR18, rR19, rR20, rR21, rR22, rR23, rR24, rR25, rR26, rR27, rR28, rR29, rR30, R_i, R_si, R_rec, if_true, if_false, true_and, and_true, true_or, or_true, List.length_nil, List.length_cons, Nat.zero_le, c_I, c_R, c_V, R_no, R_refuse, R_fault, f_s_row, f4c, f4k, f4n, ne_eq, not_false_eq_true, not_true_eq_false, Nat.reduceEqDiff, reduceCtorEq, Nat.succ_ne_zero, Nat.reduceAdd, ar_0, z10, z20, z30, z40, z50, z01, zm0, zm1, R_isG1 hn ho (show n < 2 ^ 31 by omega), t2]⟩
  have m1 : nI (L + 1) - 1 = nI L := by rw [show (1 : Int32) = nI 1 from rfl, pk_sub (by omega), Nat.add_sub_cancel]
  by_cases o2 : f 5 o = 2
  case neg => exact Or.inl ⟨2, by simp only [e_91_0, c_I, c_R, c_V, if_true, if_false, true_and, and_true, true_or, or_true, List.length_nil, List.length_cons, Nat.zero_le, k_si, l_si, r_si, k_sr, l_sr, i_sr, n_si, ar_si, ar_sr, ar_0, rc7 s1, s1, C_no, C_none, C_yes, C_done, C_bit0, C_bit1, C_fault, z10, z20, z30, z40, z50, z01, zm0, zm1, C_at1 hB hN ho, G_ne, t1, rc3 k2, C_own0 h ho o2], by simp only [e_141_0, kR1, kR2, kR3, kR4, kR5, kR6, kR7, kR8, kR9, kR10, kR11, kR12, kR13, kR14, kR15, kR16, kR17, kR18, kR19, kR20, kR21, kR22, kR23, kR24, kR25, kR26, kR27, kR28, kR29, kR30, lR1, lR2, lR3, lR4, lR5, lR6, lR7, lR8, lR9, lR10, lR11, lR12, lR13, lR14, lR15, lR16, lR17, lR18, lR19, lR20, lR21, lR22, lR23, lR24, lR25, lR26, lR27, lR28, lR29, lR30, rR5, rR6, rR7, rR8, rR9, rR10, rR11, rR12, rR13, rR14, rR15, rR16, rR17, rR18, rR19, rR20, rR21, rR22, rR23, rR24, rR25, rR26, rR27, rR28, rR29, rR30, R_i, R_si, R_rec, if_true, if_false, true_and, and_true, true_or, or_true, List.length_nil, List.length_cons, Nat.zero_le, c_I, c_R, c_V, R_no, R_refuse, R_fault, f_s_row, f4c, f4k, f4n, ne_eq, not_false_eq_true, not_true_eq_false, Nat.reduceEqDiff, reduceCtorEq, Nat.succ_ne_zero, Nat.reduceAdd, ar_0, z10, z20, z30, z40, z50, z01, zm0, zm1, R_isG1 hn ho (show n < 2 ^ 31 by omega), t2, R_is (show o < 96 by omega), o2]⟩
  have d1 := (at_d h ho o2).2
  obtain ⟨k, t, i, hwk, hkL, hk, l1, l3, -⟩ := walk_ h ho o2 hP (show L ≤ 3 by omega)
  by_cases c2 : f 14 (8 * t + i) = 2
  case neg =>
    obtain ⟨w1, w2, w3, w4, w5, w6, w7, w8, w9, w10, w11, w12, w13, w14, w15⟩ := hwk
    rw [if_neg c2] at w15
    have e8 : (8 * t + i) / 8 = t := by omega
    refine Or.inl ⟨5, by simp only [e_91_0, e_91_43, c_I, c_R, c_V, if_true, if_false, true_and, and_true, true_or, or_true, List.length_nil, List.length_cons, Nat.zero_le, k_si, l_si, r_si, k_sr, l_sr, i_sr, n_si, ar_si, ar_sr, ar_0, rc7 s1, s1, C_no, C_none, C_yes, C_done, C_bit0, C_bit1, C_fault, z10, z20, z30, z40, z50, z01, zm0, zm1, C_at1 hB hN ho, G_ne, t1, rc3 k2, C_own1 h ho o2, ρ_ne h ho o2, m1, rc4 d1, l1, w10, w15], ?_⟩
    by_cases kL : nI k = nI L
    · simp only [e_141_0, e_141_59, kR1, kR2, kR3, kR4, kR5, kR6, kR7, kR8, kR9, kR10, kR11, kR12, kR13, kR14, kR15, kR16, kR17, kR18, kR19, kR20, kR21, kR22, kR23, kR24, kR25, kR26, kR27, kR28, kR29, kR30, lR1, lR2, lR3, lR4, lR5, lR6, lR7, lR8, lR9, lR10, lR11, lR12, lR13, lR14, lR15, lR16, lR17, lR18, lR19, lR20, lR21, lR22, lR23, lR24, lR25, lR26, lR27, lR28, lR29, lR30, rR5, rR6, rR7, rR8, rR9, rR10, rR11, rR12, rR13, rR14, rR15, rR16, rR17, rR18, rR19, rR20, rR21, rR22, rR23, rR24, rR25, rR26, rR27, rR28, rR29, rR30, R_i, R_si, R_rec, if_true, if_false, true_and, and_true, true_or, or_true, List.length_nil, List.length_cons, Nat.zero_le, c_I, c_R, c_V, R_no, R_refuse, R_fault, f_s_row, f4c, f4k, f4n, ne_eq, not_false_eq_true, not_true_eq_false, Nat.reduceEqDiff, reduceCtorEq, Nat.succ_ne_zero, Nat.reduceAdd, ar_0, z10, z20, z30, z40, z50, z01, zm0, zm1, R_isG1 hn ho (show n < 2 ^ 31 by omega), t2, R_is (show o < 96 by omega), o2, m1, l3, R_levelOf (show 8 * t + i < 768 by omega), e8, w9, kL, c2, i_t (show 8 * t + i < 768 by omega) (show 768 < 2 ^ 31 by decide), i_c (show 8 * t + i < 2 ^ 31 by omega)]
    · simp only [e_141_0, e_141_59, kR1, kR2, kR3, kR4, kR5, kR6, kR7, kR8, kR9, kR10, kR11, kR12, kR13, kR14, kR15, kR16, kR17, kR18, kR19, kR20, kR21, kR22, kR23, kR24, kR25, kR26, kR27, kR28, kR29, kR30, lR1, lR2, lR3, lR4, lR5, lR6, lR7, lR8, lR9, lR10, lR11, lR12, lR13, lR14, lR15, lR16, lR17, lR18, lR19, lR20, lR21, lR22, lR23, lR24, lR25, lR26, lR27, lR28, lR29, lR30, rR5, rR6, rR7, rR8, rR9, rR10, rR11, rR12, rR13, rR14, rR15, rR16, rR17, rR18, rR19, rR20, rR21, rR22, rR23, rR24, rR25, rR26, rR27, rR28, rR29, rR30, R_i, R_si, R_rec, if_true, if_false, true_and, and_true, true_or, or_true, List.length_nil, List.length_cons, Nat.zero_le, c_I, c_R, c_V, R_no, R_refuse, R_fault, f_s_row, f4c, f4k, f4n, ne_eq, not_false_eq_true, not_true_eq_false, Nat.reduceEqDiff, reduceCtorEq, Nat.succ_ne_zero, Nat.reduceAdd, ar_0, z10, z20, z30, z40, z50, z01, zm0, zm1, R_isG1 hn ho (show n < 2 ^ 31 by omega), t2, R_is (show o < 96 by omega), o2, m1, l3, R_levelOf (show 8 * t + i < 768 by omega), e8, w9, kL]
  have kL : k = L := hk.resolve_right (fun q => q c2)
  subst kL
  have hPe := wk_P h hwk hL hm
  have hT2 := ((h.2.2.2.1.2.2.2.2.2.1.2.1 t hwk.1 hwk.2.1).2.2 i hwk.2.2.2.2.2.1).1
  obtain ⟨w1, w2, w3, w4, w5, w6, w7, w8, w9, w10, w11, w12, w13, w14, w15⟩ := hwk
  have e8 : (8 * t + i) / 8 = t := by omega
  rw [if_pos c2] at w15
  rcases hT2 with ⟨q, -⟩ | ⟨q, -⟩ | ⟨-, v2, v3, v4, v5, v6, v7, v8, v9⟩
  · rw [c2] at q; exact absurd q (by decide)
  · rw [c2] at q; exact absurd q (by decide)
  rw [w4, hPe] at v8
  generalize tg f (8 * t + i) = d at v3 v4 v5 v6 v7 v8 w15
  have un := C_isUn h v3 v5
  have bare := R_isBare (f := f) (g := d) (by omega)
  have td := at_t h v3 v5
  have t0 := τ_ne h v3 v5
  by_cases hU : all_ (fun i => decide (f 14 (8 * d + i) = 0)) 0 8 = true
  case neg =>
    rw [if_neg hU] at un bare
    exact Or.inl ⟨5, by simp only [e_91_0, e_91_43, c_I, c_R, c_V, if_true, if_false, true_and, and_true, true_or, or_true, List.length_nil, List.length_cons, Nat.zero_le, k_si, l_si, r_si, k_sr, l_sr, i_sr, n_si, ar_si, ar_sr, ar_0, rc7 s1, s1, C_no, C_none, C_yes, C_done, C_bit0, C_bit1, C_fault, z10, z20, z30, z40, z50, z01, zm0, zm1, C_at1 hB hN ho, G_ne, t1, rc3 k2, C_own1 h ho o2, ρ_ne h ho o2, m1, rc4 d1, l1, w10, w15, t0, rc6 td.2, un], by simp only [e_141_0, e_141_59, kR1, kR2, kR3, kR4, kR5, kR6, kR7, kR8, kR9, kR10, kR11, kR12, kR13, kR14, kR15, kR16, kR17, kR18, kR19, kR20, kR21, kR22, kR23, kR24, kR25, kR26, kR27, kR28, kR29, kR30, lR1, lR2, lR3, lR4, lR5, lR6, lR7, lR8, lR9, lR10, lR11, lR12, lR13, lR14, lR15, lR16, lR17, lR18, lR19, lR20, lR21, lR22, lR23, lR24, lR25, lR26, lR27, lR28, lR29, lR30, rR5, rR6, rR7, rR8, rR9, rR10, rR11, rR12, rR13, rR14, rR15, rR16, rR17, rR18, rR19, rR20, rR21, rR22, rR23, rR24, rR25, rR26, rR27, rR28, rR29, rR30, R_i, R_si, R_rec, if_true, if_false, true_and, and_true, true_or, or_true, List.length_nil, List.length_cons, Nat.zero_le, c_I, c_R, c_V, R_no, R_refuse, R_fault, f_s_row, f4c, f4k, f4n, ne_eq, not_false_eq_true, not_true_eq_false, Nat.reduceEqDiff, reduceCtorEq, Nat.succ_ne_zero, Nat.reduceAdd, ar_0, z10, z20, z30, z40, z50, z01, zm0, zm1, R_isG1 hn ho (show n < 2 ^ 31 by omega), t2, R_is (show o < 96 by omega), o2, m1, l3, R_levelOf (show 8 * t + i < 768 by omega), e8, w9, c2, v4, bare, i_t (show 8 * t + i < 768 by omega) (show 768 < 2 ^ 31 by decide), i_c (show 8 * t + i < 2 ^ 31 by omega)]⟩
  rw [if_pos hU] at un bare
  have allU : ∀ e', e' < 8 → f 14 (8 * d + e') = 0 := fun e' he' => of_decide_eq_true ((all_iff _ 8 0).mp hU e' (Nat.zero_le _) (by omega))
  have good : o < n ∧ f 5 o = 2 ∧ t < n ∧ f 5 t = 4 ∧ f 7 t = nI o ∧ i < 8 ∧ d < n ∧ f 5 d = 4 ∧ f 14 (8 * t + i) = 2 ∧ f 15 (8 * t + i) = nI d ∧ (∀ e', e' < 8 → f 14 (8 * d + e') = 0) ∧ lv f t = k ∧ k ≤ 2 ∧ P < 4096 ∧ bs f t + i * spn k = P ∧ bs f d = P ∧ nI P = nI P ∧ h_k M (τ t + 2 + i) = 2 := ⟨ho, o2, w1, w2, w3, w6, v3, v5, c2, v4, allU, w4, hL, hP, hPe, v8, rfl, w10⟩
  rcases hb with rfl | rfl
  · refine Or.inr ⟨o, t, i, d, P, k, good, ?_, ?_⟩
    · simp only [e_91_0, c_I, c_R, c_V, if_true, if_false, true_and, and_true, true_or, or_true, List.length_nil, List.length_cons, Nat.zero_le, k_si, l_si, r_si, k_sr, l_sr, i_sr, n_si, ar_si, ar_sr, ar_0, rc7 s1, s1, C_no, C_none, C_yes, C_done, C_bit0, C_bit1, C_fault, z10, z20, z30, z40, z50, z01, zm0, zm1, C_at1 hB hN ho, G_ne, t1, rc3 k2, C_own1 h ho o2, ρ_ne h ho o2, m1, rc4 d1, l1, w10, w15, t0, rc6 td.2, un]
    · simp only [e_141_0, e_141_63, kR1, kR2, kR3, kR4, kR5, kR6, kR7, kR8, kR9, kR10, kR11, kR12, kR13, kR14, kR15, kR16, kR17, kR18, kR19, kR20, kR21, kR22, kR23, kR24, kR25, kR26, kR27, kR28, kR29, kR30, lR1, lR2, lR3, lR4, lR5, lR6, lR7, lR8, lR9, lR10, lR11, lR12, lR13, lR14, lR15, lR16, lR17, lR18, lR19, lR20, lR21, lR22, lR23, lR24, lR25, lR26, lR27, lR28, lR29, lR30, rR5, rR6, rR7, rR8, rR9, rR10, rR11, rR12, rR13, rR14, rR15, rR16, rR17, rR18, rR19, rR20, rR21, rR22, rR23, rR24, rR25, rR26, rR27, rR28, rR29, rR30, R_i, R_si, R_rec, if_true, if_false, true_and, and_true, true_or, or_true, List.length_nil, List.length_cons, Nat.zero_le, c_I, c_R, c_V, R_no, R_refuse, R_fault, f_s_row, f4c, f4k, f4n, ne_eq, not_false_eq_true, not_true_eq_false, Nat.reduceEqDiff, reduceCtorEq, Nat.succ_ne_zero, Nat.reduceAdd, ar_0, z10, z20, z30, z40, z50, z01, zm0, zm1, R_isG1 hn ho (show n < 2 ^ 31 by omega), t2, R_is (show o < 96 by omega), o2, m1, l3, R_levelOf (show 8 * t + i < 768 by omega), e8, w9, c2, v4, bare, i_t (show 8 * t + i < 768 by omega) (show 768 < 2 ^ 31 by decide), i_c (show 8 * t + i < 2 ^ 31 by omega)]
  · have one := C_one h v3 v5
    have rone := R_isOne (f := f) (g := d) (by omega)
    by_cases hO : all_ (fun i => decide (f 16 (8 * d + i) = f 16 (8 * d))) 1 7 = true
    case neg =>
      rw [if_neg hO] at one rone
      exact Or.inl ⟨5, by simp only [e_91_0, e_91_43, c_I, c_R, c_V, if_true, if_false, true_and, and_true, true_or, or_true, List.length_nil, List.length_cons, Nat.zero_le, k_si, l_si, r_si, k_sr, l_sr, i_sr, n_si, ar_si, ar_sr, ar_0, rc7 s1, s1, C_no, C_none, C_yes, C_done, C_bit0, C_bit1, C_fault, z10, z20, z30, z40, z50, z01, zm0, zm1, C_at1 hB hN ho, G_ne, t1, rc3 k2, C_own1 h ho o2, ρ_ne h ho o2, m1, rc4 d1, l1, w10, w15, t0, rc6 td.2, un, one], by simp only [e_141_0, e_141_59, kR1, kR2, kR3, kR4, kR5, kR6, kR7, kR8, kR9, kR10, kR11, kR12, kR13, kR14, kR15, kR16, kR17, kR18, kR19, kR20, kR21, kR22, kR23, kR24, kR25, kR26, kR27, kR28, kR29, kR30, lR1, lR2, lR3, lR4, lR5, lR6, lR7, lR8, lR9, lR10, lR11, lR12, lR13, lR14, lR15, lR16, lR17, lR18, lR19, lR20, lR21, lR22, lR23, lR24, lR25, lR26, lR27, lR28, lR29, lR30, rR5, rR6, rR7, rR8, rR9, rR10, rR11, rR12, rR13, rR14, rR15, rR16, rR17, rR18, rR19, rR20, rR21, rR22, rR23, rR24, rR25, rR26, rR27, rR28, rR29, rR30, R_i, R_si, R_rec, if_true, if_false, true_and, and_true, true_or, or_true, List.length_nil, List.length_cons, Nat.zero_le, c_I, c_R, c_V, R_no, R_refuse, R_fault, f_s_row, f4c, f4k, f4n, ne_eq, not_false_eq_true, not_true_eq_false, Nat.reduceEqDiff, reduceCtorEq, Nat.succ_ne_zero, Nat.reduceAdd, ar_0, z10, z20, z30, z40, z50, z01, zm0, zm1, R_isG1 hn ho (show n < 2 ^ 31 by omega), t2, R_is (show o < 96 by omega), o2, m1, l3, R_levelOf (show 8 * t + i < 768 by omega), e8, w9, c2, v4, bare, rone, i_t (show 8 * t + i < 768 by omega) (show 768 < 2 ^ 31 by decide), i_c (show 8 * t + i < 2 ^ 31 by omega)]⟩
    rw [if_pos hO] at one rone
    refine Or.inr ⟨o, t, i, d, P, k, good, ?_, ?_⟩
    · simp only [e_91_0, c_I, c_R, c_V, if_true, if_false, true_and, and_true, true_or, or_true, List.length_nil, List.length_cons, Nat.zero_le, k_si, l_si, r_si, k_sr, l_sr, i_sr, n_si, ar_si, ar_sr, ar_0, rc7 s1, s1, C_no, C_none, C_yes, C_done, C_bit0, C_bit1, C_fault, z10, z20, z30, z40, z50, z01, zm0, zm1, C_at1 hB hN ho, G_ne, t1, rc3 k2, C_own1 h ho o2, ρ_ne h ho o2, m1, rc4 d1, l1, w10, w15, t0, rc6 td.2, un, one]
    · simp only [e_141_0, e_141_63, kR1, kR2, kR3, kR4, kR5, kR6, kR7, kR8, kR9, kR10, kR11, kR12, kR13, kR14, kR15, kR16, kR17, kR18, kR19, kR20, kR21, kR22, kR23, kR24, kR25, kR26, kR27, kR28, kR29, kR30, lR1, lR2, lR3, lR4, lR5, lR6, lR7, lR8, lR9, lR10, lR11, lR12, lR13, lR14, lR15, lR16, lR17, lR18, lR19, lR20, lR21, lR22, lR23, lR24, lR25, lR26, lR27, lR28, lR29, lR30, rR5, rR6, rR7, rR8, rR9, rR10, rR11, rR12, rR13, rR14, rR15, rR16, rR17, rR18, rR19, rR20, rR21, rR22, rR23, rR24, rR25, rR26, rR27, rR28, rR29, rR30, R_i, R_si, R_rec, if_true, if_false, true_and, and_true, true_or, or_true, List.length_nil, List.length_cons, Nat.zero_le, c_I, c_R, c_V, R_no, R_refuse, R_fault, f_s_row, f4c, f4k, f4n, ne_eq, not_false_eq_true, not_true_eq_false, Nat.reduceEqDiff, reduceCtorEq, Nat.succ_ne_zero, Nat.reduceAdd, ar_0, z10, z20, z30, z40, z50, z01, zm0, zm1, R_isG1 hn ho (show n < 2 ^ 31 by omega), t2, R_is (show o < 96 by omega), o2, m1, l3, R_levelOf (show 8 * t + i < 768 by omega), e8, w9, c2, v4, bare, rone, i_t (show 8 * t + i < 768 by omega) (show 768 < 2 ^ 31 by decide), i_c (show 8 * t + i < 2 ^ 31 by omega)]
/-- the table is taken away, on both sides -/
theorem tk2 (h : Rel n M f ρ τ κ) {o p e d : Nat} {x y z b s r : Int32} (ho : o < n) (o2 : f 5 o = 2) (hp : p < n) (p4 : f 5 p = 4) (p7 : f 7 p = nI o) (he : e < 8) (hd : d < n) (d5 : f 5 d = 4) (c2 : f 14 (8 * p + e) = 2) (v4 : f 15 (8 * p + e) = nI d) (allU : ∀ e', e' < 8 → f 14 (8 * d + e') = 0) (w10 : h_k M (τ p + 2 + e) = 2) (hr : r = 0 ∨ r = 1 ∨ r = 2) (hb : 2048 ≤ bs f p + e * spn (lv f p) → r = 0) : OK2 n M (ev 91 64 [some (.inr 4), some (.inl x), some (.inl y), some (.inl z), some (.inl b), some (.inr (G_ o)), some (.inr (ρ o)), some (.inr (τ p + 2 + e)), some (.inr (τ d)), some (.inl s)] [.inl r, .inr (τ p + 2 + e)] M) (ev 142 0 [some (.inr 4), some (.inl (nI (8 * p + e))), some (.inl r)] [] (mkR f)) ∧ (∀ v M', ev 91 64 [some (.inr 4), some (.inl x), some (.inl y), some (.inl z), some (.inl b), some (.inr (G_ o)), some (.inr (ρ o)), some (.inr (τ p + 2 + e)), some (.inr (τ d)), some (.inl s)] [.inl r, .inr (τ p + 2 + e)] M = some (some (.inl v), M') → v = 1) := by
  have hB := h.1
  have s1 := h.1.2.1.1
  have hN := h.2.2.2.1.2.2.1
  obtain ⟨g1, g2, g3, g4, g5⟩ := hB.2.2.2.2.1 d hd
  have bt := at_t h hp p4
  have bo := at_d h ho o2
  have bd := at_t h hd d5
  have zt := h.2.2.2.2.2.2.2.1 d hd d5
  have h1 := W_take h (d := d) (o := o) (p := p) (e := e) (c := 6) (w := 4) (r := r) hd ho o2 hp p4 p7 he (Or.inl ⟨rfl, rfl⟩) d5 v4 (Or.inl ⟨rfl, c2, allU⟩) hr hb
  have cb := C_become (M := clr M (τ p + 2 + e) r) (g := d) (by rw [cK]; exact g2) ((clr_r (Or.inl (by unfold G_; omega))).trans g3) (by rw [cK]; exact g4) (by rw [cL]; exact g5) 1 0 (-1)
  have pd : p ≠ d := fun q => by rw [q] at c2; rw [allU e he] at c2; exact absurd c2 (by decide)
  have dj := dj_tt h hp hd p4 d5 pd
  have kd : h_k (clr M (τ p + 2 + e) r) (τ d) = 6 := by rw [cK]; exact bd.2
  have rd : h_r (clr M (τ p + 2 + e) r) (τ d) 0 = G_ d := (clr_r (Or.inl (by omega))).trans zt.2.1
  have kg : h_k (clr M (τ p + 2 + e) r) (G_ d) = 3 := by rw [cK]; exact g2
  have kr : h_k (bcm (clr M (τ p + 2 + e) r) d 1 0 (-1)) (ρ o) = 4 := by rw [bK, cK]; exact bo.2
  have kb : h_k (bcm (clr M (τ p + 2 + e) r) d 1 0 (-1)) 4 = 7 := by rw [bK, cK]; exact s1
  have kq : h_k (h_si (bcm (clr M (τ p + 2 + e) r) d 1 0 (-1)) (ρ o) 6 (h_i (bcm (clr M (τ p + 2 + e) r) d 1 0 (-1)) (ρ o) 6 - 1)) 4 = 7 := by rw [K_si, bK, cK]; exact s1
  have f15 : f 15 (8 * p + e) = nI d := v4
  have ec : ev 91 64 [some (.inr 4), some (.inl x), some (.inl y), some (.inl z), some (.inl b), some (.inr (G_ o)), some (.inr (ρ o)), some (.inr (τ p + 2 + e)), some (.inr (τ d)), some (.inl s)] [.inl r, .inr (τ p + 2 + e)] M = some (some (.inl 1), h_si (h_si (bcm (clr M (τ p + 2 + e) r) d 1 0 (-1)) (ρ o) 6 (h_i (bcm (clr M (τ p + 2 + e) r) d 1 0 (-1)) (ρ o) 6 - 1)) 4 4 0) := by
    simp only [e_91_64, c_I, c_R, c_V, if_true, if_false, true_and, and_true, true_or, or_true, List.length_nil, List.length_cons, Nat.zero_le, k_si, l_si, r_si, k_sr, l_sr, i_sr, n_si, ar_si, ar_sr, ar_0, rc2 w10, C_clear w10, kd, rd, rc3 kg, cb, kr, rc7 kb, rc7 kq, C_yes kq]
  refine ⟨OK2.of (v := 1) ec ?_ (W_status h1 0) rfl rfl, fun v M' q => ?_⟩
  · simp only [e_142_0, kR1, kR2, kR3, kR4, kR5, kR6, kR7, kR8, kR9, kR10, kR11, kR12, kR13, kR14, kR15, kR16, kR17, kR18, kR19, kR20, kR21, kR22, kR23, kR24, kR25, kR26, kR27, kR28, kR29, kR30, lR1, lR2, lR3, lR4, lR5, lR6, lR7, lR8, lR9, lR10, lR11, lR12, lR13, lR14, lR15, lR16, lR17, lR18, lR19, lR20, lR21, lR22, lR23, lR24, lR25, lR26, lR27, lR28, lR29, lR30, rR5, rR6, rR7, rR8, rR9, rR10, rR11, rR12, rR13, rR14, rR15, rR16, rR17, rR18, rR19, rR20, rR21, rR22, rR23, rR24, rR25, rR26, rR27, rR28, rR29, rR30, R_i, R_si, R_rec, if_true, if_false, true_and, and_true, true_or, or_true, List.length_nil, List.length_cons, Nat.zero_le, c_I, c_R, c_V, R_no, R_refuse, R_fault, f_s_row, f4c, f4k, f4n, ne_eq, not_false_eq_true, not_true_eq_false, Nat.reduceEqDiff, reduceCtorEq, Nat.succ_ne_zero, Nat.reduceAdd, ar_0, z10, z20, z30, z40, z50, z01, zm0, zm1, i_t (show 8 * p + e < 768 by omega) (show 768 < 2 ^ 31 by decide), i_c (show 8 * p + e < 2 ^ 31 by omega), f15, R_become (show d < 96 by omega)]
    rw [cf2]
  · rw [ec] at q; simp only [Option.some.injEq, Prod.mk.injEq, Sum.inl.injEq] at q; exact q.1.symm
theorem op_untable (h : Rel n M f ρ τ κ) (x y z : Int32) : OK2 n M (ev 44 0 [some (.inr 4), some (.inl x), some (.inl y), some (.inl z)] [] M) (ev 143 0 [some (.inr 4), some (.inl x), some (.inl y), some (.inl z), none] [] (mkR f)) := by
  have s1 := h.1.2.1.1
  have hN := h.2.2.2.1.2.2.1
  rcases tk_ h x y z 0 (Or.inl rfl) with ⟨s, a1, a2⟩ | ⟨o, p, e, d, P, L, ⟨b1, b2, b3, b4, b5, b6, b7, b8, b9, b10, b11, b12, b13, b14, b15, b16, rfl, b18⟩, a1, a2⟩
  · exact OK2.of (v := 0) (by simp only [e_44_0, c_I, c_R, c_V, if_true, if_false, true_and, and_true, true_or, or_true, List.length_nil, List.length_cons, Nat.zero_le, k_si, l_si, r_si, k_sr, l_sr, i_sr, n_si, ar_si, ar_sr, ar_0, rc7 s1, s1, C_no, C_none, C_yes, C_done, C_bit0, C_bit1, C_fault, z10, z20, z30, z40, z50, z01, zm0, zm1, a1]) (by simp only [e_143_0, e_143_22, e_143_23, kR1, kR2, kR3, kR4, kR5, kR6, kR7, kR8, kR9, kR10, kR11, kR12, kR13, kR14, kR15, kR16, kR17, kR18, kR19, kR20, kR21, kR22, kR23, kR24, kR25, kR26, kR27, kR28, kR29, kR30, lR1, lR2, lR3, lR4, lR5, lR6, lR7, lR8, lR9, lR10, lR11, lR12, lR13, lR14, lR15, lR16, lR17, lR18, lR19, lR20, lR21, lR22, lR23, lR24, lR25, lR26, lR27, lR28, lR29, lR30, rR5, rR6, rR7, rR8, rR9, rR10, rR11, rR12, rR13, rR14, rR15, rR16, rR17, rR18, rR19, rR20, rR21, rR22, rR23, rR24, rR25, rR26, rR27, rR28, rR29, rR30, R_i, R_si, R_rec, if_true, if_false, true_and, and_true, true_or, or_true, List.length_nil, List.length_cons, Nat.zero_le, c_I, c_R, c_V, R_no, R_refuse, R_fault, f_s_row, f4c, f4k, f4n, ne_eq, not_false_eq_true, not_true_eq_false, Nat.reduceEqDiff, reduceCtorEq, Nat.succ_ne_zero, Nat.reduceAdd, ar_0, z10, z20, z30, z40, z50, z01, zm0, zm1, a2]) (W_status h s) rfl rfl
  · have rest : ∀ r : Int32, (r = 0 ∨ r = 1 ∨ r = 2) → (2048 ≤ P → r = 0) → ev 91 47 [some (.inr 4), some (.inl x), some (.inl (nI P)), some (.inl z), some (.inl 0), some (.inr (G_ o)), some (.inr (ρ o)), some (.inr (τ p + 2 + e)), some (.inr (τ d)), none] [] M = ev 91 64 [some (.inr 4), some (.inl x), some (.inl (nI P)), some (.inl z), some (.inl 0), some (.inr (G_ o)), some (.inr (ρ o)), some (.inr (τ p + 2 + e)), some (.inr (τ d)), some (.inl r)] [.inl r, .inr (τ p + 2 + e)] M → ev 143 0 [some (.inr 4), some (.inl x), some (.inl (nI P)), some (.inl z), none] [] (mkR f) = ev 143 18 [some (.inr 4), some (.inl x), some (.inl (nI P)), some (.inl z), some (.inl (nI (8 * p + e)))] [.inl r, .inl (nI (8 * p + e)), .inr 4] (mkR f) → OK2 n M (ev 44 0 [some (.inr 4), some (.inl x), some (.inl (nI P)), some (.inl z)] [] M) (ev 143 0 [some (.inr 4), some (.inl x), some (.inl (nI P)), some (.inl z), none] [] (mkR f)) := fun r hr hr2 c1 c2 => by
      obtain ⟨q1, q2⟩ := tk2 h (x := x) (y := nI P) (z := z) (b := 0) (s := r) (r := r) b1 b2 b3 b4 b5 b6 b7 b8 b9 b10 b11 b18 hr (by rw [b12, b15]; exact hr2)
      rw [c2]
      refine OK2.map q1 (fun v M' q => ?_) (fun v M' q => ?_)
      · have := q2 v M' q
        subst this
        simp only [e_44_0, c_I, c_R, c_V, if_true, if_false, true_and, and_true, true_or, or_true, List.length_nil, List.length_cons, Nat.zero_le, k_si, l_si, r_si, k_sr, l_sr, i_sr, n_si, ar_si, ar_sr, ar_0, rc7 s1, s1, C_no, C_none, C_yes, C_done, C_bit0, C_bit1, C_fault, z10, z20, z30, z40, z50, z01, zm0, zm1, a1, c1, q]
      · have hv : v = 1 := by
          obtain ⟨v', M'', f'', ρ'', τ'', κ'', u1, u2, -⟩ := q1
          rw [u2] at q
          simp only [Option.some.injEq, Prod.mk.injEq, Sum.inl.injEq] at q
          rw [← q.1]; exact q2 _ _ u1
        subst hv
        rw [e_143_18]
        simp only [kR1, kR2, kR3, kR4, kR5, kR6, kR7, kR8, kR9, kR10, kR11, kR12, kR13, kR14, kR15, kR16, kR17, kR18, kR19, kR20, kR21, kR22, kR23, kR24, kR25, kR26, kR27, kR28, kR29, kR30, lR1, lR2, lR3, lR4, lR5, lR6, lR7, lR8, lR9, lR10, lR11, lR12, lR13, lR14, lR15, lR16, lR17, lR18, lR19, lR20, lR21, lR22, lR23, lR24, lR25, lR26, lR27, lR28, lR29, lR30, rR5, rR6, rR7, rR8, rR9, rR10, rR11, rR12, rR13, rR14, rR15, rR16, rR17, rR18, rR19, rR20, rR21, rR22, rR23, rR24, rR25, rR26, rR27, rR28, rR29, rR30, R_i, R_si, R_rec, if_true, if_false, true_and, and_true, true_or, or_true, List.length_nil, List.length_cons, Nat.zero_le, c_I, c_R, c_V, R_no, R_refuse, R_fault, f_s_row, f4c, f4k, f4n, ne_eq, not_false_eq_true, not_true_eq_false, Nat.reduceEqDiff, reduceCtorEq, Nat.succ_ne_zero, Nat.reduceAdd, ar_0, z10, z20, z30, z40, z50, z01, zm0, zm1, q, e_143_23]
    have em : ¬ nI (8 * p + e) = -1 := nI_m1 (by omega)
    rcases Nat.lt_or_ge P 2048 with hP | hP
    · exact rest 2 (by simp) (fun q => by omega) (by simp only [e_91_47, e_91_53, c_I, c_R, c_V, if_true, if_false, true_and, and_true, true_or, or_true, List.length_nil, List.length_cons, Nat.zero_le, k_si, l_si, r_si, k_sr, l_sr, i_sr, n_si, ar_si, ar_sr, ar_0, rc7 s1, s1, C_no, C_none, C_yes, C_done, C_bit0, C_bit1, C_fault, z10, z20, z30, z40, z50, z01, zm0, zm1, C_isProt1 hP]) (by simp only [e_143_0, kR1, kR2, kR3, kR4, kR5, kR6, kR7, kR8, kR9, kR10, kR11, kR12, kR13, kR14, kR15, kR16, kR17, kR18, kR19, kR20, kR21, kR22, kR23, kR24, kR25, kR26, kR27, kR28, kR29, kR30, lR1, lR2, lR3, lR4, lR5, lR6, lR7, lR8, lR9, lR10, lR11, lR12, lR13, lR14, lR15, lR16, lR17, lR18, lR19, lR20, lR21, lR22, lR23, lR24, lR25, lR26, lR27, lR28, lR29, lR30, rR5, rR6, rR7, rR8, rR9, rR10, rR11, rR12, rR13, rR14, rR15, rR16, rR17, rR18, rR19, rR20, rR21, rR22, rR23, rR24, rR25, rR26, rR27, rR28, rR29, rR30, R_i, R_si, R_rec, if_true, if_false, true_and, and_true, true_or, or_true, List.length_nil, List.length_cons, Nat.zero_le, c_I, c_R, c_V, R_no, R_refuse, R_fault, f_s_row, f4c, f4k, f4n, ne_eq, not_false_eq_true, not_true_eq_false, Nat.reduceEqDiff, reduceCtorEq, Nat.succ_ne_zero, Nat.reduceAdd, ar_0, z10, z20, z30, z40, z50, z01, zm0, zm1, a2, em, R_isSafe1 hP, show ((2 : Nat) ≤ 8) = True from eq_true (by decide)])
    · exact rest 0 (by simp) (fun q => rfl) (by simp only [e_91_47, e_91_53, c_I, c_R, c_V, if_true, if_false, true_and, and_true, true_or, or_true, List.length_nil, List.length_cons, Nat.zero_le, k_si, l_si, r_si, k_sr, l_sr, i_sr, n_si, ar_si, ar_sr, ar_0, rc7 s1, s1, C_no, C_none, C_yes, C_done, C_bit0, C_bit1, C_fault, z10, z20, z30, z40, z50, z01, zm0, zm1, C_isProt0 (Or.inr (nI_le (b := P) hP (show P < 2 ^ 31 by omega)))]) (by simp only [e_143_0, kR1, kR2, kR3, kR4, kR5, kR6, kR7, kR8, kR9, kR10, kR11, kR12, kR13, kR14, kR15, kR16, kR17, kR18, kR19, kR20, kR21, kR22, kR23, kR24, kR25, kR26, kR27, kR28, kR29, kR30, lR1, lR2, lR3, lR4, lR5, lR6, lR7, lR8, lR9, lR10, lR11, lR12, lR13, lR14, lR15, lR16, lR17, lR18, lR19, lR20, lR21, lR22, lR23, lR24, lR25, lR26, lR27, lR28, lR29, lR30, rR5, rR6, rR7, rR8, rR9, rR10, rR11, rR12, rR13, rR14, rR15, rR16, rR17, rR18, rR19, rR20, rR21, rR22, rR23, rR24, rR25, rR26, rR27, rR28, rR29, rR30, R_i, R_si, R_rec, if_true, if_false, true_and, and_true, true_or, or_true, List.length_nil, List.length_cons, Nat.zero_le, c_I, c_R, c_V, R_no, R_refuse, R_fault, f_s_row, f4c, f4k, f4n, ne_eq, not_false_eq_true, not_true_eq_false, Nat.reduceEqDiff, reduceCtorEq, Nat.succ_ne_zero, Nat.reduceAdd, ar_0, z10, z20, z30, z40, z50, z01, zm0, zm1, a2, em, R_isSafe0 (Or.inr (nI_le (b := P) hP (show P < 2 ^ 31 by omega))), show ((2 : Nat) ≤ 8) = True from eq_true (by decide)])
theorem op_fold (h : Rel n M f ρ τ κ) (x y z : Int32) : OK2 n M (ev 45 0 [some (.inr 4), some (.inl x), some (.inl y), some (.inl z)] [] M) (ev 144 0 [some (.inr 4), some (.inl x), some (.inl y), some (.inl z), none] [] (mkR f)) := by
  have s1 := h.1.2.1.1
  have hN := h.2.2.2.1.2.2.1
  rcases tk_ h x y z 1 (Or.inr rfl) with ⟨s, a1, a2⟩ | ⟨o, p, e, d, P, L, ⟨b1, b2, b3, b4, b5, b6, b7, b8, b9, b10, b11, b12, b13, b14, b15, b16, rfl, b18⟩, a1, a2⟩
  · exact OK2.of (v := 0) (by simp only [e_45_0, c_I, c_R, c_V, if_true, if_false, true_and, and_true, true_or, or_true, List.length_nil, List.length_cons, Nat.zero_le, k_si, l_si, r_si, k_sr, l_sr, i_sr, n_si, ar_si, ar_sr, ar_0, rc7 s1, s1, C_no, C_none, C_yes, C_done, C_bit0, C_bit1, C_fault, z10, z20, z30, z40, z50, z01, zm0, zm1, a1]) (by simp only [e_144_0, e_144_25, e_144_26, kR1, kR2, kR3, kR4, kR5, kR6, kR7, kR8, kR9, kR10, kR11, kR12, kR13, kR14, kR15, kR16, kR17, kR18, kR19, kR20, kR21, kR22, kR23, kR24, kR25, kR26, kR27, kR28, kR29, kR30, lR1, lR2, lR3, lR4, lR5, lR6, lR7, lR8, lR9, lR10, lR11, lR12, lR13, lR14, lR15, lR16, lR17, lR18, lR19, lR20, lR21, lR22, lR23, lR24, lR25, lR26, lR27, lR28, lR29, lR30, rR5, rR6, rR7, rR8, rR9, rR10, rR11, rR12, rR13, rR14, rR15, rR16, rR17, rR18, rR19, rR20, rR21, rR22, rR23, rR24, rR25, rR26, rR27, rR28, rR29, rR30, R_i, R_si, R_rec, if_true, if_false, true_and, and_true, true_or, or_true, List.length_nil, List.length_cons, Nat.zero_le, c_I, c_R, c_V, R_no, R_refuse, R_fault, f_s_row, f4c, f4k, f4n, ne_eq, not_false_eq_true, not_true_eq_false, Nat.reduceEqDiff, reduceCtorEq, Nat.succ_ne_zero, Nat.reduceAdd, ar_0, z10, z20, z30, z40, z50, z01, zm0, zm1, a2]) (W_status h s) rfl rfl
  · have hrd := ((h.2.2.2.1.2.2.2.2.2.1.2.1 d b7 b8).2.2 0 (by decide)).2
    unfold q_rip at hrd
    rw [b16, Nat.add_zero, Nat.zero_mul, Nat.add_zero] at hrd
    obtain ⟨z1, z2, z3, z4⟩ := h.2.2.2.2.2.2.2.1 d b7 b8
    obtain ⟨x1, x2, x3, x4, x5, x6⟩ := (h.2.1 (τ d)).2.1 z1
    have y0 := (z4 0 (by decide)).2.2.1
    rw [Nat.add_zero (8 * d)] at y0
    have em : ¬ nI (8 * p + e) = -1 := nI_m1 (by omega)
    have c1 : ∃ s, ev 91 47 [some (.inr 4), some (.inl x), some (.inl (nI P)), some (.inl z), some (.inl 1), some (.inr (G_ o)), some (.inr (ρ o)), some (.inr (τ p + 2 + e)), some (.inr (τ d)), none] [] M = ev 91 64 [some (.inr 4), some (.inl x), some (.inl (nI P)), some (.inl z), some (.inl 1), some (.inr (G_ o)), some (.inr (ρ o)), some (.inr (τ p + 2 + e)), some (.inr (τ d)), some (.inl s)] [.inl (f 16 (8 * d)), .inr (τ p + 2 + e)] M := by
      rcases Nat.lt_or_ge P 2048 with hP | hP
      · exact ⟨2, by simp only [e_91_47, e_91_53, c_I, c_R, c_V, if_true, if_false, true_and, and_true, true_or, or_true, List.length_nil, List.length_cons, Nat.zero_le, k_si, l_si, r_si, k_sr, l_sr, i_sr, n_si, ar_si, ar_sr, ar_0, rc7 s1, s1, C_no, C_none, C_yes, C_done, C_bit0, C_bit1, C_fault, z10, z20, z30, z40, z50, z01, zm0, zm1, C_isProt1 hP, z1, x3, x4, x5, il (show (0 : Int32) = nI 0 from rfl) (show 0 < 8 by decide) (by decide), (x6 0 (by decide)).1, (x6 0 (by decide)).2, y0, show (0 : Int32).toNatClampNeg = 0 from rfl]⟩
      · exact ⟨0, by simp only [e_91_47, e_91_53, c_I, c_R, c_V, if_true, if_false, true_and, and_true, true_or, or_true, List.length_nil, List.length_cons, Nat.zero_le, k_si, l_si, r_si, k_sr, l_sr, i_sr, n_si, ar_si, ar_sr, ar_0, rc7 s1, s1, C_no, C_none, C_yes, C_done, C_bit0, C_bit1, C_fault, z10, z20, z30, z40, z50, z01, zm0, zm1, C_isProt0 (Or.inr (nI_le (b := P) hP (show P < 2 ^ 31 by omega))), z1, x3, x4, x5, il (show (0 : Int32) = nI 0 from rfl) (show 0 < 8 by decide) (by decide), (x6 0 (by decide)).1, (x6 0 (by decide)).2, y0, show (0 : Int32).toNatClampNeg = 0 from rfl]⟩
    obtain ⟨s, c1⟩ := c1
    obtain ⟨q1, q2⟩ := tk2 h (x := x) (y := nI P) (z := z) (b := 1) (s := s) (r := f 16 (8 * d)) b1 b2 b3 b4 b5 b6 b7 b8 b9 b10 b11 b18 hrd.1 (by rw [b12, b15]; exact hrd.2)
    refine OK2.map q1 (fun v M' q => ?_) (fun v M' q => ?_)
    · have := q2 v M' q
      subst this
      simp only [e_45_0, c_I, c_R, c_V, if_true, if_false, true_and, and_true, true_or, or_true, List.length_nil, List.length_cons, Nat.zero_le, k_si, l_si, r_si, k_sr, l_sr, i_sr, n_si, ar_si, ar_sr, ar_0, rc7 s1, s1, C_no, C_none, C_yes, C_done, C_bit0, C_bit1, C_fault, z10, z20, z30, z40, z50, z01, zm0, zm1, a1, c1, q]
    · have hv : v = 1 := by
        obtain ⟨v', M'', f'', ρ'', τ'', κ'', u1, u2, -⟩ := q1
        rw [u2] at q
        simp only [Option.some.injEq, Prod.mk.injEq, Sum.inl.injEq] at q
        rw [← q.1]; exact q2 _ _ u1
      subst hv
      simp only [e_144_0, e_144_26, kR1, kR2, kR3, kR4, kR5, kR6, kR7, kR8, kR9, kR10, kR11, kR12, kR13, kR14, kR15, kR16, kR17, kR18, kR19, kR20, kR21, kR22, kR23, kR24, kR25, kR26, kR27, kR28, kR29, kR30, lR1, lR2, lR3, lR4, lR5, lR6, lR7, lR8, lR9, lR10, lR11, lR12, lR13, lR14, lR15, lR16, lR17, lR18, lR19, lR20, lR21, lR22, lR23, lR24, lR25, lR26, lR27, lR28, lR29, lR30, rR5, rR6, rR7, rR8, rR9, rR10, rR11, rR12, rR13, rR14, rR15, rR16, rR17, rR18, rR19, rR20, rR21, rR22, rR23, rR24, rR25, rR26, rR27, rR28, rR29, rR30, R_i, R_si, R_rec, if_true, if_false, true_and, and_true, true_or, or_true, List.length_nil, List.length_cons, Nat.zero_le, c_I, c_R, c_V, R_no, R_refuse, R_fault, f_s_row, f4c, f4k, f4n, ne_eq, not_false_eq_true, not_true_eq_false, Nat.reduceEqDiff, reduceCtorEq, Nat.succ_ne_zero, Nat.reduceAdd, ar_0, z10, z20, z30, z40, z50, z01, zm0, zm1, a2, em, b10, n8', i_t (show 8 * p + e < 768 by omega) (show 768 < 2 ^ 31 by decide), i_c (show 8 * p + e < 2 ^ 31 by omega), i_t (show 8 * d < 768 by omega) (show 768 < 2 ^ 31 by decide), i_c (show 8 * d < 2 ^ 31 by omega), q]
end OP
