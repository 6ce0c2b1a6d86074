section OP
variable {n : Nat} {M : mM} {f : Nat → Nat → Int32} {ρ τ κ : Nat → Nat}
/-- the reference clears the measurements -/
theorem R_clr {o : Nat} (ho : o < 96) (x2 : Int32) : ∀ (m k : Nat) (F : Nat → Nat → Int32), k + m = 40 → ev 132 51 [some (.inr 4), some (.inl (nI o)), some (.inl x2), some (.inl (nI k))] [] (mkR F) = ev 132 51 [some (.inr 4), some (.inl (nI o)), some (.inl x2), some (.inl (nI 40))] [] (mkR (f_r F 11 (40 * o + k) (40 * o + 40) (fun _ => 0))) := by
  intro m
  induction m with
  | zero =>
    intro k F hk
    rw [show k = 40 by omega, f_r0]
  | succ m ih =>
    intro k F hk
    rw [e_132_51]
    simp only [kR1, kR2, kR3, kR4, kR5, kR6, kR7, kR8, kR9, kR10, kR11, kR12, kR13, kR14, kR15, kR16, kR17, kR18, kR19, kR20, kR21, kR22, kR23, kR24, kR25, kR26, kR27, kR28, kR29, kR30, lR1, lR2, lR3, lR4, lR5, lR6, lR7, lR8, lR9, lR10, lR11, lR12, lR13, lR14, lR15, lR16, lR17, lR18, lR19, lR20, lR21, lR22, lR23, lR24, lR25, lR26, lR27, lR28, lR29, lR30, rR5, rR6, rR7, rR8, rR9, rR10, rR11, rR12, rR13, rR14, rR15, rR16, rR17, rR18, rR19, rR20, rR21, rR22, rR23, rR24, rR25, rR26, rR27, rR28, rR29, rR30, R_i, R_si, R_rec, if_true, if_false, true_and, and_true, true_or, or_true, List.length_nil, List.length_cons, Nat.zero_le, c_I, c_R, c_V, n_l (N := 40) (k := k) 40 rfl (by omega) (by decide), n40, nI_1, i_t (show 40 * o + k < 3840 by omega) (by decide), i_c (show 40 * o + k < 2 ^ 31 by omega)]
    rw [ih (k + 1) _ (by omega), ← Nat.add_assoc, f_rs F 11 (40 * o + k) (40 * o + 40) (fun _ => 0) (by omega)]
theorem op_create (h : Rel n M f ρ τ κ) (x y : Int32) : OK2 n M (ev 38 0 [some (.inr 4), some (.inl x), some (.inl y), none, none, none, none] [] M) (ev 132 0 [some (.inr 4), some (.inl x), some (.inl y), none] [] (mkR f)) := by
  have hB := h.1
  have s1 := h.1.2.1.1
  have hn := h.2.2.2.1.1
  have hN := h.2.2.2.1.2.2.1
  have hnn := h.1.2.2.2.2.2.1
  obtain ⟨u, hu⟩ := C_atE hB hN y
  rcases ix2 x (show n < 2 ^ 31 by omega) with hx | ⟨o, ho, rfl⟩
  · exact OK2.of (v := 0) (by simp only [e_38_0, e_38_15, e_38_27, c_I, c_R, c_V, if_true, if_false, true_and, and_true, true_or, or_true, List.length_nil, List.length_cons, Nat.zero_le, k_si, l_si, r_si, k_sr, l_sr, i_sr, n_si, ar_si, ar_sr, ar_0, rc7 s1, s1, C_no, C_none, C_yes, C_done, C_bit0, C_bit1, C_fault, z10, z20, z30, z40, z50, z01, zm0, zm1, C_at0 hB hx, R_isG0 hn hx, hu]; try rfl) (by simp only [e_132_0, e_132_11, kR1, kR2, kR3, kR4, kR5, kR6, kR7, kR8, kR9, kR10, kR11, kR12, kR13, kR14, kR15, kR16, kR17, kR18, kR19, kR20, kR21, kR22, kR23, kR24, kR25, kR26, kR27, kR28, kR29, kR30, lR1, lR2, lR3, lR4, lR5, lR6, lR7, lR8, lR9, lR10, lR11, lR12, lR13, lR14, lR15, lR16, lR17, lR18, lR19, lR20, lR21, lR22, lR23, lR24, lR25, lR26, lR27, lR28, lR29, lR30, rR5, rR6, rR7, rR8, rR9, rR10, rR11, rR12, rR13, rR14, rR15, rR16, rR17, rR18, rR19, rR20, rR21, rR22, rR23, rR24, rR25, rR26, rR27, rR28, rR29, rR30, R_i, R_si, R_rec, if_true, if_false, true_and, and_true, true_or, or_true, List.length_nil, List.length_cons, Nat.zero_le, c_I, c_R, c_V, R_no, R_refuse, R_fault, f_s_row, f4c, f4k, f4n, ne_eq, not_false_eq_true, not_true_eq_false, Nat.reduceEqDiff, reduceCtorEq, Nat.succ_ne_zero, Nat.reduceAdd, ar_0, z10, z20, z30, z40, z50, z01, zm0, zm1, C_at0 hB hx, R_isG0 hn hx, hu]; try rfl) (U_status h 1) rfl rfl
  rcases ix2 y (show n < 2 ^ 31 by omega) with hy | ⟨t, ht, rfl⟩
  · exact OK2.of (v := 0) (by simp only [e_38_0, e_38_15, e_38_27, c_I, c_R, c_V, if_true, if_false, true_and, and_true, true_or, or_true, List.length_nil, List.length_cons, Nat.zero_le, k_si, l_si, r_si, k_sr, l_sr, i_sr, n_si, ar_si, ar_sr, ar_0, rc7 s1, s1, C_no, C_none, C_yes, C_done, C_bit0, C_bit1, C_fault, z10, z20, z30, z40, z50, z01, zm0, zm1, C_at1 hB hN ho, R_isG1 hn ho (by omega), G_ne, C_at0 hB hy, R_isG0 hn hy]; try rfl) (by simp only [e_132_0, e_132_11, kR1, kR2, kR3, kR4, kR5, kR6, kR7, kR8, kR9, kR10, kR11, kR12, kR13, kR14, kR15, kR16, kR17, kR18, kR19, kR20, kR21, kR22, kR23, kR24, kR25, kR26, kR27, kR28, kR29, kR30, lR1, lR2, lR3, lR4, lR5, lR6, lR7, lR8, lR9, lR10, lR11, lR12, lR13, lR14, lR15, lR16, lR17, lR18, lR19, lR20, lR21, lR22, lR23, lR24, lR25, lR26, lR27, lR28, lR29, lR30, rR5, rR6, rR7, rR8, rR9, rR10, rR11, rR12, rR13, rR14, rR15, rR16, rR17, rR18, rR19, rR20, rR21, rR22, rR23, rR24, rR25, rR26, rR27, rR28, rR29, rR30, R_i, R_si, R_rec, if_true, if_false, true_and, and_true, true_or, or_true, List.length_nil, List.length_cons, Nat.zero_le, c_I, c_R, c_V, R_no, R_refuse, R_fault, f_s_row, f4c, f4k, f4n, ne_eq, not_false_eq_true, not_true_eq_false, Nat.reduceEqDiff, reduceCtorEq, Nat.succ_ne_zero, Nat.reduceAdd, ar_0, z10, z20, z30, z40, z50, z01, zm0, zm1, C_at1 hB hN ho, R_isG1 hn ho (by omega), G_ne, C_at0 hB hy, R_isG0 hn hy]; try rfl) (U_status h 1) rfl rfl
  clear hu u
  obtain ⟨g1, g2, g3, g4, g5⟩ := hB.2.2.2.2.1 o ho
  obtain ⟨b1, b2, b3, b4, b5⟩ := hB.2.2.2.2.1 t ht
  have zo := (h.2.2.2.2.2.1 o ho).2.1
  have zt := (h.2.2.2.2.2.1 t ht).2.1
  by_cases ot : o = t
  · subst ot
    exact OK2.of (v := 0) (by simp only [e_38_0, e_38_15, e_38_27, c_I, c_R, c_V, if_true, if_false, true_and, and_true, true_or, or_true, List.length_nil, List.length_cons, Nat.zero_le, k_si, l_si, r_si, k_sr, l_sr, i_sr, n_si, ar_si, ar_sr, ar_0, rc7 s1, s1, C_no, C_none, C_yes, C_done, C_bit0, C_bit1, C_fault, z10, z20, z30, z40, z50, z01, zm0, zm1, C_at1 hB hN ho, R_isG1 hn ho (by omega), G_ne]; try rfl) (by simp only [e_132_0, e_132_11, kR1, kR2, kR3, kR4, kR5, kR6, kR7, kR8, kR9, kR10, kR11, kR12, kR13, kR14, kR15, kR16, kR17, kR18, kR19, kR20, kR21, kR22, kR23, kR24, kR25, kR26, kR27, kR28, kR29, kR30, lR1, lR2, lR3, lR4, lR5, lR6, lR7, lR8, lR9, lR10, lR11, lR12, lR13, lR14, lR15, lR16, lR17, lR18, lR19, lR20, lR21, lR22, lR23, lR24, lR25, lR26, lR27, lR28, lR29, lR30, rR5, rR6, rR7, rR8, rR9, rR10, rR11, rR12, rR13, rR14, rR15, rR16, rR17, rR18, rR19, rR20, rR21, rR22, rR23, rR24, rR25, rR26, rR27, rR28, rR29, rR30, R_i, R_si, R_rec, if_true, if_false, true_and, and_true, true_or, or_true, List.length_nil, List.length_cons, Nat.zero_le, c_I, c_R, c_V, R_no, R_refuse, R_fault, f_s_row, f4c, f4k, f4n, ne_eq, not_false_eq_true, not_true_eq_false, Nat.reduceEqDiff, reduceCtorEq, Nat.succ_ne_zero, Nat.reduceAdd, ar_0, z10, z20, z30, z40, z50, z01, zm0, zm1, C_at1 hB hN ho, R_isG1 hn ho (by omega), G_ne]; try rfl) (U_status h 1) rfl rfl
  have ot' : ¬ nI o = nI t := fun q => ot (nI_inj (by omega) (by omega) q)
  by_cases o5 : f 5 o = 1
  case neg => exact OK2.of (v := 0) (by simp only [e_38_0, e_38_15, e_38_27, c_I, c_R, c_V, if_true, if_false, true_and, and_true, true_or, or_true, List.length_nil, List.length_cons, Nat.zero_le, k_si, l_si, r_si, k_sr, l_sr, i_sr, n_si, ar_si, ar_sr, ar_0, rc7 s1, s1, C_no, C_none, C_yes, C_done, C_bit0, C_bit1, C_fault, z10, z20, z30, z40, z50, z01, zm0, zm1, C_at1 hB hN ho, R_isG1 hn ho (by omega), G_ne, C_at1 hB hN ht, R_isG1 hn ht (by omega), ot', g2, zo, o5, R_is (show o < 96 by omega)]; try rfl) (by simp only [e_132_0, e_132_25, kR1, kR2, kR3, kR4, kR5, kR6, kR7, kR8, kR9, kR10, kR11, kR12, kR13, kR14, kR15, kR16, kR17, kR18, kR19, kR20, kR21, kR22, kR23, kR24, kR25, kR26, kR27, kR28, kR29, kR30, lR1, lR2, lR3, lR4, lR5, lR6, lR7, lR8, lR9, lR10, lR11, lR12, lR13, lR14, lR15, lR16, lR17, lR18, lR19, lR20, lR21, lR22, lR23, lR24, lR25, lR26, lR27, lR28, lR29, lR30, rR5, rR6, rR7, rR8, rR9, rR10, rR11, rR12, rR13, rR14, rR15, rR16, rR17, rR18, rR19, rR20, rR21, rR22, rR23, rR24, rR25, rR26, rR27, rR28, rR29, rR30, R_i, R_si, R_rec, if_true, if_false, true_and, and_true, true_or, or_true, List.length_nil, List.length_cons, Nat.zero_le, c_I, c_R, c_V, R_no, R_refuse, R_fault, f_s_row, f4c, f4k, f4n, ne_eq, not_false_eq_true, not_true_eq_false, Nat.reduceEqDiff, reduceCtorEq, Nat.succ_ne_zero, Nat.reduceAdd, ar_0, z10, z20, z30, z40, z50, z01, zm0, zm1, C_at1 hB hN ho, R_isG1 hn ho (by omega), G_ne, C_at1 hB hN ht, R_isG1 hn ht (by omega), ot', g2, zo, o5, R_is (show o < 96 by omega)]; try rfl) (U_status h 2) rfl rfl
  by_cases t5 : f 5 t = 1
  case neg => exact OK2.of (v := 0) (by simp only [e_38_0, e_38_15, e_38_27, c_I, c_R, c_V, if_true, if_false, true_and, and_true, true_or, or_true, List.length_nil, List.length_cons, Nat.zero_le, k_si, l_si, r_si, k_sr, l_sr, i_sr, n_si, ar_si, ar_sr, ar_0, rc7 s1, s1, C_no, C_none, C_yes, C_done, C_bit0, C_bit1, C_fault, z10, z20, z30, z40, z50, z01, zm0, zm1, C_at1 hB hN ho, R_isG1 hn ho (by omega), G_ne, C_at1 hB hN ht, R_isG1 hn ht (by omega), ot', g2, zo, o5, b2, zt, t5, R_is (show o < 96 by omega), R_is (show t < 96 by omega)]; try rfl) (by simp only [e_132_0, e_132_25, kR1, kR2, kR3, kR4, kR5, kR6, kR7, kR8, kR9, kR10, kR11, kR12, kR13, kR14, kR15, kR16, kR17, kR18, kR19, kR20, kR21, kR22, kR23, kR24, kR25, kR26, kR27, kR28, kR29, kR30, lR1, lR2, lR3, lR4, lR5, lR6, lR7, lR8, lR9, lR10, lR11, lR12, lR13, lR14, lR15, lR16, lR17, lR18, lR19, lR20, lR21, lR22, lR23, lR24, lR25, lR26, lR27, lR28, lR29, lR30, rR5, rR6, rR7, rR8, rR9, rR10, rR11, rR12, rR13, rR14, rR15, rR16, rR17, rR18, rR19, rR20, rR21, rR22, rR23, rR24, rR25, rR26, rR27, rR28, rR29, rR30, R_i, R_si, R_rec, if_true, if_false, true_and, and_true, true_or, or_true, List.length_nil, List.length_cons, Nat.zero_le, c_I, c_R, c_V, R_no, R_refuse, R_fault, f_s_row, f4c, f4k, f4n, ne_eq, not_false_eq_true, not_true_eq_false, Nat.reduceEqDiff, reduceCtorEq, Nat.succ_ne_zero, Nat.reduceAdd, ar_0, z10, z20, z30, z40, z50, z01, zm0, zm1, C_at1 hB hN ho, R_isG1 hn ho (by omega), G_ne, C_at1 hB hN ht, R_isG1 hn ht (by omega), ot', g2, zo, o5, b2, zt, t5, R_is (show o < 96 by omega), R_is (show t < 96 by omega)]; try rfl) (U_status h 2) rfl rfl
  obtain ⟨N, eN, hT⟩ := C_Rtt (M := M) hB.2.2.2.2.2.2.1 (g := G_ t) (L := 0) (P := 0) (by decide) (r := 0)
  rw [show nI 0 = 0 from rfl] at eN hT
  obtain ⟨A1, A2, A3, A4, A5, A6, A7, A8, A9, A10, A11⟩ := id hT
  have eD := C_Realm (N := N) (g := G_ o) (A := h_n M + 1)
  have hQ := dI_of (N := N) (fun x hx => A4 x (by omega)) (g := G_ o) (A := h_n M + 1)
  generalize nD N (G_ o) (h_n M + 1) = Q at eD hQ
  have h1 := W_create h ho o5 ht t5 ot hT hQ
  obtain ⟨B1, B2, B3, B4, B5, B6, B7, B8, B9, B10, B11, B12⟩ := id hQ
  have e11 : h_n N + 1 = h_n M + 11 := by omega
  rw [e11] at eD
  have O : ∀ x, x ≤ h_n M → h_k Q x = h_k M x ∧ h_l Q x = h_l M x ∧ ∀ j, h_i Q x j = h_i M x j ∧ h_r Q x j = h_r M x j := fun x hx => by
    obtain ⟨u1, u2, u3⟩ := B3 x (by omega)
    obtain ⟨v1, v2, v3⟩ := A3 x hx
    exact ⟨u1.trans v1, u2.trans v2, fun j => ⟨(u3 j).1.trans (v3 j).1, (u3 j).2.trans (v3 j).2⟩⟩
  have GA : (G_ o ≤ 10 + 2 * n ∧ Wd o ≤ 10 + 2 * n) ∧ (G_ t ≤ 10 + 2 * n ∧ Wd t ≤ 10 + 2 * n) := by unfold G_ Wd; omega
  have GW : G_ o ≠ Wd t ∧ G_ t ≠ Wd o ∧ Wd o ≠ Wd t ∧ G_ o ≠ G_ t := by unfold G_ Wd; omega
  have q2 : h_k Q (G_ o) = 3 := ((O _ (by omega)).1).trans g2
  have q3 : h_r Q (G_ o) 1 = Wd o := (((O _ (by omega)).2.2 1).2).trans g3
  have q4 : h_k Q (Wd o) = 9 := ((O _ (by omega)).1).trans g4
  have q5 : h_l Q (Wd o) = 32 := ((O _ (by omega)).2.1).trans g5
  have cb := C_become (M := Q) q2 q3 q4 q5 2 (h_n M + 11) (-1)
  have p2 : h_k (bcm Q o 2 (h_n M + 11) (-1)) (G_ t) = 3 := by rw [bK]; exact ((O _ (by omega)).1).trans b2
  have p3 : h_r (bcm Q o 2 (h_n M + 11) (-1)) (G_ t) 1 = Wd t := (b_r (by omega)).trans ((((O _ (by omega)).2.2 1).2).trans b3)
  have p4 : h_k (bcm Q o 2 (h_n M + 11) (-1)) (Wd t) = 9 := by rw [bK]; exact ((O _ (by omega)).1).trans b4
  have p5 : h_l (bcm Q o 2 (h_n M + 11) (-1)) (Wd t) = 32 := by rw [bL]; exact ((O _ (by omega)).2.1).trans b5
  have p6 : h_k (bcm Q o 2 (h_n M + 11) (-1)) (h_n M + 1) = 6 := by rw [bK]; exact ((B3 _ (by omega)).1).trans A5
  have p7 : h_i (bcm Q o 2 (h_n M + 11) (-1)) (h_n M + 1) 1 = 0 := (b_i (by omega) (by omega)).trans (((B3 _ (by omega)).2.2 1).1.trans A7)
  have cb2 := C_become (M := bcm Q o 2 (h_n M + 11) (-1)) p2 p3 p4 p5 4 (h_n M + 11) 0
  have c18 : ev 18 0 [some (.inr (G_ t)), some (.inr (h_n M + 11)), some (.inr (h_n M + 1))] [] (bcm Q o 2 (h_n M + 11) (-1)) = some (none, crt Q o t (h_n M + 11) (h_n M + 1)) := by
    have kb : h_k (bcm (bcm Q o 2 (h_n M + 11) (-1)) t 4 (h_n M + 11) 0) (G_ t) = 3 := by rw [bK]; exact p2
    simp only [e_18_0, c_I, c_R, c_V, if_true, if_false, true_and, and_true, true_or, or_true, List.length_nil, List.length_cons, Nat.zero_le, k_si, l_si, r_si, k_sr, l_sr, i_sr, n_si, ar_si, ar_sr, ar_0, p6, p7, rc3 p2, cb2, kb]
    rfl
  have nR := crN Q o t (h_n M + 11) (h_n M + 1)
  have vR := crV Q o t (h_n M + 11) (h_n M + 1)
  generalize crt Q o t (h_n M + 11) (h_n M + 1) = R at h1 c18 nR vR
  -- the reference's rows
  have z5 : f_la (f_rd f o t) t (nI o) 0 0 0 5 o = 2 := by
    unfold f_la f_rd
    rw [f3n (by omega), f_s_ne (by omega), f_s_ne (by omega), fbn (by omega) (by omega) (by omega), f_r_ne (by omega), f_s_ne (by omega), f_s_ne (by omega), f_s_ne (by omega), fb5]
  have z4 : f_la (f_rd f o t) t (nI o) 0 0 0 4 = f 4 := by
    funext j
    unfold f_la f_rd
    rw [f3n (by omega), f_s_ne (by omega), f_s_ne (by omega), fbn (by omega) (by omega) (by omega), f_r_ne (by omega), f_s_ne (by omega), f_s_ne (by omega), f_s_ne (by omega), fbn (by omega) (by omega) (by omega)]
  have rl := R_lay (f := f_rd f o t) (g := t) (rd := nI o) (l := 0) (first := 0) (ripas := 0) (by omega)
  have hf : f_r (f_s (f_s (f_s (f_b f o 2 (nI o)) 8 o 0) 9 o (nI t)) 10 o 0) 11 (40 * o) (40 * o + 40) (fun _ => 0) = f_rd f o t := rfl
  generalize f_la (f_rd f o t) t (nI o) 0 0 0 = f1 at h1 z5 z4 rl
  -- the class's digest
  have hD := h1.1.1
  have r7 := h1.1.2.1.1
  have r1 := h1.1.2.1.2.2.1
  have r0 := h1.1.2.1.2.1
  have r10 := h1.1.2.2.2.1
  obtain ⟨d1, d2, -, -, -, -, -, -, -, d10⟩ := h1.2.2.2.2.2.2.1 o ho z5
  simp only [if_true] at d1 d10
  have hX := (h1.2.1 (h_n M + 11)).1 d1
  obtain ⟨x1, x2, x3, x4, x5, x6⟩ := id hX
  obtain ⟨y1, y2, y3⟩ := x6 0 (by decide)
  obtain ⟨M1, e1, D1⟩ := dS_start hD
  obtain ⟨M2, e2, D2⟩ := dS_take hD D1 (by simp) 1
  obtain ⟨M3, e3, D3⟩ := dS_take hD D2 (by simp) (nI n)
  obtain ⟨c, e4, k1, k2, k3⟩ := dS_fin hD D3 (a := h_n M + 11 + 2 + 0) (o := 0) (n := 8) (by simp) y2 (by omega) (by omega) (by omega) (by omega) h1.2.2.1.1 h1.2.2.1.2
  rw [show nI 8 = 8 from rfl, show nI 0 = 0 from rfl, Nat.add_zero] at e4
  -- the reference's
  have n31 : f1 4 31 = 0 := by rw [z4]; exact h.2.2.2.1.2.2.2.1
  obtain ⟨F1, s1', S1⟩ := rS_say (rS_nil n31) (by simp) 1
  have f40 : F1 4 0 = nI n := (S1.2.2 4 0 (by decide) (by decide)).trans (by rw [z4]; exact hn)
  obtain ⟨F2, s2', S2⟩ := rS_say S1 (by simp) (nI n)
  obtain ⟨F3, s3', m4, m5⟩ := rS_keep S2 (rd := o) (m := 0) (by simp) (by omega) (by decide) h1.2.2.2.1.2.2.2.2.1
  rw [show nI 0 = 0 from rfl] at s3'
  have h9 := meas_ h1 ho z5 (q := 0) (by decide) (D := dgl ([] ++ [1] ++ [nI n])) (c := c) (F := F3) (by simp only [if_true]; exact k1) (by simp only [if_true]; exact k2) (by simp only [if_true]; exact k3) m4 m5
  have h10 := W_status h9 0
  obtain ⟨j1, j1l, j1r⟩ := dS_s D1
  obtain ⟨j2, j2l, j2r⟩ := dS_s D2
  obtain ⟨j3, j3l, j3r⟩ := dS_s D3
  have sU : h_k (mkU R c) 4 = 7 := by rw [U_kf]; exact r7
  have r27 : ∀ as, a_rec (h_al M 6 3) 6 (.inr (h_n M + 1) :: as) = true := fun as => rc6 (show h_k (h_al M 6 3) (h_n M + 1) = 6 from if_pos rfl) as
  have r21 : ∀ as, a_rec (h_al N 4 8) 4 (.inr (h_n M + 11) :: as) = true := fun as => rc4 (show h_k (h_al N 4 8) (h_n M + 11) = 4 by rw [← e11]; exact if_pos rfl) as
  have of_n : Int32.ofNat n = nI n := rfl
  have c9 : (9 ≤ 11) = True := eq_true (by decide)
  have c13 : (11 ≤ 13) = True := eq_true (by decide)
  have rc := R_clr (o := o) (by omega) (nI t) 40 0 (f_s (f_s (f_s (f_b f o 2 (nI o)) 8 o 0) 9 o (nI t)) 10 o 0) rfl
  rw [show nI 0 = 0 from rfl, Nat.add_zero, hf] at rc
  have fin : ev 132 51 [some (.inr 4), some (.inl (nI o)), some (.inl (nI t)), some (.inl 0)] [] (mkR (f_s (f_s (f_s (f_b f o 2 (nI o)) 8 o 0) 9 o (nI t)) 10 o 0)) = some (some (.inl 1), mkR (f_s F3 4 1 0)) := by
    rw [rc, e_132_51, if_pos (by decide)]
    simp only [kR1, kR2, kR3, kR4, kR5, kR6, kR7, kR8, kR9, kR10, kR11, kR12, kR13, kR14, kR15, kR16, kR17, kR18, kR19, kR20, kR21, kR22, kR23, kR24, kR25, kR26, kR27, kR28, kR29, kR30, lR1, lR2, lR3, lR4, lR5, lR6, lR7, lR8, lR9, lR10, lR11, lR12, lR13, lR14, lR15, lR16, lR17, lR18, lR19, lR20, lR21, lR22, lR23, lR24, lR25, lR26, lR27, lR28, lR29, lR30, rR5, rR6, rR7, rR8, rR9, rR10, rR11, rR12, rR13, rR14, rR15, rR16, rR17, rR18, rR19, rR20, rR21, rR22, rR23, rR24, rR25, rR26, rR27, rR28, rR29, rR30, R_i, R_si, R_rec, if_true, if_false, true_and, and_true, true_or, or_true, List.length_nil, List.length_cons, Nat.zero_le, c_I, c_R, c_V, R_no, R_refuse, R_fault, f_s_row, f4c, f4k, f4n, ne_eq, not_false_eq_true, not_true_eq_false, Nat.reduceEqDiff, reduceCtorEq, Nat.succ_ne_zero, Nat.reduceAdd, ar_0, z10, z20, z30, z40, z50, z01, zm0, zm1, rl, s1', f40, s2', s3']
  refine ⟨1, _, _, _, _, _, ?_, ?_, h10, ?_, ?_⟩
  · simp only [e_38_0, c_I, c_R, c_V, if_true, if_false, true_and, and_true, true_or, or_true, List.length_nil, List.length_cons, Nat.zero_le, k_si, l_si, r_si, k_sr, l_sr, i_sr, n_si, ar_si, ar_sr, ar_0, rc7 s1, s1, C_no, C_none, C_yes, C_done, C_bit0, C_bit1, C_fault, z10, z20, z30, z40, z50, z01, zm0, zm1, C_at1 hB hN ho, C_at1 hB hN ht, G_ne, ot', g2, zo, o5, b2, zt, t5, r27, eN, e11, r21, eD, rc3 q2, cb, rc3 p2, c18, r7, r1, rc1 hD.1, e1, j1, j1r, rc1 (show h_k M1 5 = 1 by rw [j1]; exact hD.1), e2, j2, j2r, j2l, r0, r10.1, r10.2, of_n, c9, c13, rc1 (show h_k M2 5 = 1 by rw [j2]; exact hD.1), e3, j3, j3r, rc4 (show h_k M3 (h_n M + 11) = 4 by rw [j3]; exact d1), C_rim hX d1 (dS_s D3), rc1 (show h_k M3 5 = 1 by rw [j3]; exact hD.1), e4, rc7 sU, C_yes sU, ln1]
  · simp only [e_132_0, kR1, kR2, kR3, kR4, kR5, kR6, kR7, kR8, kR9, kR10, kR11, kR12, kR13, kR14, kR15, kR16, kR17, kR18, kR19, kR20, kR21, kR22, kR23, kR24, kR25, kR26, kR27, kR28, kR29, kR30, lR1, lR2, lR3, lR4, lR5, lR6, lR7, lR8, lR9, lR10, lR11, lR12, lR13, lR14, lR15, lR16, lR17, lR18, lR19, lR20, lR21, lR22, lR23, lR24, lR25, lR26, lR27, lR28, lR29, lR30, rR5, rR6, rR7, rR8, rR9, rR10, rR11, rR12, rR13, rR14, rR15, rR16, rR17, rR18, rR19, rR20, rR21, rR22, rR23, rR24, rR25, rR26, rR27, rR28, rR29, rR30, R_i, R_si, R_rec, if_true, if_false, true_and, and_true, true_or, or_true, List.length_nil, List.length_cons, Nat.zero_le, c_I, c_R, c_V, R_no, R_refuse, R_fault, f_s_row, f4c, f4k, f4n, ne_eq, not_false_eq_true, not_true_eq_false, Nat.reduceEqDiff, reduceCtorEq, Nat.succ_ne_zero, Nat.reduceAdd, ar_0, z10, z20, z30, z40, z50, z01, zm0, zm1, R_isG1 hn ho (show n < 2 ^ 31 by omega), R_isG1 hn ht (show n < 2 ^ 31 by omega), ot', R_is (show o < 96 by omega), R_is (show t < 96 by omega), o5, t5, R_become (show o < 96 by omega), i_t (show o < 96 by omega) (show 96 < 2 ^ 31 by decide), i_c (show o < 2 ^ 31 by omega), fin]
  · rw [n_si, U_nf]; omega
  · rw [v_si, U_vf]; omega
end OP
