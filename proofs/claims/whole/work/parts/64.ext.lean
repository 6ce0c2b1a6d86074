theorem rowL_cons (u : Nat → Int32) (d : Nat) : rowL u (d + 1) = u 0 :: rowL (fun j => u (j + 1)) d := by
  unfold rowL
  rw [List.range_succ_eq_map, List.map_cons, List.map_map]
  rfl
def sm3 (M' M : mM) : Prop := h_k M' = h_k M ∧ h_l M' = h_l M ∧ h_r M' = h_r M
theorem dS_s {M M1 : mM} {wl : List Int32} (h : dS M wl M1) : sm3 M1 M := ⟨(dS_k h).1, (dS_k h).2.1, (dS_k h).2.2.1⟩
theorem sm3_U (M : mM) (c : Nat → Nat → Int32) : sm3 (mkU M c) M := ⟨rfl, rfl, rfl⟩
theorem C_rim {n : Nat} {M M' : mM} {a : Nat} (hX : X_d n M a) (hk : h_k M a = 4) (hs : sm3 M' M) : ev 22 0 [some (.inr a)] [] M' = some (some (.inr (a + 2)), M') := by
  obtain ⟨h1, h2, h3⟩ := hs
  obtain ⟨x1, x2, x3, x4, x5, x6⟩ := hX
  simp only [e_22_0, h1, h2, h3, hk, x3, x4, x5, (x6 0 (by decide)).1, if_true, true_or, or_true, true_and, il (show (0 : Int32) = nI 0 from rfl) (show 0 < 5 by decide) (by decide), show (0 : Int32).toNatClampNeg = 0 from rfl]
section OP
variable {n : Nat} {M : mM} {f : Nat → Nat → Int32} {ρ τ κ : Nat → Nat}
/-- the relation, with the reference's status for the class's -/
def R0 (n : Nat) (M : mM) (F : Nat → Nat → Int32) (ρ τ κ : Nat → Nat) : Prop := Rel n (h_si M 4 4 (F 4 1)) F ρ τ κ
theorem R0_of (h : Rel n M f ρ τ κ) (x : Int32) : R0 n M (f_s f 4 1 x) ρ τ κ := by
  unfold R0
  rw [f_s_eq]
  exact W_status h x
theorem R0_meas {F0 : Nat → Nat → Int32} (h : R0 n M F0 ρ τ κ) {o q : Nat} (ho : o < n) (ho2 : F0 5 o = 2) (hq : q < 5) {D : Nat → Int32} {c F : Nat → Nat → Int32} (c1 : ∀ k, k < 8 → c (ρ o + 2 + q) (0 + k) = D k) (c2 : ∀ j, ¬ (0 ≤ j ∧ j < 0 + 8) → c (ρ o + 2 + q) j = h_i M (ρ o + 2 + q) j) (c3 : ∀ b j, b ≠ ρ o + 2 + q → ¬ (5 ≤ b ∧ b ≤ 8) → c b j = h_i M b j) (f1 : F 4 31 = 0) (f2 : ∀ b j, b ≠ 28 → b ≠ 29 → b ≠ 30 → ¬ (b = 4 ∧ j = 31) → F b j = f_r F0 11 (40 * o + 8 * q) (40 * o + 8 * q + 8) (fun j => D (j - (40 * o + 8 * q))) b j) : R0 n (mkU M c) F ρ τ κ := by
  have e41 : F 4 1 = F0 4 1 := by rw [f2 4 1 (by decide) (by decide) (by decide) (by decide), f_r_row (by decide)]
  unfold R0 at h ⊢
  rw [e41]
  have b0 := (at_d h ho ho2).1
  have h3 := meas_ (c := f_s c 4 4 (F0 4 1)) h ho ho2 hq (D := D) (fun k hk => (f_s_ne (by omega)).trans (c1 k hk)) (fun j hj => (f_s_ne (by omega)).trans ((c2 j hj).trans (f_s_ne (f := h_i M) (a := 4) (k := 4) (x := F0 4 1) (by omega)).symm)) (fun b j q1 q2 => by
    by_cases e : b = 4 ∧ j = 4
    · obtain ⟨rfl, rfl⟩ := e
      rw [f_s_eq, i_si, if_pos ⟨rfl, rfl⟩]
    · rw [f_s_ne (by omega), i_si, if_neg e]
      exact c3 b j q1 q2) f1 f2
  exact h3
theorem R0_tok {F0 : Nat → Nat → Int32} (h : R0 n M F0 ρ τ κ) {t o m : Nat} (ht : t < n) (hm : o + m ≤ 32) {D : Nat → Int32} {c F : Nat → Nat → Int32} (c1 : ∀ k, k < m → c (Wd t) (o + k) = D k) (c2 : ∀ j, ¬ (o ≤ j ∧ j < o + m) → c (Wd t) j = h_i M (Wd t) j) (c3 : ∀ b j, b ≠ Wd t → ¬ (5 ≤ b ∧ b ≤ 8) → c b j = h_i M b j) (f1 : F 4 31 = 0) (f2 : ∀ b j, b ≠ 28 → b ≠ 29 → b ≠ 30 → ¬ (b = 4 ∧ j = 31) → F b j = f_r F0 6 (32 * t + o) (32 * t + o + m) (fun j => D (j - (32 * t + o))) b j) : R0 n (mkU M c) F ρ τ κ := by
  have e41 : F 4 1 = F0 4 1 := by rw [f2 4 1 (by decide) (by decide) (by decide) (by decide), f_r_row (by decide)]
  unfold R0 at h ⊢
  rw [e41]
  have h1 := U_words h ht hm (lo := o) (fun j => D (j - o)) (fun j => D (j - (32 * t + o))) (fun k h1 h2 j hj => by rw [hj]; show D (k - o) = D (32 * t + k - (32 * t + o)); congr 1; omega)
  have h2 := Rel_f h1 f1 (fun b j q1 q2 q3 q4 => by rw [f2 b j q1 q2 q3 q4, Nat.add_assoc])
  have h3 := Rel_c (c := f_s c 4 4 (F0 4 1)) h2 (fun a k hs => by
    have h58 : ¬ (5 ≤ a ∧ a ≤ 8) := fun q => hs (Or.inl (by omega))
    rw [U_i]
    by_cases ha : a = Wd t
    · subst ha
      rw [f_s_ne (by unfold Wd; omega)]
      by_cases q : o ≤ k ∧ k < o + m
      · rw [f_r_in q.1 q.2]
        have := c1 (k - o) (by omega)
        rw [show o + (k - o) = k by omega] at this
        exact this
      · rw [f_r_ne (by omega), i_si, if_neg (by unfold Wd; omega)]; exact c2 k q
    · rw [f_r_row ha]
      by_cases e : a = 4 ∧ k = 4
      · obtain ⟨rfl, rfl⟩ := e
        rw [f_s_eq, i_si, if_pos ⟨rfl, rfl⟩]
      · rw [f_s_ne (by omega), i_si, if_neg e]
        exact c3 a k ha h58)
  exact h3
/-- a loop of the reference that says a context's registers -/
theorem R_ext {f0 : Nat → Nat → Int32} {r : Nat} (hr : r < 96) (h1 : f0 4 2 = nI r) (x : Int32) : ∀ (d k : Nat) (F : Nat → Nat → Int32) (wl : List Int32), k + d = 8 → wl.length + d ≤ 45 → rS f0 wl F → ∃ F', ev 172 24 [some (.inr 4), some (.inl x), some (.inl (nI k))] [] (mkR F) = ev 172 24 [some (.inr 4), some (.inl x), some (.inl (nI 8))] [] (mkR F') ∧ rS f0 (wl ++ rowL (fun j => f0 19 (8 * r + (k + j))) d) F' := by
  intro d
  induction d with
  | zero =>
    intro k F wl hk hl hS
    exact ⟨F, by rw [show k = 8 by omega], by simpa [rowL] using hS⟩
  | succ d ih =>
    intro k F wl hk hl hS
    obtain ⟨F1, e1, e2⟩ := rS_say hS (by omega) (f0 19 (8 * r + k))
    obtain ⟨F2, e3, e4⟩ := ih (k + 1) F1 (wl ++ [f0 19 (8 * r + k)]) (by omega) (by rw [List.length_append]; simp; omega) e2
    refine ⟨F2, ?_, ?_⟩
    · rw [e_172_24]
      have f42 : F 4 2 = nI r := (hS.2.2 4 2 (by decide) (by decide)).trans h1
      have f19 : F 19 (8 * r + k) = f0 19 (8 * r + k) := hS.2.2 19 _ (by decide) (by omega)
      simp only [kR1, kR2, kR3, kR4, kR5, kR6, kR7, kR8, kR9, kR10, kR11, kR12, kR13, kR14, kR15, kR16, kR17, kR18, kR19, kR20, kR21, kR22, kR23, kR24, kR25, kR26, kR27, kR28, kR29, kR30, lR1, lR2, lR3, lR4, lR5, lR6, lR7, lR8, lR9, lR10, lR11, lR12, lR13, lR14, lR15, lR16, lR17, lR18, lR19, lR20, lR21, lR22, lR23, lR24, lR25, lR26, lR27, lR28, lR29, lR30, rR5, rR6, rR7, rR8, rR9, rR10, rR11, rR12, rR13, rR14, rR15, rR16, rR17, rR18, rR19, rR20, rR21, rR22, rR23, rR24, rR25, rR26, rR27, rR28, rR29, rR30, R_i, R_si, R_rec, if_true, if_false, true_and, and_true, true_or, or_true, List.length_nil, List.length_cons, Nat.zero_le, c_I, c_R, c_V, n_l (N := 8) (k := k) 8 rfl (by omega) (by decide), f42, n8, nI_1, i_t (show 8 * r + k < 768 by omega) (by decide), i_c (show 8 * r + k < 2 ^ 31 by omega), f19, e1]
      exact e3
    · rw [rowL_cons]
      rw [List.append_assoc] at e4
      rw [show (fun j => f0 19 (8 * r + (k + (j + 1)))) = (fun j => f0 19 (8 * r + (k + 1 + j))) from funext fun j => by rw [show k + (j + 1) = k + 1 + j by omega]]
      exact e4
theorem op_extend (h : Rel n M f ρ τ κ) (x : Int32) : OK2 n M (ev 63 0 [some (.inr 4), some (.inl x), none, none] [] M) (ev 172 0 [some (.inr 4), some (.inl x), none] [] (mkR f)) := by
  have s1 := h.1.2.1.1
  have s2 := h.1.2.1.2.2.1
  have hD := h.1.1
  have hN := h.2.2.2.1.2.2.1
  rcases run_ h with ⟨r1, r2⟩ | ⟨r, g, o, hrn⟩
  · exact OK2.of (v := -1) (by simp only [e_63_0, e_63_14, c_I, c_R, c_V, if_true, if_false, true_and, and_true, true_or, or_true, List.length_nil, List.length_cons, Nat.zero_le, k_si, l_si, r_si, k_sr, l_sr, i_sr, n_si, ar_si, ar_sr, ar_0, rc7 s1, s1, C_no, C_none, C_yes, C_done, C_bit0, C_bit1, C_fault, z10, z20, z30, z40, z50, z01, zm0, zm1, R_idle1 r1, r2]; try rfl) (by simp only [e_172_0, e_172_11, kR1, kR2, kR3, kR4, kR5, kR6, kR7, kR8, kR9, kR10, kR11, kR12, kR13, kR14, kR15, kR16, kR17, kR18, kR19, kR20, kR21, kR22, kR23, kR24, kR25, kR26, kR27, kR28, kR29, kR30, lR1, lR2, lR3, lR4, lR5, lR6, lR7, lR8, lR9, lR10, lR11, lR12, lR13, lR14, lR15, lR16, lR17, lR18, lR19, lR20, lR21, lR22, lR23, lR24, lR25, lR26, lR27, lR28, lR29, lR30, rR5, rR6, rR7, rR8, rR9, rR10, rR11, rR12, rR13, rR14, rR15, rR16, rR17, rR18, rR19, rR20, rR21, rR22, rR23, rR24, rR25, rR26, rR27, rR28, rR29, rR30, R_i, R_si, R_rec, if_true, if_false, true_and, and_true, true_or, or_true, List.length_nil, List.length_cons, Nat.zero_le, c_I, c_R, c_V, R_no, R_refuse, R_fault, f_s_row, f4c, f4k, f4n, ne_eq, not_false_eq_true, not_true_eq_false, Nat.reduceEqDiff, reduceCtorEq, Nat.succ_ne_zero, Nat.reduceAdd, ar_0, z10, z20, z30, z40, z50, z01, zm0, zm1, R_idle1 r1, r2]; try rfl) (U_status h 4) rfl rfl
  · obtain ⟨⟨hr, hg, ho⟩, r1, r2, r3, r4, r5, r6, r7, r8, r9, r10, r11, r12, r13, r14, r15, r16⟩ := id hrn
    rcases ix5 x with ⟨hx, -⟩ | ⟨hx, x1, x2, x3, x4, x5⟩ | ⟨i, hi, rfl, x1, x2, x3, x4, -⟩
    · have l1 : x < 1 := by
        rw [Int32.lt_iff_toInt_lt] at hx ⊢
        have e1 : (0 : Int32).toInt = 0 := rfl
        have e2 : (1 : Int32).toInt = 1 := rfl
        omega
      exact OK2.of (v := 1) (by simp only [e_63_0, e_63_14, c_I, c_R, c_V, if_true, if_false, true_and, and_true, true_or, or_true, List.length_nil, List.length_cons, Nat.zero_le, k_si, l_si, r_si, k_sr, l_sr, i_sr, n_si, ar_si, ar_sr, ar_0, rc7 s1, s1, C_no, C_none, C_yes, C_done, C_bit0, C_bit1, C_fault, z10, z20, z30, z40, z50, z01, zm0, zm1, R_idle0 (r1.symm ▸ r2), r4, r5, C_isMeas0 (Or.inl hx), l1]; try rfl) (by simp only [e_172_0, e_172_11, kR1, kR2, kR3, kR4, kR5, kR6, kR7, kR8, kR9, kR10, kR11, kR12, kR13, kR14, kR15, kR16, kR17, kR18, kR19, kR20, kR21, kR22, kR23, kR24, kR25, kR26, kR27, kR28, kR29, kR30, lR1, lR2, lR3, lR4, lR5, lR6, lR7, lR8, lR9, lR10, lR11, lR12, lR13, lR14, lR15, lR16, lR17, lR18, lR19, lR20, lR21, lR22, lR23, lR24, lR25, lR26, lR27, lR28, lR29, lR30, rR5, rR6, rR7, rR8, rR9, rR10, rR11, rR12, rR13, rR14, rR15, rR16, rR17, rR18, rR19, rR20, rR21, rR22, rR23, rR24, rR25, rR26, rR27, rR28, rR29, rR30, R_i, R_si, R_rec, if_true, if_false, true_and, and_true, true_or, or_true, List.length_nil, List.length_cons, Nat.zero_le, c_I, c_R, c_V, R_no, R_refuse, R_fault, f_s_row, f4c, f4k, f4n, ne_eq, not_false_eq_true, not_true_eq_false, Nat.reduceEqDiff, reduceCtorEq, Nat.succ_ne_zero, Nat.reduceAdd, ar_0, z10, z20, z30, z40, z50, z01, zm0, zm1, R_idle0 (r1.symm ▸ r2), r4, r5, C_isMeas0 (Or.inl hx), l1]; try rfl) (U_fault h) rfl rfl
    · have l1 : ¬ x < 1 := by
        rw [Int32.le_iff_toInt_le] at hx
        rw [Int32.lt_iff_toInt_lt]
        have e1 : (5 : Int32).toInt = 5 := rfl
        have e2 : (1 : Int32).toInt = 1 := rfl
        omega
      exact OK2.of (v := 1) (by simp only [e_63_0, e_63_14, c_I, c_R, c_V, if_true, if_false, true_and, and_true, true_or, or_true, List.length_nil, List.length_cons, Nat.zero_le, k_si, l_si, r_si, k_sr, l_sr, i_sr, n_si, ar_si, ar_sr, ar_0, rc7 s1, s1, C_no, C_none, C_yes, C_done, C_bit0, C_bit1, C_fault, z10, z20, z30, z40, z50, z01, zm0, zm1, R_idle0 (r1.symm ▸ r2), r4, r5, C_isMeas0 (Or.inr hx), l1, x3]; try rfl) (by simp only [e_172_0, e_172_11, kR1, kR2, kR3, kR4, kR5, kR6, kR7, kR8, kR9, kR10, kR11, kR12, kR13, kR14, kR15, kR16, kR17, kR18, kR19, kR20, kR21, kR22, kR23, kR24, kR25, kR26, kR27, kR28, kR29, kR30, lR1, lR2, lR3, lR4, lR5, lR6, lR7, lR8, lR9, lR10, lR11, lR12, lR13, lR14, lR15, lR16, lR17, lR18, lR19, lR20, lR21, lR22, lR23, lR24, lR25, lR26, lR27, lR28, lR29, lR30, rR5, rR6, rR7, rR8, rR9, rR10, rR11, rR12, rR13, rR14, rR15, rR16, rR17, rR18, rR19, rR20, rR21, rR22, rR23, rR24, rR25, rR26, rR27, rR28, rR29, rR30, R_i, R_si, R_rec, if_true, if_false, true_and, and_true, true_or, or_true, List.length_nil, List.length_cons, Nat.zero_le, c_I, c_R, c_V, R_no, R_refuse, R_fault, f_s_row, f4c, f4k, f4n, ne_eq, not_false_eq_true, not_true_eq_false, Nat.reduceEqDiff, reduceCtorEq, Nat.succ_ne_zero, Nat.reduceAdd, ar_0, z10, z20, z30, z40, z50, z01, zm0, zm1, R_idle0 (r1.symm ▸ r2), r4, r5, C_isMeas0 (Or.inr hx), l1, x3]; try rfl) (U_fault h) rfl rfl
    by_cases i0 : i = 0
    · subst i0
      have l1 : nI 0 < 1 := by decide
      have l2 : (nI 0 = 0) = True := eq_true rfl
      exact OK2.of (v := 1) (by simp only [e_63_0, e_63_14, c_I, c_R, c_V, if_true, if_false, true_and, and_true, true_or, or_true, List.length_nil, List.length_cons, Nat.zero_le, k_si, l_si, r_si, k_sr, l_sr, i_sr, n_si, ar_si, ar_sr, ar_0, rc7 s1, s1, C_no, C_none, C_yes, C_done, C_bit0, C_bit1, C_fault, z10, z20, z30, z40, z50, z01, zm0, zm1, R_idle0 (r1.symm ▸ r2), r4, r5, C_isMeas1 hi, l1, l2]; try rfl) (by simp only [e_172_0, e_172_11, kR1, kR2, kR3, kR4, kR5, kR6, kR7, kR8, kR9, kR10, kR11, kR12, kR13, kR14, kR15, kR16, kR17, kR18, kR19, kR20, kR21, kR22, kR23, kR24, kR25, kR26, kR27, kR28, kR29, kR30, lR1, lR2, lR3, lR4, lR5, lR6, lR7, lR8, lR9, lR10, lR11, lR12, lR13, lR14, lR15, lR16, lR17, lR18, lR19, lR20, lR21, lR22, lR23, lR24, lR25, lR26, lR27, lR28, lR29, lR30, rR5, rR6, rR7, rR8, rR9, rR10, rR11, rR12, rR13, rR14, rR15, rR16, rR17, rR18, rR19, rR20, rR21, rR22, rR23, rR24, rR25, rR26, rR27, rR28, rR29, rR30, R_i, R_si, R_rec, if_true, if_false, true_and, and_true, true_or, or_true, List.length_nil, List.length_cons, Nat.zero_le, c_I, c_R, c_V, R_no, R_refuse, R_fault, f_s_row, f4c, f4k, f4n, ne_eq, not_false_eq_true, not_true_eq_false, Nat.reduceEqDiff, reduceCtorEq, Nat.succ_ne_zero, Nat.reduceAdd, ar_0, z10, z20, z30, z40, z50, z01, zm0, zm1, R_idle0 (r1.symm ▸ r2), r4, r5, C_isMeas1 hi, l1]; try rfl) (U_fault h) rfl rfl
    · have l1 : ¬ nI i < 1 := nI_nlt (b := 1) (by omega) (by omega)
      have l2 : ¬ nI i = 0 := nI_ne0 (by omega) (by omega)
      obtain ⟨d1, -, -, -, -, -, -, -, -, d10⟩ := h.2.2.2.2.2.2.1 o ho r12
      obtain ⟨y1, y2, y3, y4, y5, y6⟩ := (h.2.1 (ρ o)).1 d1
      obtain ⟨q1, q2, q3⟩ := y6 i hi
      have cb := (at_c h hr r3).1
      obtain ⟨M1, e1, D1⟩ := dS_with hD q2 q3 (by omega) (by omega)
      obtain ⟨M2, e2, D2⟩ := dS_row hD D1 (n := 8) (a := κ r + 1) (by simp [rowL_len]) r8 (by omega) (by omega) (by omega) (by omega)
      obtain ⟨c, e3, c1, c2, c3⟩ := dS_fin hD D2 (a := ρ o + 2 + i) (o := 0) (n := 8) (by rw [List.length_append, rowL_len, rowL_len]; omega) q2 (by omega) (by omega) (by omega) (by omega) h.2.2.1.1 h.2.2.1.2
      rw [show nI 8 = 8 from rfl] at e2 e3
      rw [show nI 0 = 0 from rfl] at e3
      have h0 := R0_of h 0
      have n31 : f_s f 4 1 0 4 31 = 0 := (f4n (by decide)).trans h.2.2.2.1.2.2.2.1
      obtain ⟨F1, g1, S1⟩ := rS_sayM (rS_nil n31) (rd := o) (m := i) (by simp) (by omega) hi
      obtain ⟨F2, g2, S2⟩ := R_ext (f0 := f_s f 4 1 0) (r := r) (by omega) ((f4n (by decide)).trans r1) (nI i) 8 0 F1 _ rfl (by simp [rowL_len]) S1
      obtain ⟨F3, g3, z1, z2⟩ := rS_keep S2 (rd := o) (m := i) (by rw [List.nil_append, List.length_append, rowL_len, rowL_len]; omega) (by omega) hi (fun i hi => by rw [f_s_row (show 3 ≠ 4 by decide)]; exact h.2.2.2.1.2.2.2.2.1 i hi)
      have wl : rowL (h_i M (ρ o + 2 + i)) 8 ++ rowL (h_i M (κ r + 1)) 8 = [] ++ rowL (fun k => f_s f 4 1 0 11 (40 * o + 8 * i + k)) 8 ++ rowL (fun j => f_s f 4 1 0 19 (8 * r + (0 + j))) 8 := by
        rw [List.nil_append]
        congr 1
        · exact rowL_congr (fun k hk => by rw [f_s_row (show 11 ≠ 4 by decide)]; exact d10 i k hi hk)
        · exact rowL_congr (fun k hk => by rw [f_s_row (show 19 ≠ 4 by decide), Nat.zero_add]; exact r16 k hk)
      rw [← wl] at z2
      have h9 := R0_meas h0 ho (by rw [f_s_row (show 5 ≠ 4 by decide)]; exact r12) hi c1 c2 c3 z1 z2
      have e41 : F3 4 1 = 0 := by rw [z2 4 1 (by decide) (by decide) (by decide) (by decide), f_r_row (by decide), f_s_eq]
      unfold R0 at h9
      rw [e41] at h9
      obtain ⟨k1, k1l, k1r⟩ := dS_s D1
      obtain ⟨k2, k2l, k2r⟩ := dS_s D2
      have f42 : F2 4 2 = nI r := (S2.2.2 4 2 (by decide) (by decide)).trans ((f4n (by decide)).trans r1)
      have f7 : F2 7 r = nI o := (S2.2.2 7 r (by decide) (by omega)).trans (by rw [f_s_row (show 7 ≠ 4 by decide)]; exact r11)
      have sU : h_k (mkU M c) 4 = 7 := s1
      have g2' : ev 172 24 [some (.inr 4), some (.inl (nI i)), some (.inl 0)] [] (mkR F1) = some (some (.inl 0), mkR F3) := by
        rw [show nI 0 = 0 from rfl] at g2
        rw [g2, e_172_24, if_pos (by decide)]
        simp only [kR1, kR2, kR3, kR4, kR5, kR6, kR7, kR8, kR9, kR10, kR11, kR12, kR13, kR14, kR15, kR16, kR17, kR18, kR19, kR20, kR21, kR22, kR23, kR24, kR25, kR26, kR27, kR28, kR29, kR30, lR1, lR2, lR3, lR4, lR5, lR6, lR7, lR8, lR9, lR10, lR11, lR12, lR13, lR14, lR15, lR16, lR17, lR18, lR19, lR20, lR21, lR22, lR23, lR24, lR25, lR26, lR27, lR28, lR29, lR30, rR5, rR6, rR7, rR8, rR9, rR10, rR11, rR12, rR13, rR14, rR15, rR16, rR17, rR18, rR19, rR20, rR21, rR22, rR23, rR24, rR25, rR26, rR27, rR28, rR29, rR30, R_i, R_si, R_rec, if_true, if_false, true_and, and_true, true_or, or_true, List.length_nil, List.length_cons, Nat.zero_le, c_I, c_R, c_V, f42, f7, i_t (show r < 96 by omega) (by decide), i_c (show r < 2 ^ 31 by omega), g3]
      refine OK2.of (v := 0) (M' := h_si (mkU M c) 4 4 0) (f' := F3) ?_ ?_ h9 rfl rfl
      · simp only [e_63_0, c_I, c_R, c_V, if_true, if_false, true_and, and_true, true_or, or_true, List.length_nil, List.length_cons, Nat.zero_le, k_si, l_si, r_si, k_sr, l_sr, i_sr, n_si, ar_si, ar_sr, ar_0, rc7 s1, s1, C_no, C_none, C_yes, C_done, C_bit0, C_bit1, C_fault, z10, z20, z30, z40, z50, z01, zm0, zm1, r4, r5, r6, r7, r10, r13, C_isMeas1 hi, l2, y3, y4, y5, q1, i_t hi (N := 5) (by decide), i_c (show i < 2 ^ 31 by omega), s2, rc1 hD.1, e1, k1, k1r, k2, k2r, rc1 (show h_k M1 5 = 1 by rw [k1]; exact hD.1), rc1 (show h_k M2 5 = 1 by rw [k2]; exact hD.1), e2, e3, rc7 sU, C_done sU]
      · simp only [e_172_0, kR1, kR2, kR3, kR4, kR5, kR6, kR7, kR8, kR9, kR10, kR11, kR12, kR13, kR14, kR15, kR16, kR17, kR18, kR19, kR20, kR21, kR22, kR23, kR24, kR25, kR26, kR27, kR28, kR29, kR30, lR1, lR2, lR3, lR4, lR5, lR6, lR7, lR8, lR9, lR10, lR11, lR12, lR13, lR14, lR15, lR16, lR17, lR18, lR19, lR20, lR21, lR22, lR23, lR24, lR25, lR26, lR27, lR28, lR29, lR30, rR5, rR6, rR7, rR8, rR9, rR10, rR11, rR12, rR13, rR14, rR15, rR16, rR17, rR18, rR19, rR20, rR21, rR22, rR23, rR24, rR25, rR26, rR27, rR28, rR29, rR30, R_i, R_si, R_rec, if_true, if_false, true_and, and_true, true_or, or_true, List.length_nil, List.length_cons, Nat.zero_le, c_I, c_R, c_V, R_no, R_refuse, R_fault, f_s_row, f4c, f4k, f4n, ne_eq, not_false_eq_true, not_true_eq_false, Nat.reduceEqDiff, reduceCtorEq, Nat.succ_ne_zero, Nat.reduceAdd, ar_0, z10, z20, z30, z40, z50, z01, zm0, zm1, R_idle0 (r1.symm ▸ r2), l1, x4, r1, r11, i_t (show r < 96 by omega) (by decide), i_c (show r < 2 ^ 31 by omega), g1, g2']
theorem op_ripas (h : Rel n M f ρ τ κ) (x y : Int32) : OK2 n M (ev 46 0 [some (.inr 4), some (.inl x), some (.inl y), none, none, none, none] [] M) (ev 145 0 [some (.inr 4), some (.inl x), some (.inl y), none] [] (mkR f)) := by
  have hB := h.1
  have s1 := h.1.2.1.1
  have s2 := h.1.2.1.2.2.1
  have hn := h.2.2.2.1.1
  have hN := h.2.2.2.1.2.2.1
  rcases ix2 x (show n < 2 ^ 31 by omega) with hx | ⟨o, ho, rfl⟩
  · exact OK2.of (v := -1) (by simp only [e_46_0, e_46_9, c_I, c_R, c_V, if_true, if_false, true_and, and_true, true_or, or_true, List.length_nil, List.length_cons, Nat.zero_le, k_si, l_si, r_si, k_sr, l_sr, i_sr, n_si, ar_si, ar_sr, ar_0, rc7 s1, s1, C_no, C_none, C_yes, C_done, C_bit0, C_bit1, C_fault, z10, z20, z30, z40, z50, z01, zm0, zm1, C_at0 hB hx, R_isG0 hn hx]; try rfl) (by simp only [e_145_0, e_145_7, kR1, kR2, kR3, kR4, kR5, kR6, kR7, kR8, kR9, kR10, kR11, kR12, kR13, kR14, kR15, kR16, kR17, kR18, kR19, kR20, kR21, kR22, kR23, kR24, kR25, kR26, kR27, kR28, kR29, kR30, lR1, lR2, lR3, lR4, lR5, lR6, lR7, lR8, lR9, lR10, lR11, lR12, lR13, lR14, lR15, lR16, lR17, lR18, lR19, lR20, lR21, lR22, lR23, lR24, lR25, lR26, lR27, lR28, lR29, lR30, rR5, rR6, rR7, rR8, rR9, rR10, rR11, rR12, rR13, rR14, rR15, rR16, rR17, rR18, rR19, rR20, rR21, rR22, rR23, rR24, rR25, rR26, rR27, rR28, rR29, rR30, R_i, R_si, R_rec, if_true, if_false, true_and, and_true, true_or, or_true, List.length_nil, List.length_cons, Nat.zero_le, c_I, c_R, c_V, R_no, R_refuse, R_fault, f_s_row, f4c, f4k, f4n, ne_eq, not_false_eq_true, not_true_eq_false, Nat.reduceEqDiff, reduceCtorEq, Nat.succ_ne_zero, Nat.reduceAdd, ar_0, z10, z20, z30, z40, z50, z01, zm0, zm1, C_at0 hB hx, R_isG0 hn hx]; try rfl) (U_status h 1) rfl rfl
  have k2 := (hB.2.2.2.2.1 o ho).2.1
  rcases ix2048 y with ⟨hy, -⟩ | ⟨hy, -⟩ | ⟨P, hP, rfl, -⟩
  · exact OK2.of (v := -1) (by simp only [e_46_0, e_46_9, c_I, c_R, c_V, if_true, if_false, true_and, and_true, true_or, or_true, List.length_nil, List.length_cons, Nat.zero_le, k_si, l_si, r_si, k_sr, l_sr, i_sr, n_si, ar_si, ar_sr, ar_0, rc7 s1, s1, C_no, C_none, C_yes, C_done, C_bit0, C_bit1, C_fault, z10, z20, z30, z40, z50, z01, zm0, zm1, C_at1 hB hN ho, R_isG1 hn ho (by omega), G_ne, C_isProt0 (Or.inl hy), R_isSafe0 (Or.inl hy)]; try rfl) (by simp only [e_145_0, e_145_7, kR1, kR2, kR3, kR4, kR5, kR6, kR7, kR8, kR9, kR10, kR11, kR12, kR13, kR14, kR15, kR16, kR17, kR18, kR19, kR20, kR21, kR22, kR23, kR24, kR25, kR26, kR27, kR28, kR29, kR30, lR1, lR2, lR3, lR4, lR5, lR6, lR7, lR8, lR9, lR10, lR11, lR12, lR13, lR14, lR15, lR16, lR17, lR18, lR19, lR20, lR21, lR22, lR23, lR24, lR25, lR26, lR27, lR28, lR29, lR30, rR5, rR6, rR7, rR8, rR9, rR10, rR11, rR12, rR13, rR14, rR15, rR16, rR17, rR18, rR19, rR20, rR21, rR22, rR23, rR24, rR25, rR26, rR27, rR28, rR29, rR30, R_i, R_si, R_rec, if_true, if_false, true_and, and_true, true_or, or_true, List.length_nil, List.length_cons, Nat.zero_le, c_I, c_R, c_V, R_no, R_refuse, R_fault, f_s_row, f4c, f4k, f4n, ne_eq, not_false_eq_true, not_true_eq_false, Nat.reduceEqDiff, reduceCtorEq, Nat.succ_ne_zero, Nat.reduceAdd, ar_0, z10, z20, z30, z40, z50, z01, zm0, zm1, C_at1 hB hN ho, R_isG1 hn ho (by omega), G_ne, C_isProt0 (Or.inl hy), R_isSafe0 (Or.inl hy)]; try rfl) (U_status h 1) rfl rfl
  · exact OK2.of (v := -1) (by simp only [e_46_0, e_46_9, c_I, c_R, c_V, if_true, if_false, true_and, and_true, true_or, or_true, List.length_nil, List.length_cons, Nat.zero_le, k_si, l_si, r_si, k_sr, l_sr, i_sr, n_si, ar_si, ar_sr, ar_0, rc7 s1, s1, C_no, C_none, C_yes, C_done, C_bit0, C_bit1, C_fault, z10, z20, z30, z40, z50, z01, zm0, zm1, C_at1 hB hN ho, R_isG1 hn ho (by omega), G_ne, C_isProt0 (Or.inr hy), R_isSafe0 (Or.inr hy)]; try rfl) (by simp only [e_145_0, e_145_7, kR1, kR2, kR3, kR4, kR5, kR6, kR7, kR8, kR9, kR10, kR11, kR12, kR13, kR14, kR15, kR16, kR17, kR18, kR19, kR20, kR21, kR22, kR23, kR24, kR25, kR26, kR27, kR28, kR29, kR30, lR1, lR2, lR3, lR4, lR5, lR6, lR7, lR8, lR9, lR10, lR11, lR12, lR13, lR14, lR15, lR16, lR17, lR18, lR19, lR20, lR21, lR22, lR23, lR24, lR25, lR26, lR27, lR28, lR29, lR30, rR5, rR6, rR7, rR8, rR9, rR10, rR11, rR12, rR13, rR14, rR15, rR16, rR17, rR18, rR19, rR20, rR21, rR22, rR23, rR24, rR25, rR26, rR27, rR28, rR29, rR30, R_i, R_si, R_rec, if_true, if_false, true_and, and_true, true_or, or_true, List.length_nil, List.length_cons, Nat.zero_le, c_I, c_R, c_V, R_no, R_refuse, R_fault, f_s_row, f4c, f4k, f4n, ne_eq, not_false_eq_true, not_true_eq_false, Nat.reduceEqDiff, reduceCtorEq, Nat.succ_ne_zero, Nat.reduceAdd, ar_0, z10, z20, z30, z40, z50, z01, zm0, zm1, C_at1 hB hN ho, R_isG1 hn ho (by omega), G_ne, C_isProt0 (Or.inr hy), R_isSafe0 (Or.inr hy)]; try rfl) (U_status h 1) rfl rfl
  by_cases hs : f 5 o = 2
  · obtain ⟨d1, d2, d3, d4, d5, d6, d7, d8, d9, d10⟩ := h.2.2.2.2.2.2.1 o ho hs
    by_cases hw : f 8 o = 0
    · obtain ⟨k, t, i, hwk, hk, l1, l3, -⟩ := leaf_ h ho hs (show P < 4096 by omega)
      have hT2 := ((h.2.2.2.1.2.2.2.2.2.1.2.1 t hwk.1 hwk.2.1).2.2 i hwk.2.2.2.2.2.1).1
      obtain ⟨w1, w2, w3, w4, w5, w6, w7, w8, w9, w10, w11, w12, w13, w14, w15⟩ := hwk
      have e8 : (8 * t + i) / 8 = t := by omega
      by_cases c0 : f 14 (8 * t + i) = 0
      · rw [if_pos c0] at w14
        have h1 := W_rip h 1 w1 w2 w6 (by simp) hk (by rw [w4]; omega)
        have o2' : f_s f 16 (8 * t + i) 1 5 o = 2 := by rw [f_s_row (show 5 ≠ 16 by decide)]; exact hs
        have b0 := (at_t h w1 w2).1
        have b1 := at_d h1 ho o2'
        have hD := h1.1.1
        have hX := (h1.2.1 (ρ o)).1 b1.2
        obtain ⟨y1, y2, y3, y4, y5, y6⟩ := id hX
        obtain ⟨q1, q2, q3⟩ := y6 0 (by decide)
        have i0 : h_i (h_si M (τ t + 2 + i) 2 1) (τ t + 2 + i) 0 = nI k := by rw [i_si, if_neg (by omega)]; exact w11
        have i1 : h_i (h_si M (τ t + 2 + i) 2 1) (τ t + 2 + i) 1 = nI (bs f t + i * spn k) := by rw [i_si, if_neg (by omega)]; exact w12
        have k2' : h_k (h_si M (τ t + 2 + i) 2 1) (τ t + 2 + i) = 2 := by rw [k_si]; exact w10
        have s1' : h_k (h_si M (τ t + 2 + i) 2 1) 4 = 7 := by rw [k_si]; exact s1
        have s2' : h_r (h_si M (τ t + 2 + i) 2 1) 4 1 = 5 := by rw [r_si]; exact s2
        have w10' := w10
        have fo' : ∀ F : Nat → Nat → Int32, F 12 t = nI k → F 13 t = f 13 t → ev 121 0 [some (.inr 4), some (.inl (nI (8 * t + i)))] [] (mkR F) = some (some (.inl (nI (bs f t + i * spn k))), mkR F) := fun F h12 h13 => by
          have fo := R_firstOf (f := F) (e := 8 * t + i) (l := k) (by omega) (by rw [e8]; exact h12) w5
          have hT1 := (h.2.2.2.1.2.2.2.2.2.1.2.1 t w1 w2).2.1
          rw [e8, show (8 * t + i) % 8 = i by omega, h13, hT1.2.1.1, nI_add] at fo
          exact fo
        have hq11 : ∀ q k', q < 5 → k' < 8 → h_i (h_si M (τ t + 2 + i) 2 1) (ρ o + 2 + q) k' = f 11 (40 * o + 8 * q + k') := fun q k' hq hk' => by
          have := (h1.2.2.2.2.2.2.1 o ho o2').2.2.2.2.2.2.2.2.2 q k' hq hk'
          rw [f_s_row (show 11 ≠ 16 by decide)] at this
          exact this
        have hst := h1.2.2.1
        have n31 : f_s f 16 (8 * t + i) 1 4 31 = 0 := by rw [f_s_row (show 4 ≠ 16 by decide)]; exact h.2.2.2.1.2.2.2.1
        have hK3 : ∀ j, j < 64 → f_s f 16 (8 * t + i) 1 3 j = s_t3 j := fun j hj => by rw [f_s_row (show 3 ≠ 16 by decide)]; exact h.2.2.2.1.2.2.2.2.1 j hj
        generalize hM1 : h_si M (τ t + 2 + i) 2 1 = N at *
        have n1 : h_n N = h_n M := by rw [← hM1]; rfl
        have n2 : h_v N = h_v M := by rw [← hM1]; rfl
        obtain ⟨M1, e1, D1⟩ := dS_with hD q2 q3 (by omega) (by omega)
        obtain ⟨M2, e2, D2⟩ := dS_take hD D1 (by simp [rowL_len]) 3
        obtain ⟨M3, e3, D3⟩ := dS_take hD D2 (by simp [rowL_len]) (nI (bs f t + i * spn k))
        obtain ⟨M4, e4, D4⟩ := dS_take hD D3 (by simp [rowL_len]) (nI (spn k))
        obtain ⟨c, e5, c1, c2, c3⟩ := dS_fin hD D4 (a := ρ o + 2 + 0) (o := 0) (n := 8) (by simp [rowL_len]) q2 (by omega) (by omega) (by omega) (by omega) hst.1 hst.2
        rw [show nI 8 = 8 from rfl, show nI 0 = 0 from rfl, Nat.add_zero] at e5
        rw [Nat.add_zero] at e1
        obtain ⟨F1, g1, S1⟩ := rS_sayM (rS_nil n31) (rd := o) (m := 0) (by simp) (by omega) (by decide)
        obtain ⟨F2, g2, S2⟩ := rS_say S1 (by simp [rowL_len]) 3
        obtain ⟨F3, g3, S3⟩ := rS_say S2 (by simp [rowL_len]) (nI (bs f t + i * spn k))
        obtain ⟨F4, g4, S4⟩ := rS_say S3 (by simp [rowL_len]) (nI (spn k))
        obtain ⟨F5, g5, z1, z2⟩ := rS_keep S4 (rd := o) (m := 0) (by simp [rowL_len]) (by omega) (by decide) hK3
        rw [show nI 0 = 0 from rfl] at g1 g5
        have wl : rowL (h_i N (ρ o + 2 + 0)) 8 = rowL (fun k => f_s f 16 (8 * t + i) 1 11 (40 * o + 8 * 0 + k)) 8 := rowL_congr (fun k' hk' => by rw [f_s_row (show 11 ≠ 16 by decide)]; exact hq11 0 k' (by decide) hk')
        rw [List.nil_append, ← wl] at z2
        have h9 := meas_ h1 ho o2' (by decide) c1 c2 c3 z1 z2
        have h10 := W_status h9 0
        obtain ⟨k1, k1l, k1r⟩ := dS_s D1
        obtain ⟨k2a, k2l, k2r⟩ := dS_s D2
        obtain ⟨k3, k3l, k3r⟩ := dS_s D3
        obtain ⟨k4, k4l, k4r⟩ := dS_s D4
        have sU : h_k (mkU N c) 4 = 7 := s1'
        have i21 : h_i M2 (τ t + 2 + i) 1 = nI (bs f t + i * spn k) := by
          obtain ⟨cc, hcc, -, -, hc4⟩ := D2
          rw [hcc, U_i, hc4 _ _ (by omega) (by omega)]
          exact i1
        have F12 : ∀ F wl', rS (f_s f 16 (8 * t + i) 1) wl' F → F 12 t = nI k ∧ F 13 t = f 13 t := fun F wl' hS => ⟨(hS.2.2 12 t (by decide) (by omega)).trans (by rw [f_s_row (show 12 ≠ 16 by decide)]; exact w9), (hS.2.2 13 t (by decide) (by omega)).trans (by rw [f_s_row (show 13 ≠ 16 by decide)])⟩
        have F5_12 : f_s F5 4 1 0 12 t = nI k := by rw [f_s_row (show 12 ≠ 4 by decide), z2 12 t (by decide) (by decide) (by decide) (by omega), f_r_row (by decide), f_s_row (show 12 ≠ 16 by decide)]; exact w9
        refine OK2.of (v := nI (spn k)) (M' := h_si (mkU N c) 4 4 0) (f' := f_s F5 4 1 0) ?_ ?_ h10 n1 n2
        · simp only [e_46_0, e_11_0, e_11_6, c_I, c_R, c_V, if_true, if_false, true_and, and_true, true_or, or_true, List.length_nil, List.length_cons, Nat.zero_le, k_si, l_si, r_si, k_sr, l_sr, i_sr, n_si, ar_si, ar_sr, ar_0, rc7 s1, s1, C_no, C_none, C_yes, C_done, C_bit0, C_bit1, C_fault, z10, z20, z30, z40, z50, z01, zm0, zm1, C_at1 hB hN ho, G_ne, C_isProt1 hP, rc3 k2, C_own1 h ho hs, ρ_ne h ho hs, d1, d4, hw, rc4 d1, l1, rc2 w10, w10, w14, hM1, k2', i0, C_span w5, s1', s2', rc4 b1.2, ln1, C_rim hX b1.2 ⟨rfl, rfl, rfl⟩, rc1 hD.1, e1, k1, k1r, rc1 (show h_k M1 5 = 1 by rw [k1]; exact hD.1), e2, k2a, k2r, rc1 (show h_k M2 5 = 1 by rw [k2a]; exact hD.1), i21, e3, k3, k3r, rc1 (show h_k M3 5 = 1 by rw [k3]; exact hD.1), e4, k4, k4r, rc4 (show h_k M4 (ρ o) = 4 by rw [k4]; exact b1.2), C_rim hX b1.2 (dS_s D4), rc1 (show h_k M4 5 = 1 by rw [k4]; exact hD.1), e5, rc7 sU, C_done sU]
        · simp only [e_145_0, kR1, kR2, kR3, kR4, kR5, kR6, kR7, kR8, kR9, kR10, kR11, kR12, kR13, kR14, kR15, kR16, kR17, kR18, kR19, kR20, kR21, kR22, kR23, kR24, kR25, kR26, kR27, kR28, kR29, kR30, lR1, lR2, lR3, lR4, lR5, lR6, lR7, lR8, lR9, lR10, lR11, lR12, lR13, lR14, lR15, lR16, lR17, lR18, lR19, lR20, lR21, lR22, lR23, lR24, lR25, lR26, lR27, lR28, lR29, lR30, rR5, rR6, rR7, rR8, rR9, rR10, rR11, rR12, rR13, rR14, rR15, rR16, rR17, rR18, rR19, rR20, rR21, rR22, rR23, rR24, rR25, rR26, rR27, rR28, rR29, rR30, R_i, R_si, R_rec, if_true, if_false, true_and, and_true, true_or, or_true, List.length_nil, List.length_cons, Nat.zero_le, c_I, c_R, c_V, z10, z20, z30, z40, z50, z01, zm0, zm1, ar_0, R_isG1 hn ho (show n < 2 ^ 31 by omega), R_isSafe1 hP, R_is (show o < 96 by omega), hs, i_t (show o < 96 by omega) (show 96 < 2 ^ 31 by decide), i_c (show o < 2 ^ 31 by omega), hw, l3, i_t (show 8 * t + i < 768 by omega) (show 768 < 2 ^ 31 by decide), i_c (show 8 * t + i < 2 ^ 31 by omega), c0, g1, g2, g3, g4, g5, ln1, fo' F2 (F12 F2 _ S2).1 (F12 F2 _ S2).2, R_levelOf (show 8 * t + i < 768 by omega), e8, (F12 F3 _ S3).1, F5_12, R_span w5]
      · rw [if_neg c0] at w14
        exact OK2.of (v := -1) (by simp only [e_46_0, e_46_9, e_11_0, e_11_6, c_I, c_R, c_V, if_true, if_false, true_and, and_true, true_or, or_true, List.length_nil, List.length_cons, Nat.zero_le, k_si, l_si, r_si, k_sr, l_sr, i_sr, n_si, ar_si, ar_sr, ar_0, rc7 s1, s1, C_no, C_none, C_yes, C_done, C_bit0, C_bit1, C_fault, z10, z20, z30, z40, z50, z01, zm0, zm1, C_at1 hB hN ho, R_isG1 hn ho (by omega), G_ne, C_isProt1 hP, R_isSafe1 hP, rc3 k2, C_own1 h ho hs, ρ_ne h ho hs, R_is (show o < 96 by omega), hs, d1, d4, hw, i_t (show o < 96 by omega) (by decide), i_c (show o < 2 ^ 31 by omega), rc4 d1, l1, l3, rc2 w10, w10, w14, c0, i_t (show 8 * t + i < 768 by omega) (by decide), i_c (show 8 * t + i < 2 ^ 31 by omega)]; try rfl) (by simp only [e_145_0, e_145_7, kR1, kR2, kR3, kR4, kR5, kR6, kR7, kR8, kR9, kR10, kR11, kR12, kR13, kR14, kR15, kR16, kR17, kR18, kR19, kR20, kR21, kR22, kR23, kR24, kR25, kR26, kR27, kR28, kR29, kR30, lR1, lR2, lR3, lR4, lR5, lR6, lR7, lR8, lR9, lR10, lR11, lR12, lR13, lR14, lR15, lR16, lR17, lR18, lR19, lR20, lR21, lR22, lR23, lR24, lR25, lR26, lR27, lR28, lR29, lR30, rR5, rR6, rR7, rR8, rR9, rR10, rR11, rR12, rR13, rR14, rR15, rR16, rR17, rR18, rR19, rR20, rR21, rR22, rR23, rR24, rR25, rR26, rR27, rR28, rR29, rR30, R_i, R_si, R_rec, if_true, if_false, true_and, and_true, true_or, or_true, List.length_nil, List.length_cons, Nat.zero_le, c_I, c_R, c_V, R_no, R_refuse, R_fault, f_s_row, f4c, f4k, f4n, ne_eq, not_false_eq_true, not_true_eq_false, Nat.reduceEqDiff, reduceCtorEq, Nat.succ_ne_zero, Nat.reduceAdd, ar_0, z10, z20, z30, z40, z50, z01, zm0, zm1, C_at1 hB hN ho, R_isG1 hn ho (by omega), G_ne, C_isProt1 hP, R_isSafe1 hP, rc3 k2, C_own1 h ho hs, ρ_ne h ho hs, R_is (show o < 96 by omega), hs, d1, d4, hw, i_t (show o < 96 by omega) (by decide), i_c (show o < 2 ^ 31 by omega), rc4 d1, l1, l3, rc2 w10, w10, w14, c0, i_t (show 8 * t + i < 768 by omega) (by decide), i_c (show 8 * t + i < 2 ^ 31 by omega)]; try rfl) (U_status h 5) rfl rfl
    · exact OK2.of (v := -1) (by simp only [e_46_0, e_46_9, c_I, c_R, c_V, if_true, if_false, true_and, and_true, true_or, or_true, List.length_nil, List.length_cons, Nat.zero_le, k_si, l_si, r_si, k_sr, l_sr, i_sr, n_si, ar_si, ar_sr, ar_0, rc7 s1, s1, C_no, C_none, C_yes, C_done, C_bit0, C_bit1, C_fault, z10, z20, z30, z40, z50, z01, zm0, zm1, C_at1 hB hN ho, R_isG1 hn ho (by omega), G_ne, C_isProt1 hP, R_isSafe1 hP, rc3 k2, C_own1 h ho hs, ρ_ne h ho hs, R_is (show o < 96 by omega), hs, d1, d4, hw, i_t (show o < 96 by omega) (by decide), i_c (show o < 2 ^ 31 by omega)]; try rfl) (by simp only [e_145_0, e_145_7, kR1, kR2, kR3, kR4, kR5, kR6, kR7, kR8, kR9, kR10, kR11, kR12, kR13, kR14, kR15, kR16, kR17, kR18, kR19, kR20, kR21, kR22, kR23, kR24, kR25, kR26, kR27, kR28, kR29, kR30, lR1, lR2, lR3, lR4, lR5, lR6, lR7, lR8, lR9, lR10, lR11, lR12, lR13, lR14, lR15, lR16, lR17, lR18, lR19, lR20, lR21, lR22, lR23, lR24, lR25, lR26, lR27, lR28, lR29, lR30, rR5, rR6, rR7, rR8, rR9, rR10, rR11, rR12, rR13, rR14, rR15, rR16, rR17, rR18, rR19, rR20, rR21, rR22, rR23, rR24, rR25, rR26, rR27, rR28, rR29, rR30, R_i, R_si, R_rec, if_true, if_false, true_and, and_true, true_or, or_true, List.length_nil, List.length_cons, Nat.zero_le, c_I, c_R, c_V, R_no, R_refuse, R_fault, f_s_row, f4c, f4k, f4n, ne_eq, not_false_eq_true, not_true_eq_false, Nat.reduceEqDiff, reduceCtorEq, Nat.succ_ne_zero, Nat.reduceAdd, ar_0, z10, z20, z30, z40, z50, z01, zm0, zm1, C_at1 hB hN ho, R_isG1 hn ho (by omega), G_ne, C_isProt1 hP, R_isSafe1 hP, rc3 k2, C_own1 h ho hs, ρ_ne h ho hs, R_is (show o < 96 by omega), hs, d1, d4, hw, i_t (show o < 96 by omega) (by decide), i_c (show o < 2 ^ 31 by omega)]; try rfl) (U_status h 3) rfl rfl
  · exact OK2.of (v := -1) (by simp only [e_46_0, e_46_9, c_I, c_R, c_V, if_true, if_false, true_and, and_true, true_or, or_true, List.length_nil, List.length_cons, Nat.zero_le, k_si, l_si, r_si, k_sr, l_sr, i_sr, n_si, ar_si, ar_sr, ar_0, rc7 s1, s1, C_no, C_none, C_yes, C_done, C_bit0, C_bit1, C_fault, z10, z20, z30, z40, z50, z01, zm0, zm1, C_at1 hB hN ho, R_isG1 hn ho (by omega), G_ne, C_isProt1 hP, R_isSafe1 hP, rc3 k2, C_own0 h ho hs, R_is (show o < 96 by omega), hs]; try rfl) (by simp only [e_145_0, e_145_7, kR1, kR2, kR3, kR4, kR5, kR6, kR7, kR8, kR9, kR10, kR11, kR12, kR13, kR14, kR15, kR16, kR17, kR18, kR19, kR20, kR21, kR22, kR23, kR24, kR25, kR26, kR27, kR28, kR29, kR30, lR1, lR2, lR3, lR4, lR5, lR6, lR7, lR8, lR9, lR10, lR11, lR12, lR13, lR14, lR15, lR16, lR17, lR18, lR19, lR20, lR21, lR22, lR23, lR24, lR25, lR26, lR27, lR28, lR29, lR30, rR5, rR6, rR7, rR8, rR9, rR10, rR11, rR12, rR13, rR14, rR15, rR16, rR17, rR18, rR19, rR20, rR21, rR22, rR23, rR24, rR25, rR26, rR27, rR28, rR29, rR30, R_i, R_si, R_rec, if_true, if_false, true_and, and_true, true_or, or_true, List.length_nil, List.length_cons, Nat.zero_le, c_I, c_R, c_V, R_no, R_refuse, R_fault, f_s_row, f4c, f4k, f4n, ne_eq, not_false_eq_true, not_true_eq_false, Nat.reduceEqDiff, reduceCtorEq, Nat.succ_ne_zero, Nat.reduceAdd, ar_0, z10, z20, z30, z40, z50, z01, zm0, zm1, C_at1 hB hN ho, R_isG1 hn ho (by omega), G_ne, C_isProt1 hP, R_isSafe1 hP, rc3 k2, C_own0 h ho hs, R_is (show o < 96 by omega), hs]; try rfl) (U_status h 2) rfl rfl
end OP
