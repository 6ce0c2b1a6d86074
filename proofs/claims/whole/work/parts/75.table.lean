section E
variable {n : Nat} {M M' : mM} {f : Nat → Nat → Int32} {ρ τ κ : Nat → Nat}
theorem and_spn {P L : Nat} (hP : P < 4096) (hL : L ≤ 2) : nI P &&& (nI (spn L) - 1) = nI (P % spn L) := by
  rcases (show L = 0 ∨ L = 1 ∨ L = 2 by omega) with rfl | rfl | rfl
  · rw [show nI (spn 0) - 1 = 511 from rfl, pk_andN (by omega) 9 (by decide)]; rfl
  · rw [show nI (spn 1) - 1 = 63 from rfl, pk_andN (by omega) 6 (by decide)]; rfl
  · rw [show nI (spn 2) - 1 = 7 from rfl, pk_andN (by omega) 3 (by decide)]; rfl
/-- where a table may be laid -/
theorem ixT (x l : Int32) : ((∀ M, ev 86 0 [some (.inl x), some (.inl l)] [] M = some (some (.inl 0), M)) ∧ ∀ f, ev 139 0 [some (.inr 4), some (.inl x), some (.inl l)] [] (mkR f) = some (some (.inl 0), mkR f)) ∨ ∃ P L, P < 4096 ∧ L ≤ 2 ∧ x = nI P ∧ l = nI (L + 1) ∧ P % spn L = 0 ∧ (∀ M, ev 86 0 [some (.inl (nI P)), some (.inl (nI (L + 1)))] [] M = some (some (.inl 1), M)) ∧ ∀ f, ev 139 0 [some (.inr 4), some (.inl (nI P)), some (.inl (nI (L + 1)))] [] (mkR f) = some (some (.inl 1), mkR f) := by
  rcases ix4096 x with ⟨hx, -⟩ | ⟨hx, -⟩ | ⟨P, hP, rfl, -⟩
  · exact Or.inl ⟨fun M => by simp only [e_86_0, e_86_20, e_86_21, c_I, c_R, c_V, if_true, if_false, true_and, and_true, true_or, or_true, List.length_nil, List.length_cons, Nat.zero_le, k_si, l_si, r_si, k_sr, l_sr, i_sr, n_si, ar_si, ar_sr, ar_0, C_isPage0 (Or.inl hx)], fun f => by simp only [e_139_0, e_139_18, e_139_19, kR1, kR2, kR3, kR4, kR5, kR6, kR7, kR8, kR9, kR10, kR11, kR12, kR13, kR14, kR15, kR16, kR17, kR18, kR19, kR20, kR21, kR22, kR23, kR24, kR25, kR26, kR27, kR28, kR29, kR30, lR1, lR2, lR3, lR4, lR5, lR6, lR7, lR8, lR9, lR10, lR11, lR12, lR13, lR14, lR15, lR16, lR17, lR18, lR19, lR20, lR21, lR22, lR23, lR24, lR25, lR26, lR27, lR28, lR29, lR30, rR5, rR6, rR7, rR8, rR9, rR10, rR11, rR12, rR13, rR14, rR15, rR16, rR17, rR18, rR19, rR20, rR21, rR22, rR23, rR24, rR25, rR26, rR27, rR28, rR29, rR30, R_i, R_si, R_rec, if_true, if_false, true_and, and_true, true_or, or_true, List.length_nil, List.length_cons, Nat.zero_le, c_I, c_R, c_V, ar_0, R_isPage0 (Or.inl hx)]⟩
  · exact Or.inl ⟨fun M => by simp only [e_86_0, e_86_20, e_86_21, c_I, c_R, c_V, if_true, if_false, true_and, and_true, true_or, or_true, List.length_nil, List.length_cons, Nat.zero_le, k_si, l_si, r_si, k_sr, l_sr, i_sr, n_si, ar_si, ar_sr, ar_0, C_isPage0 (Or.inr hx)], fun f => by simp only [e_139_0, e_139_18, e_139_19, kR1, kR2, kR3, kR4, kR5, kR6, kR7, kR8, kR9, kR10, kR11, kR12, kR13, kR14, kR15, kR16, kR17, kR18, kR19, kR20, kR21, kR22, kR23, kR24, kR25, kR26, kR27, kR28, kR29, kR30, lR1, lR2, lR3, lR4, lR5, lR6, lR7, lR8, lR9, lR10, lR11, lR12, lR13, lR14, lR15, lR16, lR17, lR18, lR19, lR20, lR21, lR22, lR23, lR24, lR25, lR26, lR27, lR28, lR29, lR30, rR5, rR6, rR7, rR8, rR9, rR10, rR11, rR12, rR13, rR14, rR15, rR16, rR17, rR18, rR19, rR20, rR21, rR22, rR23, rR24, rR25, rR26, rR27, rR28, rR29, rR30, R_i, R_si, R_rec, if_true, if_false, true_and, and_true, true_or, or_true, List.length_nil, List.length_cons, Nat.zero_le, c_I, c_R, c_V, ar_0, R_isPage0 (Or.inr hx)]⟩
  · rcases ix4 l with ⟨hl, -⟩ | ⟨hl, -⟩ | ⟨w, hw, rfl, -⟩
    · have l1 : l < 1 := by
        rw [Int32.lt_iff_toInt_lt] at hl ⊢
        have e1 : (0 : Int32).toInt = 0 := rfl
        have e2 : (1 : Int32).toInt = 1 := rfl
        omega
      exact Or.inl ⟨fun M => by simp only [e_86_0, e_86_20, e_86_21, c_I, c_R, c_V, if_true, if_false, true_and, and_true, true_or, or_true, List.length_nil, List.length_cons, Nat.zero_le, k_si, l_si, r_si, k_sr, l_sr, i_sr, n_si, ar_si, ar_sr, ar_0, C_isPage1 hP, l1, z10], fun f => by simp only [e_139_0, e_139_18, e_139_19, kR1, kR2, kR3, kR4, kR5, kR6, kR7, kR8, kR9, kR10, kR11, kR12, kR13, kR14, kR15, kR16, kR17, kR18, kR19, kR20, kR21, kR22, kR23, kR24, kR25, kR26, kR27, kR28, kR29, kR30, lR1, lR2, lR3, lR4, lR5, lR6, lR7, lR8, lR9, lR10, lR11, lR12, lR13, lR14, lR15, lR16, lR17, lR18, lR19, lR20, lR21, lR22, lR23, lR24, lR25, lR26, lR27, lR28, lR29, lR30, rR5, rR6, rR7, rR8, rR9, rR10, rR11, rR12, rR13, rR14, rR15, rR16, rR17, rR18, rR19, rR20, rR21, rR22, rR23, rR24, rR25, rR26, rR27, rR28, rR29, rR30, R_i, R_si, R_rec, if_true, if_false, true_and, and_true, true_or, or_true, List.length_nil, List.length_cons, Nat.zero_le, c_I, c_R, c_V, ar_0, R_isPage1 hP, l1, z10]⟩
    · have l1 : ¬ l < 1 ∧ 3 < l := by
        rw [Int32.le_iff_toInt_le] at hl
        rw [Int32.lt_iff_toInt_lt, Int32.lt_iff_toInt_lt]
        have e1 : (4 : Int32).toInt = 4 := rfl
        have e2 : (1 : Int32).toInt = 1 := rfl
        have e3 : (3 : Int32).toInt = 3 := rfl
        omega
      exact Or.inl ⟨fun M => by simp only [e_86_0, e_86_20, e_86_21, c_I, c_R, c_V, if_true, if_false, true_and, and_true, true_or, or_true, List.length_nil, List.length_cons, Nat.zero_le, k_si, l_si, r_si, k_sr, l_sr, i_sr, n_si, ar_si, ar_sr, ar_0, C_isPage1 hP, l1.1, l1.2, z10], fun f => by simp only [e_139_0, e_139_18, e_139_19, kR1, kR2, kR3, kR4, kR5, kR6, kR7, kR8, kR9, kR10, kR11, kR12, kR13, kR14, kR15, kR16, kR17, kR18, kR19, kR20, kR21, kR22, kR23, kR24, kR25, kR26, kR27, kR28, kR29, kR30, lR1, lR2, lR3, lR4, lR5, lR6, lR7, lR8, lR9, lR10, lR11, lR12, lR13, lR14, lR15, lR16, lR17, lR18, lR19, lR20, lR21, lR22, lR23, lR24, lR25, lR26, lR27, lR28, lR29, lR30, rR5, rR6, rR7, rR8, rR9, rR10, rR11, rR12, rR13, rR14, rR15, rR16, rR17, rR18, rR19, rR20, rR21, rR22, rR23, rR24, rR25, rR26, rR27, rR28, rR29, rR30, R_i, R_si, R_rec, if_true, if_false, true_and, and_true, true_or, or_true, List.length_nil, List.length_cons, Nat.zero_le, c_I, c_R, c_V, ar_0, R_isPage1 hP, l1.1, l1.2, z10]⟩
    · rcases (show w = 0 ∨ ∃ L, w = L + 1 from by cases w with | zero => exact Or.inl rfl | succ L => exact Or.inr ⟨L, rfl⟩) with rfl | ⟨L, rfl⟩
      · have l1 : nI 0 < 1 := by decide
        exact Or.inl ⟨fun M => by simp only [e_86_0, e_86_20, e_86_21, c_I, c_R, c_V, if_true, if_false, true_and, and_true, true_or, or_true, List.length_nil, List.length_cons, Nat.zero_le, k_si, l_si, r_si, k_sr, l_sr, i_sr, n_si, ar_si, ar_sr, ar_0, C_isPage1 hP, l1, z10], fun f => by simp only [e_139_0, e_139_18, e_139_19, kR1, kR2, kR3, kR4, kR5, kR6, kR7, kR8, kR9, kR10, kR11, kR12, kR13, kR14, kR15, kR16, kR17, kR18, kR19, kR20, kR21, kR22, kR23, kR24, kR25, kR26, kR27, kR28, kR29, kR30, lR1, lR2, lR3, lR4, lR5, lR6, lR7, lR8, lR9, lR10, lR11, lR12, lR13, lR14, lR15, lR16, lR17, lR18, lR19, lR20, lR21, lR22, lR23, lR24, lR25, lR26, lR27, lR28, lR29, lR30, rR5, rR6, rR7, rR8, rR9, rR10, rR11, rR12, rR13, rR14, rR15, rR16, rR17, rR18, rR19, rR20, rR21, rR22, rR23, rR24, rR25, rR26, rR27, rR28, rR29, rR30, R_i, R_si, R_rec, if_true, if_false, true_and, and_true, true_or, or_true, List.length_nil, List.length_cons, Nat.zero_le, c_I, c_R, c_V, ar_0, R_isPage1 hP, l1, z10]⟩
      · have l1 : ¬ nI (L + 1) < 1 := nI_nlt (b := 1) (by omega) (by omega)
        have l2 : ¬ (3 : Int32) < nI (L + 1) := nI_nlt (a := 3) (by omega) (by decide)
        have l3 : nI (L + 1) - 1 = nI L := by rw [show (1 : Int32) = nI 1 from rfl, pk_sub (by omega), Nat.add_sub_cancel]
        have sp := spn_pos L
        have s0 : ¬ nI (spn L) = 0 := nI_ne0 sp.1 (by omega)
        have rm : nI P - nI P / nI (spn L) * nI (spn L) = nI (P % spn L) := pk_rem (by omega) sp.1 (by omega)
        by_cases hm : P % spn L = 0
        · refine Or.inr ⟨P, L, hP, by omega, rfl, rfl, hm, fun M => ?_, fun f => ?_⟩
          · simp only [e_86_0, e_86_21, c_I, c_R, c_V, if_true, if_false, true_and, and_true, true_or, or_true, List.length_nil, List.length_cons, Nat.zero_le, k_si, l_si, r_si, k_sr, l_sr, i_sr, n_si, ar_si, ar_sr, ar_0, C_isPage1 hP, l1, l2, l3, z10, ln1, C_span (show L ≤ 3 by omega), and_spn hP (show L ≤ 2 by omega), hm, show (nI 0 = 0) = True from eq_true rfl]
          · simp only [e_139_0, e_139_19, kR1, kR2, kR3, kR4, kR5, kR6, kR7, kR8, kR9, kR10, kR11, kR12, kR13, kR14, kR15, kR16, kR17, kR18, kR19, kR20, kR21, kR22, kR23, kR24, kR25, kR26, kR27, kR28, kR29, kR30, lR1, lR2, lR3, lR4, lR5, lR6, lR7, lR8, lR9, lR10, lR11, lR12, lR13, lR14, lR15, lR16, lR17, lR18, lR19, lR20, lR21, lR22, lR23, lR24, lR25, lR26, lR27, lR28, lR29, lR30, rR5, rR6, rR7, rR8, rR9, rR10, rR11, rR12, rR13, rR14, rR15, rR16, rR17, rR18, rR19, rR20, rR21, rR22, rR23, rR24, rR25, rR26, rR27, rR28, rR29, rR30, R_i, R_si, R_rec, if_true, if_false, true_and, and_true, true_or, or_true, List.length_nil, List.length_cons, Nat.zero_le, c_I, c_R, c_V, ar_0, R_isPage1 hP, l1, l2, l3, z10, ln1, R_span (show L ≤ 3 by omega), s0, not_false_eq_true, rm, hm, show (nI 0 = 0) = True from eq_true rfl]
        · have hm' : ¬ nI (P % spn L) = 0 := nI_ne0 (by omega) (by have := Nat.mod_lt P sp.1; omega)
          refine Or.inl ⟨fun M => ?_, fun f => ?_⟩
          · simp only [e_86_0, e_86_20, e_86_21, c_I, c_R, c_V, if_true, if_false, true_and, and_true, true_or, or_true, List.length_nil, List.length_cons, Nat.zero_le, k_si, l_si, r_si, k_sr, l_sr, i_sr, n_si, ar_si, ar_sr, ar_0, C_isPage1 hP, l1, l2, l3, z10, ln1, C_span (show L ≤ 3 by omega), and_spn hP (show L ≤ 2 by omega), hm']
          · simp only [e_139_0, e_139_18, e_139_19, kR1, kR2, kR3, kR4, kR5, kR6, kR7, kR8, kR9, kR10, kR11, kR12, kR13, kR14, kR15, kR16, kR17, kR18, kR19, kR20, kR21, kR22, kR23, kR24, kR25, kR26, kR27, kR28, kR29, kR30, lR1, lR2, lR3, lR4, lR5, lR6, lR7, lR8, lR9, lR10, lR11, lR12, lR13, lR14, lR15, lR16, lR17, lR18, lR19, lR20, lR21, lR22, lR23, lR24, lR25, lR26, lR27, lR28, lR29, lR30, rR5, rR6, rR7, rR8, rR9, rR10, rR11, rR12, rR13, rR14, rR15, rR16, rR17, rR18, rR19, rR20, rR21, rR22, rR23, rR24, rR25, rR26, rR27, rR28, rR29, rR30, R_i, R_si, R_rec, if_true, if_false, true_and, and_true, true_or, or_true, List.length_nil, List.length_cons, Nat.zero_le, c_I, c_R, c_V, ar_0, R_isPage1 hP, l1, l2, l3, z10, ln1, R_span (show L ≤ 3 by omega), s0, not_false_eq_true, rm, hm']
/-- a table's granule, its entry above, the realm's number -/
def mtb (N : mM) (g b a A : Nat) (l : Int32) : mM := h_si (h_sr (h_sr (h_sr (bcm N g 4 b l) (G_ g) 6 A) a 3 (G_ g)) a 4 A) a 2 0
def lyt (N : mM) (g b a A : Nat) (l : Int32) : mM := h_si (mtb N g b a A l) b 6 (h_i (mtb N g b a A l) b 6 + 1)
/-- a table is laid -/
theorem W_lay (h : Rel n M f ρ τ κ) {g o p e L P : Nat} {N : mM} (hg : g < n) (g5 : f 5 g = 1) (ho : o < n) (o2 : f 5 o = 2) (hp : p < n) (p4 : f 5 p = 4) (p7 : f 7 p = nI o) (he : e < 8) (hl : lv f p = L) (hL : L ≤ 2) (j0 : f 14 (8 * p + e) = 0) (hP : P < 4096) (hb : bs f p + e * spn L = P) (hm : P % spn L = 0) (hT : tI M (G_ g) (nI (L + 1)) (fun e' => nI (P + e' * spn (L + 1))) (f 16 (8 * p + e)) 8 N) : Rel n (lyt N g (ρ o) (τ p + 2 + e) (h_n M + 1) (nI (L + 1))) (f_la (f_s (f_s (f_s f 14 (8 * p + e) 2) 15 (8 * p + e) (nI g)) 16 (8 * p + e) 0) g (nI o) (nI (L + 1)) (nI P) (f 16 (8 * p + e))) ρ (fun j => if j = g then h_n M + 1 else τ j) κ := by
  have hN := h.2.2.2.1.2.2.1
  have hTr := h.2.2.2.1.2.2.2.2.2.1
  have hnn := h.1.2.2.2.2.2.1
  obtain ⟨bo, bk⟩ := at_d h ho o2
  obtain ⟨bt, btk⟩ := at_t h hp p4
  have bx := ((h.2.1 (ρ o)).1 bk).2.1
  have btx := ((h.2.1 (τ p)).2.1 btk).2.1
  have td := dj_td h hp ho p4 o2
  have kE : h_k M (τ p + 2 + e) = 2 := (((h.2.1 (τ p)).2.1 btk).2.2.2.2.2 e he).2
  have og : o ≠ g := fun q => by rw [q, g5] at o2; exact absurd o2 (by decide)
  have pg : p ≠ g := fun q => by rw [q, g5] at p4; exact absurd p4 (by decide)
  have ss := spn_s L (by omega)
  have hrp := ((hTr.2.1 p hp p4).2.2 e he).2
  unfold q_rip at hrp
  rw [hl, hb] at hrp
  unfold f_la
  have F5 : f_3 (f_s (f_s (f_b (f_s (f_s (f_s f 14 (8 * p + e) 2) 15 (8 * p + e) (nI g)) 16 (8 * p + e) 0) g 4 (nI o)) 12 g (nI (L + 1))) 13 g (nI P)) (8 * g) (8 * g + 8) 0 (-1) (f 16 (8 * p + e)) 5 g = 4 := by rw [f3n (by omega), f_s_ne (by omega), f_s_ne (by omega), fb5]
  have F7 : f_3 (f_s (f_s (f_b (f_s (f_s (f_s f 14 (8 * p + e) 2) 15 (8 * p + e) (nI g)) 16 (8 * p + e) 0) g 4 (nI o)) 12 g (nI (L + 1))) 13 g (nI P)) (8 * g) (8 * g + 8) 0 (-1) (f 16 (8 * p + e)) 7 g = nI o := by rw [f3n (by omega), f_s_ne (by omega), f_s_ne (by omega), fb7]
  have F12 : f_3 (f_s (f_s (f_b (f_s (f_s (f_s f 14 (8 * p + e) 2) 15 (8 * p + e) (nI g)) 16 (8 * p + e) 0) g 4 (nI o)) 12 g (nI (L + 1))) 13 g (nI P)) (8 * g) (8 * g + 8) 0 (-1) (f 16 (8 * p + e)) 12 g = nI (L + 1) := by rw [f3n (by omega), f_s_ne (by omega), f_s_eq]
  have F13 : f_3 (f_s (f_s (f_b (f_s (f_s (f_s f 14 (8 * p + e) 2) 15 (8 * p + e) (nI g)) 16 (8 * p + e) 0) g 4 (nI o)) 12 g (nI (L + 1))) 13 g (nI P)) (8 * g) (8 * g + 8) 0 (-1) (f 16 (8 * p + e)) 13 g = nI P := by rw [f3n (by omega), f_s_eq]
  have F6 : ∀ k, k < 32 → f_3 (f_s (f_s (f_b (f_s (f_s (f_s f 14 (8 * p + e) 2) 15 (8 * p + e) (nI g)) 16 (8 * p + e) 0) g 4 (nI o)) 12 g (nI (L + 1))) 13 g (nI P)) (8 * g) (8 * g + 8) 0 (-1) (f 16 (8 * p + e)) 6 (32 * g + k) = 0 := fun k hk => by rw [f3n (by omega), f_s_ne (by omega), f_s_ne (by omega), fb6 hk]
  have FG : ∀ k, k < 8 → _ := fun k hk => f3a (f := f_s (f_s (f_b (f_s (f_s (f_s f 14 (8 * p + e) 2) 15 (8 * p + e) (nI g)) 16 (8 * p + e) 0) g 4 (nI o)) 12 g (nI (L + 1))) 13 g (nI P)) (lo := 8 * g) (hi := 8 * g + 8) (j := 8 * g + k) (x := 0) (y := -1) (z := f 16 (8 * p + e)) (by omega)
  have Fn : ∀ b i, i ≠ g → b ≠ 6 → b ≠ 14 → b ≠ 15 → b ≠ 16 → f_3 (f_s (f_s (f_b (f_s (f_s (f_s f 14 (8 * p + e) 2) 15 (8 * p + e) (nI g)) 16 (8 * p + e) 0) g 4 (nI o)) 12 g (nI (L + 1))) 13 g (nI P)) (8 * g) (8 * g + 8) 0 (-1) (f 16 (8 * p + e)) b i = f b i := fun b i h1 h2 h3 h4 h5 => by rw [f3n (by omega), f_s_ne (by omega), f_s_ne (by omega), fbn (by omega) (by omega) (by omega), f_s_ne (by omega), f_s_ne (by omega), f_s_ne (by omega)]
  have Fr : ∀ b, b ≠ 5 → b ≠ 6 → b ≠ 7 → b ≠ 12 → b ≠ 13 → b ≠ 14 → b ≠ 15 → b ≠ 16 → f_3 (f_s (f_s (f_b (f_s (f_s (f_s f 14 (8 * p + e) 2) 15 (8 * p + e) (nI g)) 16 (8 * p + e) 0) g 4 (nI o)) 12 g (nI (L + 1))) 13 g (nI P)) (8 * g) (8 * g + 8) 0 (-1) (f 16 (8 * p + e)) b = f b := fun b h1 h2 h3 h4 h5 h6 h7 h8 => funext fun i => by rw [f3n (by omega), f_s_ne (by omega), f_s_ne (by omega), fbn (by omega) (by omega) (by omega), f_s_ne (by omega), f_s_ne (by omega), f_s_ne (by omega)]
  have F6n : ∀ i k, i ≠ g → k < 32 → f_3 (f_s (f_s (f_b (f_s (f_s (f_s f 14 (8 * p + e) 2) 15 (8 * p + e) (nI g)) 16 (8 * p + e) 0) g 4 (nI o)) 12 g (nI (L + 1))) 13 g (nI P)) (8 * g) (8 * g + 8) 0 (-1) (f 16 (8 * p + e)) 6 (32 * i + k) = f 6 (32 * i + k) := fun i k h1 h2 => by rw [f3n (by omega), f_s_ne (by omega), f_s_ne (by omega), fbn (by omega) (by omega) (by omega), f_s_ne (by omega), f_s_ne (by omega), f_s_ne (by omega)]
  have FJ : f_3 (f_s (f_s (f_b (f_s (f_s (f_s f 14 (8 * p + e) 2) 15 (8 * p + e) (nI g)) 16 (8 * p + e) 0) g 4 (nI o)) 12 g (nI (L + 1))) 13 g (nI P)) (8 * g) (8 * g + 8) 0 (-1) (f 16 (8 * p + e)) 14 (8 * p + e) = 2 ∧ f_3 (f_s (f_s (f_b (f_s (f_s (f_s f 14 (8 * p + e) 2) 15 (8 * p + e) (nI g)) 16 (8 * p + e) 0) g 4 (nI o)) 12 g (nI (L + 1))) 13 g (nI P)) (8 * g) (8 * g + 8) 0 (-1) (f 16 (8 * p + e)) 15 (8 * p + e) = nI g ∧ f_3 (f_s (f_s (f_b (f_s (f_s (f_s f 14 (8 * p + e) 2) 15 (8 * p + e) (nI g)) 16 (8 * p + e) 0) g 4 (nI o)) 12 g (nI (L + 1))) 13 g (nI P)) (8 * g) (8 * g + 8) 0 (-1) (f 16 (8 * p + e)) 16 (8 * p + e) = 0 := by
    refine ⟨?_, ?_, ?_⟩
    · rw [f3n (by omega), f_s_ne (by omega), f_s_ne (by omega), fbn (by omega) (by omega) (by omega), f_s_ne (by omega), f_s_ne (by omega), f_s_eq]
    · rw [f3n (by omega), f_s_ne (by omega), f_s_ne (by omega), fbn (by omega) (by omega) (by omega), f_s_ne (by omega), f_s_eq]
    · rw [f3n (by omega), f_s_ne (by omega), f_s_ne (by omega), fbn (by omega) (by omega) (by omega), f_s_eq]
  have FE : ∀ b i e', (b = 14 ∨ b = 15 ∨ b = 16) → i ≠ g → e' < 8 → ¬ (i = p ∧ e' = e) → f_3 (f_s (f_s (f_b (f_s (f_s (f_s f 14 (8 * p + e) 2) 15 (8 * p + e) (nI g)) 16 (8 * p + e) 0) g 4 (nI o)) 12 g (nI (L + 1))) 13 g (nI P)) (8 * g) (8 * g + 8) 0 (-1) (f 16 (8 * p + e)) b (8 * i + e') = f b (8 * i + e') := fun b i e' h0 h1 h2 h3 => by
    rw [f3n (by omega), f_s_ne (by omega), f_s_ne (by omega), fbn (by omega) (by omega) (by omega), f_s_ne (by omega), f_s_ne (by omega), f_s_ne (by omega)]
  generalize f_3 (f_s (f_s (f_b (f_s (f_s (f_s f 14 (8 * p + e) 2) 15 (8 * p + e) (nI g)) 16 (8 * p + e) 0) g 4 (nI o)) 12 g (nI (L + 1))) 13 g (nI P)) (8 * g) (8 * g + 8) 0 (-1) (f 16 (8 * p + e)) = F at F5 F7 F12 F13 F6 FG Fn Fr F6n FJ FE ⊢
  have FE3 : ∀ i e', i ≠ g → e' < 8 → ¬ (i = p ∧ e' = e) → F 14 (8 * i + e') = f 14 (8 * i + e') ∧ F 15 (8 * i + e') = f 15 (8 * i + e') ∧ F 16 (8 * i + e') = f 16 (8 * i + e') := fun i e' h1 h2 h3 => ⟨FE 14 i e' (by omega) h1 h2 h3, FE 15 i e' (by omega) h1 h2 h3, FE 16 i e' (by omega) h1 h2 h3⟩
  have hlp : lv F p = L := by unfold lv; rw [Fn 12 p pg (by decide) (by decide) (by decide) (by decide)]; exact hl
  have hbp : bs F p = bs f p := by unfold bs; rw [Fn 13 p pg (by decide) (by decide) (by decide) (by decide)]
  have hlg : lv F g = L + 1 := by unfold lv; rw [F12]; exact i_c (by omega)
  have hbg : bs F g = P := by unfold bs; rw [F13]; exact i_c (by omega)
  have htg : tg F (8 * p + e) = g := by unfold tg; rw [FJ.2.1]; exact i_c (by omega)
  have how : ow F g = o := by unfold ow; rw [F7]; exact i_c (by omega)
  have hj : ∀ j, j < n → j ≠ g → F 5 j = f 5 j ∧ F 7 j = f 7 j := fun j _ jd => ⟨Fn 5 j jd (by decide) (by decide) (by decide) (by decide), Fn 7 j jd (by decide) (by decide) (by decide) (by decide)⟩
  have F5p : F 5 p = 4 := (hj p hp pg).1.trans p4
  have F7p : F 7 p = nI o := (hj p hp pg).2.trans p7
  have hq : q_ref n F := by
    refine q_ent h.2.2.2.1 (d := g) (p0 := p) (e0 := e) (fun _ => by rw [g5]; decide) (fun _ => by rw [F5]; decide) (by rw [Fr 4 (by decide) (by decide) (by decide) (by decide) (by decide) (by decide) (by decide) (by decide)]) (by rw [Fr 4 (by decide) (by decide) (by decide) (by decide) (by decide) (by decide) (by decide) (by decide)]; exact h.2.2.2.1.2.2.2.1) (Fr 3 (by decide) (by decide) (by decide) (by decide) (by decide) (by decide) (by decide) (by decide)) (fun i hi id => ⟨(hj i hi id).1, (hj i hi id).2, Fn 9 i id (by decide) (by decide) (by decide) (by decide), Fn 12 i id (by decide) (by decide) (by decide) (by decide), Fn 13 i id (by decide) (by decide) (by decide) (by decide), Fn 27 i id (by decide) (by decide) (by decide) (by decide)⟩) (fun i e' _ id he' ne => FE3 i e' id he' ne) (fun _ q => by rw [g5] at q; exact absurd q (by decide)) (fun p' e' hp' he' p4' ne _ kk q => ?_) (fun g' p' e' hg' gd hp' he' p4' w1 kk q => ?_) (fun _ => ⟨fun _ => ⟨⟨by rw [how]; exact ho, by rw [how]; exact F7, by rw [how, (hj o ho og).1]; exact o2⟩, ⟨⟨by rw [hlg]; exact F12, by omega⟩, ⟨by rw [hbg]; exact F13, by rw [hbg]; exact hP, by rw [hbg, hlg, ← ss]; exact hm⟩, fun q => by omega, fun _ => ⟨p, e, hp, he, F5p, by rw [F7p, F7], by omega, FJ.1, FJ.2.1, by rw [hbg, hbp, hlp]; exact hb.symm⟩⟩, fun e' he' => ⟨Or.inl ⟨(FG e' he').1, (FG e' he').2.1⟩, ?_⟩⟩, fun q => by rw [F5] at q; exact absurd q (by decide), fun q => by rw [F5] at q; exact absurd q (by decide)⟩) (fun _ _ _ _ => ⟨Or.inr (Or.inr ⟨FJ.1, by omega, by rw [htg]; exact hg, by rw [htg]; exact FJ.2.1, by rw [htg]; exact F5, by rw [htg, F7, F7p], by rw [htg, hlg, hlp], by rw [htg, hbg, hbp, hlp]; exact hb.symm, FJ.2.2⟩), ?_⟩)
    · rcases ((hTr.2.1 p' hp' p4').2.2 e' he').1 with ⟨v, -⟩ | ⟨v1, v2, v3, v4, v5⟩ | ⟨v1, v2, v3, v4, v5, -⟩
      · rw [v] at kk; exact absurd kk (by simp)
      · rcases kk with kk | kk
        · rw [v1] at kk; exact absurd kk (by decide)
        · have := (v5 kk.2).1
          rw [q, g5] at this; exact absurd this (by decide)
      · rw [q, g5] at v5; exact absurd v5 (by decide)
    · rcases w1 with w1 | ⟨rfl, rfl⟩
      · rw [w1, g5] at p4'; exact absurd p4' (by decide)
      · rw [j0] at kk; exact absurd kk (by simp)
    · unfold q_rip
      rw [(FG e' he').2.2, hlg, hbg]
      refine ⟨hrp.1, fun q => hrp.2 ?_⟩
      rcases (show L = 0 ∨ L = 1 ∨ L = 2 by omega) with rfl | rfl | rfl
      · rw [show spn 0 = 512 from rfl] at hm; rw [show spn (0 + 1) = 64 from rfl] at q; omega
      · rw [show spn 1 = 64 from rfl] at hm; rw [show spn (1 + 1) = 8 from rfl] at q; omega
      · rw [show spn 2 = 8 from rfl] at hm; rw [show spn (2 + 1) = 1 from rfl] at q; omega
    · unfold q_rip
      rw [FJ.2.2]
      exact ⟨Or.inl rfl, fun _ => rfl⟩
  have cX : ∀ i, i < n → ∀ w' : Int32, w' ≠ 1 → ¬ (w' = 4 ∧ i = o) → cn n F w' i = cn n f w' i := fun i hi w' h1 h2 => cn_off hj (fun q => h1 (by rw [← q.1, g5])) (fun q => h2 ⟨by rw [← q.1, F5], nI_inj (by omega) (by omega) (by rw [← q.2, F7])⟩)
  have cM : cn n F 4 o = cn n f 4 o + 1 := cn_more hg (fun q => by rw [g5] at q; exact absurd q.1 (by decide)) ⟨F5, F7⟩ hj
  obtain ⟨z1, z2, z3, z4, z5, z6, z7, z8, z9, z10⟩ := h.2.2.2.2.2.2.1 o ho o2
  obtain ⟨y1, y2, y3, y4, y5⟩ := (h.2.2.2.2.2.2.2.1 p hp p4).2.2.2 e he
  obtain ⟨t1, t2, t3, t4, t5, t6, t7, t8, t9, t10, t11⟩ := hT
  -- the class's cells
  have GA : G_ g ≤ 10 + 2 * n ∧ Wd g ≤ 10 + 2 * n := by unfold G_ Wd; omega
  have mi : ∀ x k, x ≠ G_ g → x ≠ Wd g → (x ≠ τ p + 2 + e ∨ k ≠ 2) → h_i (mtb N g (ρ o) (τ p + 2 + e) (h_n M + 1) (nI (L + 1))) x k = h_i N x k := fun x k h1 h2 h3 => by
    unfold mtb; rw [I_si, f_s_ne h3, I_sr, I_sr, I_sr, b_i (fun q => h1 q.1) (fun q => h2 q.1)]
  have mr : ∀ x k, ¬ (x = G_ g ∧ (k = 3 ∨ k = 5 ∨ k = 6)) → (x ≠ τ p + 2 + e ∨ (k ≠ 3 ∧ k ≠ 4)) → h_r (mtb N g (ρ o) (τ p + 2 + e) (h_n M + 1) (nI (L + 1))) x k = h_r N x k := fun x k h1 h3 => by
    unfold mtb; rw [Q_si, Q_sr, Q_sr, Q_sr, r_s_ne (by omega), r_s_ne (by omega), r_s_ne (by omega), b_r h1]
  have hv : h_i (mtb N g (ρ o) (τ p + 2 + e) (h_n M + 1) (nI (L + 1))) (ρ o) 6 = h_i M (ρ o) 6 := by
    rw [mi _ 6 (by omega) (by omega) (by omega)]; exact ((t3 _ (by omega)).2.2 6).1
  unfold lyt
  rw [hv]
  have hI : ∀ x k, x ≠ G_ g → x ≠ Wd g → (x ≠ τ p + 2 + e ∨ k ≠ 2) → ¬ (x = ρ o ∧ k = 6) → h_i (h_si (mtb N g (ρ o) (τ p + 2 + e) (h_n M + 1) (nI (L + 1))) (ρ o) 6 (h_i M (ρ o) 6 + 1)) x k = h_i N x k := fun x k h1 h2 h3 h4 => by
    rw [I_si, f_s_ne (by omega), mi x k h1 h2 h3]
  have hR : ∀ x k, ¬ (x = G_ g ∧ (k = 3 ∨ k = 5 ∨ k = 6)) → (x ≠ τ p + 2 + e ∨ (k ≠ 3 ∧ k ≠ 4)) → h_r (h_si (mtb N g (ρ o) (τ p + 2 + e) (h_n M + 1) (nI (L + 1))) (ρ o) 6 (h_i M (ρ o) 6 + 1)) x k = h_r N x k := fun x k h1 h3 => by
    rw [Q_si, mr x k h1 h3]
  have ha : h_r (h_si (mtb N g (ρ o) (τ p + 2 + e) (h_n M + 1) (nI (L + 1))) (ρ o) 6 (h_i M (ρ o) 6 + 1)) (τ p + 2 + e) 3 = G_ g ∧ h_r (h_si (mtb N g (ρ o) (τ p + 2 + e) (h_n M + 1) (nI (L + 1))) (ρ o) 6 (h_i M (ρ o) 6 + 1)) (τ p + 2 + e) 4 = h_n M + 1 ∧ h_i (h_si (mtb N g (ρ o) (τ p + 2 + e) (h_n M + 1) (nI (L + 1))) (ρ o) 6 (h_i M (ρ o) 6 + 1)) (τ p + 2 + e) 2 = 0 := by
    unfold mtb
    rw [Q_si, Q_si, Q_sr, r_s_ne (by omega), Q_sr, r_s_eq, r_s_eq, I_si, f_s_ne (by omega), I_si, f_s_eq]
    exact ⟨rfl, rfl, rfl⟩
  have hzg : h_i (h_si (mtb N g (ρ o) (τ p + 2 + e) (h_n M + 1) (nI (L + 1))) (ρ o) 6 (h_i M (ρ o) 6 + 1)) (G_ g) 0 = nI g ∧ h_i (h_si (mtb N g (ρ o) (τ p + 2 + e) (h_n M + 1) (nI (L + 1))) (ρ o) 6 (h_i M (ρ o) 6 + 1)) (G_ g) 2 = 4 ∧ (∀ k, k < 32 → h_i (h_si (mtb N g (ρ o) (τ p + 2 + e) (h_n M + 1) (nI (L + 1))) (ρ o) 6 (h_i M (ρ o) 6 + 1)) (Wd g) k = 0) ∧ h_r (h_si (mtb N g (ρ o) (τ p + 2 + e) (h_n M + 1) (nI (L + 1))) (ρ o) 6 (h_i M (ρ o) 6 + 1)) (G_ g) 3 = ρ o ∧ h_i (h_si (mtb N g (ρ o) (τ p + 2 + e) (h_n M + 1) (nI (L + 1))) (ρ o) 6 (h_i M (ρ o) 6 + 1)) (G_ g) 4 = nI (L + 1) ∧ h_r (h_si (mtb N g (ρ o) (τ p + 2 + e) (h_n M + 1) (nI (L + 1))) (ρ o) 6 (h_i M (ρ o) 6 + 1)) (G_ g) 5 = 0 ∧ h_r (h_si (mtb N g (ρ o) (τ p + 2 + e) (h_n M + 1) (nI (L + 1))) (ρ o) 6 (h_i M (ρ o) 6 + 1)) (G_ g) 6 = h_n M + 1 := by
    unfold mtb
    simp only [I_si, Q_si, I_sr, Q_sr]
    refine ⟨?_, ?_, fun k hk => ?_, ?_, ?_, ?_, ?_⟩
    · rw [f_s_ne (by omega), f_s_ne (by omega), b_i (by omega) (by unfold G_ Wd; omega)]
      exact (((t3 _ (by omega)).2.2 0).1).trans (h.2.2.2.2.2.1 g hg).1
    · rw [f_s_ne (by omega), f_s_ne (by omega), b_i2]
    · rw [f_s_ne (by omega), f_s_ne (by omega), b_iw hk]
    · rw [r_s_ne (by omega), r_s_ne (by omega), r_s_ne (by omega), b_r3]
    · rw [f_s_ne (by omega), f_s_ne (by omega), b_i4]
    · rw [r_s_ne (by omega), r_s_ne (by omega), r_s_ne (by omega), b_r5]
    · rw [r_s_ne (by omega), r_s_ne (by omega), r_s_eq]
  have hO : h_i (h_si (mtb N g (ρ o) (τ p + 2 + e) (h_n M + 1) (nI (L + 1))) (ρ o) 6 (h_i M (ρ o) 6 + 1)) (ρ o) 6 = h_i M (ρ o) 6 + 1 := by rw [I_si, f_s_eq]
  have hkk : h_k (h_si (mtb N g (ρ o) (τ p + 2 + e) (h_n M + 1) (nI (L + 1))) (ρ o) 6 (h_i M (ρ o) 6 + 1)) = h_k N := rfl
  have hll : h_l (h_si (mtb N g (ρ o) (τ p + 2 + e) (h_n M + 1) (nI (L + 1))) (ρ o) 6 (h_i M (ρ o) 6 + 1)) = h_l N := rfl
  have hn1 : h_n (h_si (mtb N g (ρ o) (τ p + 2 + e) (h_n M + 1) (nI (L + 1))) (ρ o) 6 (h_i M (ρ o) 6 + 1)) = h_n N := rfl
  generalize h_si (mtb N g (ρ o) (τ p + 2 + e) (h_n M + 1) (nI (L + 1))) (ρ o) 6 (h_i M (ρ o) 6 + 1) = M' at hI hR ha hzg hO hkk hll hn1 ⊢
  have nI' : ∀ x k, h_n M < x → h_i M' x k = h_i N x k := fun x k hx => hI x k (by omega) (by omega) (by omega) (by omega)
  have nR' : ∀ x k, h_n M < x → h_r M' x k = h_r N x k := fun x k hx => hR x k (by omega) (by omega)
  refine W_de h (d := g) (o := o) (p := p) (e := e) (τ' := fun j => if j = g then h_n M + 1 else τ j) ho o2 og pg (fun _ => p4) he ?_ (fun x hx => by rw [hkk]; exact (t3 x hx).1) (fun x k hx _ a b q => (hI x k (a hg).1 (a hg).2 (Or.inl (b hp)) (by omega)).trans ((t3 x hx).2.2 k).1) (fun x k hx a b => (hR x k (fun q => a hg q.1) (Or.inl (b hp))).trans ((t3 x hx).2.2 k).2) (fun _ _ _ => rfl) (fun j _ j4 => if_neg (fun q => by rw [q, g5] at j4; exact absurd j4 (by decide))) (fun _ _ _ => rfl) hq (fun _ => by rw [F5]; decide) (Fr 4 (by decide) (by decide) (by decide) (by decide) (by decide) (by decide) (by decide) (by decide)) (fun b i _ id _ _ b6 _ b14 b15 b16 _ _ => Fn b i id b6 b14 b15 b16) (fun i k _ id hk => F6n i k id hk) (fun i k _ _ _ => by rw [Fr 11 (by decide) (by decide) (by decide) (by decide) (by decide) (by decide) (by decide) (by decide)]) (fun i k _ _ _ => by rw [Fr 19 (by decide) (by decide) (by decide) (by decide) (by decide) (by decide) (by decide) (by decide)]) (fun i e' _ id he' ne => FE3 i e' id he' ne) (fun i hi io _ => ⟨cX i hi 3 (by decide) (by omega), cX i hi 4 (by decide) (by omega), cX i hi 5 (by decide) (by omega)⟩) (fun _ q => by rw [g5] at q; exact absurd q (by decide)) (fun _ => ⟨?_, fun _ => ?_, fun q => by rw [F5] at q; exact absurd q (by decide)⟩) (fun _ => ?_) ?_ ?_ ?_ ?_
  · refine BX_al h.1 h.2.1 (by omega) (fun x hx => by rw [hkk]; exact (t3 x hx).1) (fun x hx => by rw [hll]; exact (t3 x hx).2.1) (fun x hx => by rw [hkk]; exact t4 x (by omega)) (fun x k hx _ h2 h3 => (hR x k (fun q => h2 ⟨by rw [q.1]; exact (h.1.2.2.2.2.1 g hg).2.1, by omega⟩) (Or.inl (fun q => h3 (by rw [q]; exact kE)))).trans ((t3 x hx).2.2 k).2) (fun a ha ha2 => ?_)
    rw [hkk]
    by_cases a1 : a = h_n M + 1
    · subst a1
      refine ⟨fun q => by omega, fun _ => ⟨by omega, by omega, (nR' _ 2 (by omega)).trans t8, by rw [hkk]; exact t9, by rw [hll]; exact t10, fun e' he' => ?_⟩, fun q => by omega⟩
      obtain ⟨u1, u2, -⟩ := t11 e' he'
      rw [show h_n M + 1 + 1 = h_n M + 2 by omega, show h_n M + 1 + 2 + e' = h_n M + 3 + e' by omega, nR' _ _ (by omega), hkk]
      exact ⟨u1, u2⟩
    · have k2 : h_k N a = 12 ∨ h_k N a = 2 := by
        rcases (show a = h_n M + 2 ∨ h_n M + 3 ≤ a by omega) with rfl | a3
        · exact Or.inl t9
        · have := (t11 (a - (h_n M + 3)) (by omega)).2.1
          rw [show h_n M + 3 + (a - (h_n M + 3)) = a by omega] at this
          exact Or.inr this
      exact ⟨fun q => by omega, fun q => by omega, fun q => by omega⟩
  · refine ⟨hzg.1, by rw [F5]; exact hzg.2.1, fun k hk => by rw [hzg.2.2.1 k hk, F6 k hk], Or.inr (Or.inr (Or.inr (Or.inl ⟨F5, ?_, ?_, hzg.2.2.2.2.2.1, ?_⟩)))⟩
    · rw [how]; exact hzg.2.2.2.1
    · rw [F12]; exact hzg.2.2.2.2.1
    · show h_r M' (G_ g) 6 = if g = g then h_n M + 1 else τ g
      rw [if_pos rfl]; exact hzg.2.2.2.2.2.2
  · unfold z_t
    simp only [if_true]
    rw [hkk, nR' _ 0 (by omega), nI' _ 1 (by omega), F12]
    refine ⟨t5, t6, t7, fun e' he' => ?_⟩
    obtain ⟨u1, u2, u3, u4, u5, u6, u7⟩ := t11 e' he'
    unfold z_e
    simp only [if_true]
    rw [show h_n M + 1 + 2 + e' = h_n M + 3 + e' by omega, nI' _ 0 (by omega), nI' _ 1 (by omega), nI' _ 2 (by omega), nR' _ 3 (by omega), nR' _ 4 (by omega), (FG e' he').1, (FG e' he').2.2, F12, hbg, hlg, if_pos rfl, if_neg (by decide)]
    exact ⟨u3, u4, u5, u6, u7⟩
  · unfold z_e
    simp only [pg, if_false]
    rw [hI _ 0 (by omega) (by omega) (by omega) (by omega), hI _ 1 (by omega) (by omega) (by omega) (by omega), ha.1, ha.2.1, ha.2.2, FJ.1, FJ.2.2, htg, Fn 12 p pg (by decide) (by decide) (by decide) (by decide), hlp, hbp, if_neg (by decide), if_pos rfl, if_pos rfl, ((t3 _ (by omega)).2.2 0).1, ((t3 _ (by omega)).2.2 1).1]
    rw [hl] at y2
    exact ⟨y1, y2, rfl, rfl, rfl⟩
  · rw [hI _ 4 (by omega) (by omega) (by omega) (by omega), ((t3 _ (by omega)).2.2 4).1, cX o ho 3 (by decide) (by simp)]; exact z6
  · rw [hI _ 5 (by omega) (by omega) (by omega) (by omega), ((t3 _ (by omega)).2.2 5).1, Fn 10 o og (by decide) (by decide) (by decide) (by decide)]; exact z7
  · rw [hO, z8, cM, nI_1]
  · rw [hI _ 7 (by omega) (by omega) (by omega) (by omega), ((t3 _ (by omega)).2.2 7).1, cX o ho 5 (by decide) (by simp)]; exact z9
end E
