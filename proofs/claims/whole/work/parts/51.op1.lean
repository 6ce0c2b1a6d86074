/-! more small methods; how a call ends; leaves, reaches, exits -/
theorem z10 : ((1 : Int32) = 0) = False := eq_false (by decide)
theorem z20 : ((2 : Int32) = 0) = False := eq_false (by decide)
theorem z30 : ((3 : Int32) = 0) = False := eq_false (by decide)
theorem z40 : ((4 : Int32) = 0) = False := eq_false (by decide)
theorem z50 : ((5 : Int32) = 0) = False := eq_false (by decide)
theorem z01 : ((0 : Int32) = 1) = False := eq_false (by decide)
theorem zm0 : ((-1 : Int32) = 0) = False := eq_false (by decide)
theorem zm1 : ((-1 : Int32) = 1) = False := eq_false (by decide)
theorem C_bit0 {M : mM} : ev 89 0 [some (.inl 0)] [] M = some (some (.inl 0), M) := by rw [e_89_0, if_pos rfl, e_89_5]
theorem C_bit1 {M : mM} : ev 89 0 [some (.inl 1)] [] M = some (some (.inl 1), M) := by rw [e_89_0, if_neg (by decide), e_89_5]
theorem C_fault {M : mM} (h : h_k M 4 = 7) : ev 77 0 [some (.inr 4)] [] M = some (some (.inl 1), h_si (h_si M 4 6 (h_i M 4 6 + 1)) 4 4 0) := by
  simp only [e_77_0, c_I, c_R, c_V, if_true, if_false, true_and, and_true, true_or, or_true, List.length_nil, List.length_cons, Nat.zero_le, k_si, l_si, r_si, k_sr, l_sr, i_sr, n_si, ar_si, ar_sr, ar_0, h, rc7 h, C_done (show h_k (h_si M 4 6 (h_i M 4 6 + 1)) 4 = 7 from h)]
theorem R_fault {f : Nat → Nat → Int32} : ev 158 0 [some (.inr 4)] [] (mkR f) = some (some (.inl 1), mkR (f_s f 4 4 (f 4 4 + 1))) := by
  simp only [e_158_0, kR1, kR2, kR3, kR4, kR5, kR6, kR7, kR8, kR9, kR10, kR11, kR12, kR13, kR14, kR15, kR16, kR17, kR18, kR19, kR20, kR21, kR22, kR23, kR24, kR25, kR26, kR27, kR28, kR29, kR30, lR1, lR2, lR3, lR4, lR5, lR6, lR7, lR8, lR9, lR10, lR11, lR12, lR13, lR14, lR15, lR16, lR17, lR18, lR19, lR20, lR21, lR22, lR23, lR24, lR25, lR26, lR27, lR28, lR29, lR30, rR5, rR6, rR7, rR8, rR9, rR10, rR11, rR12, rR13, rR14, rR15, rR16, rR17, rR18, rR19, rR20, rR21, rR22, rR23, rR24, rR25, rR26, rR27, rR28, rR29, rR30, R_i, R_si, R_rec, if_true, if_false, true_and, and_true, true_or, or_true, List.length_nil, List.length_cons, Nat.zero_le, c_I, c_R, c_V]
theorem R_idle1 {f : Nat → Nat → Int32} (h : f 4 2 = -1) : ev 157 0 [some (.inr 4)] [] (mkR f) = some (some (.inl 1), mkR (f_s f 4 1 4)) := by
  simp only [e_157_0, e_157_8, e_157_16, kR1, kR2, kR3, kR4, kR5, kR6, kR7, kR8, kR9, kR10, kR11, kR12, kR13, kR14, kR15, kR16, kR17, kR18, kR19, kR20, kR21, kR22, kR23, kR24, kR25, kR26, kR27, kR28, kR29, kR30, lR1, lR2, lR3, lR4, lR5, lR6, lR7, lR8, lR9, lR10, lR11, lR12, lR13, lR14, lR15, lR16, lR17, lR18, lR19, lR20, lR21, lR22, lR23, lR24, lR25, lR26, lR27, lR28, lR29, lR30, rR5, rR6, rR7, rR8, rR9, rR10, rR11, rR12, rR13, rR14, rR15, rR16, rR17, rR18, rR19, rR20, rR21, rR22, rR23, rR24, rR25, rR26, rR27, rR28, rR29, rR30, R_i, R_si, R_rec, if_true, if_false, true_and, and_true, true_or, or_true, List.length_nil, List.length_cons, Nat.zero_le, c_I, c_R, c_V, h, f_s_ne (show (4 : Nat) ≠ 4 ∨ (2 : Nat) ≠ 1 from by decide)]
theorem R_idle0 {f : Nat → Nat → Int32} (h : ¬ f 4 2 = -1) : ev 157 0 [some (.inr 4)] [] (mkR f) = some (some (.inl 0), mkR (f_s f 4 1 0)) := by
  simp only [e_157_0, e_157_8, e_157_16, kR1, kR2, kR3, kR4, kR5, kR6, kR7, kR8, kR9, kR10, kR11, kR12, kR13, kR14, kR15, kR16, kR17, kR18, kR19, kR20, kR21, kR22, kR23, kR24, kR25, kR26, kR27, kR28, kR29, kR30, lR1, lR2, lR3, lR4, lR5, lR6, lR7, lR8, lR9, lR10, lR11, lR12, lR13, lR14, lR15, lR16, lR17, lR18, lR19, lR20, lR21, lR22, lR23, lR24, lR25, lR26, lR27, lR28, lR29, lR30, rR5, rR6, rR7, rR8, rR9, rR10, rR11, rR12, rR13, rR14, rR15, rR16, rR17, rR18, rR19, rR20, rR21, rR22, rR23, rR24, rR25, rR26, rR27, rR28, rR29, rR30, R_i, R_si, R_rec, if_true, if_false, true_and, and_true, true_or, or_true, List.length_nil, List.length_cons, Nat.zero_le, c_I, c_R, c_V, h, f_s_ne (show (4 : Nat) ≠ 4 ∨ (2 : Nat) ≠ 1 from by decide)]
theorem f4c {f : Nat → Nat → Int32} {a k : Nat} {x y : Int32} (h : a ≠ 4) : f_s (f_s f 4 1 y) a k x = f_s (f_s f a k x) 4 1 y := by
  funext b j
  unfold f_s
  by_cases h1 : b = a ∧ j = k
  · rw [if_pos h1, if_neg (by omega), if_pos h1]
  · rw [if_neg h1, if_neg h1]
theorem f4k {f : Nat → Nat → Int32} {k : Nat} {x y : Int32} (h : k ≠ 1) : f_s (f_s f 4 1 y) 4 k x = f_s (f_s f 4 k x) 4 1 y := by
  funext b j
  unfold f_s
  by_cases h1 : b = 4 ∧ j = k
  · rw [if_pos h1, if_neg (by omega), if_pos h1]
  · rw [if_neg h1, if_neg h1]
theorem f4n {f : Nat → Nat → Int32} {k j : Nat} {y : Int32} (h : j ≠ k) : f_s f 4 k y 4 j = f 4 j := f_s_ne (Or.inr h)
theorem ix2 (x : Int32) {N : Nat} (h : N < 2 ^ 31) : (x < 0 ∨ nI N ≤ x) ∨ ∃ g, g < N ∧ x = nI g := by
  rcases pk_ix x h with q | q | q
  · exact Or.inl (Or.inl q)
  · exact Or.inl (Or.inr q)
  · exact Or.inr q
theorem ix3 (x : Int32) (N : Nat) (h0 : 0 < N) (hN : N < 2 ^ 31) : (x < 0 ∧ ¬ 0 ≤ x) ∨ (nI N ≤ x ∧ ¬ x < 0 ∧ 0 ≤ x ∧ ¬ x ≤ nI (N - 1) ∧ ¬ x < nI N ∧ nI (N - 1) < x) ∨ ∃ w, w < N ∧ x = nI w ∧ ¬ nI w < 0 ∧ 0 ≤ nI w ∧ ¬ nI N ≤ nI w ∧ nI w ≤ nI (N - 1) ∧ nI w < nI N ∧ ¬ nI (N - 1) < nI w := by
  rcases pk_ix x hN with q | q | ⟨w, hw, rfl⟩
  · refine Or.inl ⟨q, fun q2 => ?_⟩
    rw [Int32.lt_iff_toInt_lt] at q
    rw [Int32.le_iff_toInt_le] at q2
    omega
  · refine Or.inr (Or.inl ?_)
    have e1 := nI_toInt hN
    have e2 := nI_toInt (show N - 1 < 2 ^ 31 by omega)
    have e3 : (0 : Int32).toInt = 0 := rfl
    simp only [Int32.lt_iff_toInt_lt, Int32.le_iff_toInt_le, e1, e2, e3] at q ⊢
    omega
  · exact Or.inr (Or.inr ⟨w, hw, rfl, nI_pos (by omega), nI_pos' (by omega), nI_ge hw hN, nI_le (by omega) (by omega), nI_lt hw hN, nI_nlt (by omega) (by omega)⟩)
theorem ix32 (x : Int32) : (x < 0 ∧ ¬ 0 ≤ x) ∨ (32 ≤ x ∧ ¬ x < 0 ∧ 0 ≤ x ∧ ¬ x ≤ 31 ∧ ¬ x < 32 ∧ 31 < x) ∨ ∃ w, w < 32 ∧ x = nI w ∧ ¬ nI w < 0 ∧ 0 ≤ nI w ∧ ¬ 32 ≤ nI w ∧ nI w ≤ 31 ∧ nI w < 32 ∧ ¬ 31 < nI w := ix3 x 32 (by decide) (by decide)
theorem ix8 (x : Int32) : (x < 0 ∧ ¬ 0 ≤ x) ∨ (8 ≤ x ∧ ¬ x < 0 ∧ 0 ≤ x ∧ ¬ x ≤ 7 ∧ ¬ x < 8 ∧ 7 < x) ∨ ∃ w, w < 8 ∧ x = nI w ∧ ¬ nI w < 0 ∧ 0 ≤ nI w ∧ ¬ 8 ≤ nI w ∧ nI w ≤ 7 ∧ nI w < 8 ∧ ¬ 7 < nI w := ix3 x 8 (by decide) (by decide)
theorem ix5 (x : Int32) : (x < 0 ∧ ¬ 0 ≤ x) ∨ (5 ≤ x ∧ ¬ x < 0 ∧ 0 ≤ x ∧ ¬ x ≤ 4 ∧ ¬ x < 5 ∧ 4 < x) ∨ ∃ w, w < 5 ∧ x = nI w ∧ ¬ nI w < 0 ∧ 0 ≤ nI w ∧ ¬ 5 ≤ nI w ∧ nI w ≤ 4 ∧ nI w < 5 ∧ ¬ 4 < nI w := ix3 x 5 (by decide) (by decide)
theorem ix4 (x : Int32) : (x < 0 ∧ ¬ 0 ≤ x) ∨ (4 ≤ x ∧ ¬ x < 0 ∧ 0 ≤ x ∧ ¬ x ≤ 3 ∧ ¬ x < 4 ∧ 3 < x) ∨ ∃ w, w < 4 ∧ x = nI w ∧ ¬ nI w < 0 ∧ 0 ≤ nI w ∧ ¬ 4 ≤ nI w ∧ nI w ≤ 3 ∧ nI w < 4 ∧ ¬ 3 < nI w := ix3 x 4 (by decide) (by decide)
theorem ix4096 (x : Int32) : (x < 0 ∧ ¬ 0 ≤ x) ∨ (4096 ≤ x ∧ ¬ x < 0 ∧ 0 ≤ x ∧ ¬ x ≤ 4095 ∧ ¬ x < 4096 ∧ 4095 < x) ∨ ∃ w, w < 4096 ∧ x = nI w ∧ ¬ nI w < 0 ∧ 0 ≤ nI w ∧ ¬ 4096 ≤ nI w ∧ nI w ≤ 4095 ∧ nI w < 4096 ∧ ¬ 4095 < nI w := ix3 x 4096 (by decide) (by decide)
theorem ix2048 (x : Int32) : (x < 0 ∧ ¬ 0 ≤ x) ∨ (2048 ≤ x ∧ ¬ x < 0 ∧ 0 ≤ x ∧ ¬ x ≤ 2047 ∧ ¬ x < 2048 ∧ 2047 < x) ∨ ∃ w, w < 2048 ∧ x = nI w ∧ ¬ nI w < 0 ∧ 0 ≤ nI w ∧ ¬ 2048 ≤ nI w ∧ nI w ≤ 2047 ∧ nI w < 2048 ∧ ¬ 2047 < nI w := ix3 x 2048 (by decide) (by decide)
section OP
variable {n : Nat} {M : mM} {f : Nat → Nat → Int32} {ρ τ κ : Nat → Nat}
theorem ρ_ne (h : Rel n M f ρ τ κ) {g : Nat} (hg : g < n) (h2 : f 5 g = 2) : ¬ ρ g = 0 := fun e => by have := (at_d h hg h2).1; omega
theorem κ_ne (h : Rel n M f ρ τ κ) {g : Nat} (hg : g < n) (h2 : f 5 g = 3) : ¬ κ g = 0 := fun e => by have := (at_c h hg h2).1; omega
theorem τ_ne (h : Rel n M f ρ τ κ) {g : Nat} (hg : g < n) (h2 : f 5 g = 4) : ¬ τ g = 0 := fun e => by have := (at_t h hg h2).1; omega
theorem G_ne (g : Nat) : ¬ G_ g = 0 := by unfold G_; omega
theorem C_own1 (h : Rel n M f ρ τ κ) {g : Nat} (hg : g < n) (h2 : f 5 g = 2) : ev 20 0 [some (.inr (G_ g))] [] M = some (some (.inr (ρ g)), M) := by
  obtain ⟨g1, g2, g3, g4, g5⟩ := h.1.2.2.2.2.1 g hg
  obtain ⟨z1, z2, z3, z4⟩ := h.2.2.2.2.2.1 g hg
  have z5 : h_r M (G_ g) 3 = ρ g := by
    rcases z4 with ⟨w | w, -⟩ | ⟨-, w, -⟩ | ⟨w, -⟩ | ⟨w, -⟩ | ⟨w, -⟩
    · rw [h2] at w; exact absurd w (by decide)
    · rw [h2] at w; exact absurd w (by decide)
    · exact w
    · rw [h2] at w; exact absurd w (by decide)
    · rw [h2] at w; exact absurd w (by decide)
    · rw [h2] at w; exact absurd w (by decide)
  simp only [e_20_0, e_20_8, g2, z2, h2, z5, if_true]
theorem C_own0 (h : Rel n M f ρ τ κ) {g : Nat} (hg : g < n) (h2 : ¬ f 5 g = 2) : ev 20 0 [some (.inr (G_ g))] [] M = some (some (.inr 0), M) := by
  obtain ⟨g1, g2, g3, g4, g5⟩ := h.1.2.2.2.2.1 g hg
  obtain ⟨z1, z2, z3, z4⟩ := h.2.2.2.2.2.1 g hg
  simp only [e_20_0, e_20_8, g2, z2, h2, if_true, if_false]
theorem U_fault (h : Rel n M f ρ τ κ) : Rel n (h_si (h_si M 4 6 (h_i M 4 6 + 1)) 4 4 0) (f_s (f_s f 4 4 (f 4 4 + 1)) 4 1 0) ρ τ κ := by
  have e := h.2.2.2.2.1.2.2.1
  rw [e]
  exact U_status (U_faults h _) 0
end OP
