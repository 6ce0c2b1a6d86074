/-! THE CLASS: its small methods; the first pairs -/
theorem ar_si (M : mM) (a k : Nat) (x : Int32) (q : Nat) (as : List mV) : a_rec (h_si M a k x) q as = a_rec M q as := rfl
theorem ar_sr (M : mM) (a k r : Nat) (q : Nat) (as : List mV) : a_rec (h_sr M a k r) q as = a_rec M q as := rfl
theorem ar_0 (M : mM) (as : List mV) : a_rec M 0 as = true := rfl
theorem rc7 {M : mM} (h : h_k M 4 = 7) (as : List mV) : a_rec M 7 (.inr 4 :: as) = true := a_rec1 (q := 6) h
theorem rc3 {M : mM} {a : Nat} (h : h_k M a = 3) (as : List mV) : a_rec M 3 (.inr a :: as) = true := a_rec1 (q := 2) h
theorem si_U (M : mM) (a k : Nat) (x : Int32) : h_si M a k x = mkU M (f_s (h_i M) a k x) := rfl
theorem C_none {M : mM} (h : h_k M 4 = 7) (x : Int32) : ev 75 0 [some (.inr 4), some (.inl x)] [] M = some (some (.inl (-1)), h_si M 4 4 x) := by rw [e_75_0, if_pos h]
theorem C_no {M : mM} (h : h_k M 4 = 7) (x : Int32) : ev 76 0 [some (.inr 4), some (.inl x)] [] M = some (some (.inl 0), h_si M 4 4 x) := by rw [e_76_0, if_pos h]
theorem C_done {M : mM} (h : h_k M 4 = 7) (x : Int32) : ev 73 0 [some (.inr 4), some (.inl x)] [] M = some (some (.inl x), h_si M 4 4 0) := by rw [e_73_0, if_pos h]
theorem C_yes {M : mM} (h : h_k M 4 = 7) : ev 74 0 [some (.inr 4)] [] M = some (some (.inl 1), h_si M 4 4 0) := by rw [e_74_0, if_pos h]
theorem C_at0 {n : Nat} {M : mM} (hB : B_sh n M) {x : Int32} (h : x < 0 ∨ nI n ≤ x) : ev 79 0 [some (.inr 4), some (.inl x)] [] M = some (some (.inr 0), M) := by
  obtain ⟨-, ⟨s1, s2, -, -⟩, -, ⟨s3, s4⟩, -⟩ := hB
  rw [e_79_0, e_79_12, e_79_13]
  by_cases h1 : x < 0
  · rw [if_pos h1]
  · have h2 : Int32.ofNat n ≤ x := h.resolve_left h1
    simp only [h1, s1, s2, s3, s4, h2, if_true, if_false]
    rfl
theorem C_at1 {n : Nat} {M : mM} (hB : B_sh n M) (hN : n ≤ 96) {g : Nat} (hg : g < n) : ev 79 0 [some (.inr 4), some (.inl (nI g))] [] M = some (some (.inr (G_ g)), M) := by
  obtain ⟨-, ⟨s1, s2, -, -⟩, -, ⟨s3, s4⟩, s5, -⟩ := hB
  have h1 := nI_pos (n := g) (by omega)
  have h2 : ¬ Int32.ofNat n ≤ nI g := nI_ge hg (by omega)
  rw [e_79_0, e_79_13]
  simp only [h1, s1, s2, s3, s4, h2, if_true, if_false, true_and, true_or, i_t hg (show n < 2 ^ 31 by omega), i_c (show g < 2 ^ 31 by omega), (s5 g hg).1]
  rfl
theorem C_isWord0 {M : mM} {x : Int32} (h : x < 0 ∨ nI 32 ≤ x) : ev 80 0 [some (.inl x)] [] M = some (some (.inl 0), M) := by
  simp only [e_80_0, e_80_7, e_80_8]
  by_cases h1 : x < 0
  · simp [h1]
  · have := h.resolve_left h1
    rw [show nI 32 = (32 : Int32) from rfl] at this
    simp [h1, this]
theorem C_isWord1 {M : mM} {k : Nat} (h : k < 32) : ev 80 0 [some (.inl (nI k))] [] M = some (some (.inl 1), M) := by
  have h1 := nI_pos (n := k) (by omega)
  have h2 := n_l (N := 32) (k := k) 32 rfl h (by decide)
  simp only [e_80_0, e_80_8, h1, h2, if_false, or_true, if_true]
theorem C_isReg0 {M : mM} {x : Int32} (h : x < 0 ∨ nI 8 ≤ x) : ev 81 0 [some (.inl x)] [] M = some (some (.inl 0), M) := by
  simp only [e_81_0, e_81_7, e_81_8]
  by_cases h1 : x < 0
  · simp [h1]
  · have := h.resolve_left h1
    rw [show nI 8 = (8 : Int32) from rfl] at this
    simp [h1, this]
theorem C_isReg1 {M : mM} {k : Nat} (h : k < 8) : ev 81 0 [some (.inl (nI k))] [] M = some (some (.inl 1), M) := by
  have h1 := nI_pos (n := k) (by omega)
  have h2 := n_l (N := 8) (k := k) 8 rfl h (by decide)
  simp only [e_81_0, e_81_8, h1, h2, if_false, or_true, if_true]
theorem C_isMeas0 {M : mM} {x : Int32} (h : x < 0 ∨ nI 5 ≤ x) : ev 82 0 [some (.inl x)] [] M = some (some (.inl 0), M) := by
  simp only [e_82_0, e_82_7, e_82_8]
  by_cases h1 : x < 0
  · simp [h1]
  · have := h.resolve_left h1
    rw [show nI 5 = (5 : Int32) from rfl] at this
    simp [h1, this]
theorem C_isMeas1 {M : mM} {k : Nat} (h : k < 5) : ev 82 0 [some (.inl (nI k))] [] M = some (some (.inl 1), M) := by
  have h1 := nI_pos (n := k) (by omega)
  have h2 := n_l (N := 5) (k := k) 5 rfl h (by decide)
  simp only [e_82_0, e_82_8, h1, h2, if_false, or_true, if_true]
theorem C_isPage0 {M : mM} {x : Int32} (h : x < 0 ∨ nI 4096 ≤ x) : ev 83 0 [some (.inl x)] [] M = some (some (.inl 0), M) := by
  simp only [e_83_0, e_83_7, e_83_8]
  by_cases h1 : x < 0
  · simp [h1]
  · have := h.resolve_left h1
    rw [show nI 4096 = (4096 : Int32) from rfl] at this
    simp [h1, this]
theorem C_isPage1 {M : mM} {k : Nat} (h : k < 4096) : ev 83 0 [some (.inl (nI k))] [] M = some (some (.inl 1), M) := by
  have h1 := nI_pos (n := k) (by omega)
  have h2 := n_l (N := 4096) (k := k) 4096 rfl h (by decide)
  simp only [e_83_0, e_83_8, h1, h2, if_false, or_true, if_true]
theorem C_isProt0 {M : mM} {x : Int32} (h : x < 0 ∨ nI 2048 ≤ x) : ev 84 0 [some (.inl x)] [] M = some (some (.inl 0), M) := by
  simp only [e_84_0, e_84_7, e_84_8]
  by_cases h1 : x < 0
  · simp [h1]
  · have := h.resolve_left h1
    rw [show nI 2048 = (2048 : Int32) from rfl] at this
    simp [h1, this]
theorem C_isProt1 {M : mM} {k : Nat} (h : k < 2048) : ev 84 0 [some (.inl (nI k))] [] M = some (some (.inl 1), M) := by
  have h1 := nI_pos (n := k) (by omega)
  have h2 := n_l (N := 2048) (k := k) 2048 rfl h (by decide)
  simp only [e_84_0, e_84_8, h1, h2, if_false, or_true, if_true]
/-- an op answers alike on both sides, and keeps the relation -/
def OK2 (n : Nat) (M : mM) (oc orf : Option mR) : Prop := ∃ (v : Int32) (M' : mM) (f' : Nat → Nat → Int32) (ρ' τ' κ' : Nat → Nat), oc = some (some (.inl v), M') ∧ orf = some (some (.inl v), mkR f') ∧ Rel n M' f' ρ' τ' κ' ∧ h_n M' ≤ h_n M + 18 ∧ h_v M' ≤ h_v M + 200
theorem OK2.of {n : Nat} {M M' : mM} {f' : Nat → Nat → Int32} {ρ τ κ : Nat → Nat} {oc orf : Option mR} {v : Int32} (h1 : oc = some (some (.inl v), M')) (h2 : orf = some (some (.inl v), mkR f')) (h3 : Rel n M' f' ρ τ κ) (h4 : h_n M' = h_n M) (h5 : h_v M' = h_v M) : OK2 n M oc orf := ⟨v, M', f', ρ, τ, κ, h1, h2, h3, by omega, by omega⟩
section OP
variable {n : Nat} {M : mM} {f : Nat → Nat → Int32} {ρ τ κ : Nat → Nat}
theorem op_status (h : Rel n M f ρ τ κ) : OK2 n M (ev 71 0 [some (.inr 4)] [] M) (ev 181 0 [some (.inr 4)] [] (mkR f)) := by
  have s1 := h.1.2.1.1
  refine OK2.of (v := f 4 1) (M' := M) (f' := f) ?_ ?_ h rfl rfl
  · rw [e_71_0, if_pos s1, h.2.2.2.2.1.1]
  · simp only [e_181_0, kR1, kR2, kR3, kR4, kR5, kR6, kR7, kR8, kR9, kR10, kR11, kR12, kR13, kR14, kR15, kR16, kR17, kR18, kR19, kR20, kR21, kR22, kR23, kR24, kR25, kR26, kR27, kR28, kR29, kR30, lR1, lR2, lR3, lR4, lR5, lR6, lR7, lR8, lR9, lR10, lR11, lR12, lR13, lR14, lR15, lR16, lR17, lR18, lR19, lR20, lR21, lR22, lR23, lR24, lR25, lR26, lR27, lR28, lR29, lR30, rR5, rR6, rR7, rR8, rR9, rR10, rR11, rR12, rR13, rR14, rR15, rR16, rR17, rR18, rR19, rR20, rR21, rR22, rR23, rR24, rR25, rR26, rR27, rR28, rR29, rR30, R_i, R_si, R_rec, if_true, if_false, true_and, and_true, true_or, or_true, List.length_nil, List.length_cons, Nat.zero_le, c_I, c_R, c_V]
theorem op_load (h : Rel n M f ρ τ κ) (x y : Int32) : OK2 n M (ev 34 0 [some (.inr 4), some (.inl x), some (.inl y), none] [] M) (ev 127 0 [some (.inr 4), some (.inl x), some (.inl y)] [] (mkR f)) := by
  have hB := h.1
  have s1 := h.1.2.1.1
  have hn := h.2.2.2.1.1
  have hN := h.2.2.2.1.2.2.1
  have bad : ((x < 0 ∨ nI n ≤ x) ∨ (y < 0 ∨ nI 32 ≤ y)) → OK2 n M (ev 34 0 [some (.inr 4), some (.inl x), some (.inl y), none] [] M) (ev 127 0 [some (.inr 4), some (.inl x), some (.inl y)] [] (mkR f)) := by
    intro hb
    refine OK2.of (v := -1) (M' := h_si M 4 4 1) (f' := f_s f 4 1 1) ?_ ?_ (U_status h 1) rfl rfl
    · by_cases hx : x < 0 ∨ nI n ≤ x
      · simp only [e_34_0, e_34_9, c_I, c_R, c_V, if_true, if_false, true_and, and_true, true_or, or_true, List.length_nil, List.length_cons, Nat.zero_le, k_si, l_si, r_si, k_sr, l_sr, i_sr, n_si, ar_si, ar_sr, ar_0, rc7 s1, C_at0 hB hx, C_none s1]
      · obtain ⟨g, hg, rfl⟩ := (pk_ix x (show n < 2 ^ 31 by omega)).resolve_left (fun q => hx (Or.inl q)) |>.resolve_left (fun q => hx (Or.inr q))
        have hy := hb.resolve_left hx
        simp only [e_34_0, e_34_9, c_I, c_R, c_V, if_true, if_false, true_and, and_true, true_or, or_true, List.length_nil, List.length_cons, Nat.zero_le, k_si, l_si, r_si, k_sr, l_sr, i_sr, n_si, ar_si, ar_sr, ar_0, rc7 s1, C_at1 hB hN hg, show ¬ G_ g = 0 from by unfold G_; omega, C_isWord0 hy, C_none s1]
    · by_cases hx : x < 0 ∨ nI n ≤ x
      · simp only [e_127_0, e_127_9, kR1, kR2, kR3, kR4, kR5, kR6, kR7, kR8, kR9, kR10, kR11, kR12, kR13, kR14, kR15, kR16, kR17, kR18, kR19, kR20, kR21, kR22, kR23, kR24, kR25, kR26, kR27, kR28, kR29, kR30, lR1, lR2, lR3, lR4, lR5, lR6, lR7, lR8, lR9, lR10, lR11, lR12, lR13, lR14, lR15, lR16, lR17, lR18, lR19, lR20, lR21, lR22, lR23, lR24, lR25, lR26, lR27, lR28, lR29, lR30, rR5, rR6, rR7, rR8, rR9, rR10, rR11, rR12, rR13, rR14, rR15, rR16, rR17, rR18, rR19, rR20, rR21, rR22, rR23, rR24, rR25, rR26, rR27, rR28, rR29, rR30, R_i, R_si, R_rec, if_true, if_false, true_and, and_true, true_or, or_true, List.length_nil, List.length_cons, Nat.zero_le, c_I, c_R, c_V, R_isG0 hn hx]
      · obtain ⟨g, hg, rfl⟩ := (pk_ix x (show n < 2 ^ 31 by omega)).resolve_left (fun q => hx (Or.inl q)) |>.resolve_left (fun q => hx (Or.inr q))
        have hy := hb.resolve_left hx
        simp only [e_127_0, e_127_9, kR1, kR2, kR3, kR4, kR5, kR6, kR7, kR8, kR9, kR10, kR11, kR12, kR13, kR14, kR15, kR16, kR17, kR18, kR19, kR20, kR21, kR22, kR23, kR24, kR25, kR26, kR27, kR28, kR29, kR30, lR1, lR2, lR3, lR4, lR5, lR6, lR7, lR8, lR9, lR10, lR11, lR12, lR13, lR14, lR15, lR16, lR17, lR18, lR19, lR20, lR21, lR22, lR23, lR24, lR25, lR26, lR27, lR28, lR29, lR30, rR5, rR6, rR7, rR8, rR9, rR10, rR11, rR12, rR13, rR14, rR15, rR16, rR17, rR18, rR19, rR20, rR21, rR22, rR23, rR24, rR25, rR26, rR27, rR28, rR29, rR30, R_i, R_si, R_rec, if_true, if_false, true_and, and_true, true_or, or_true, List.length_nil, List.length_cons, Nat.zero_le, c_I, c_R, c_V, R_isG1 hn hg (by omega), show ¬ (1 : Int32) = 0 from by decide]
        by_cases hy1 : y < 0
        · simp only [hy1, if_true]
        · have hy2 := hy.resolve_left hy1
          have hy3 : ¬ y ≤ 31 := fun q => by
            rw [Int32.le_iff_toInt_le] at hy2 q
            have e1 : (nI 32).toInt = 32 := rfl
            have e2 : (31 : Int32).toInt = 31 := rfl
            omega
          simp only [hy1, hy3, if_false]
  rcases pk_ix x (show n < 2 ^ 31 by omega) with hx | hx | ⟨g, hg, rfl⟩
  · exact bad (Or.inl (Or.inl hx))
  · exact bad (Or.inl (Or.inr hx))
  · rcases pk_ix y (show 32 < 2 ^ 31 by decide) with hy | hy | ⟨w, hw, rfl⟩
    · exact bad (Or.inr (Or.inl hy))
    · exact bad (Or.inr (Or.inr hy))
    · obtain ⟨g1, g2, g3, g4, g5⟩ := hB.2.2.2.2.1 g hg
      obtain ⟨z1, z2, z3, -⟩ := h.2.2.2.2.2.1 g hg
      have k1 := nI_pos (n := w) (by omega)
      have k2 : nI w ≤ 31 := by rw [show (31 : Int32) = nI 31 from rfl]; exact nI_le (by omega) (by decide)
      by_cases hs : f 5 g = 0
      · refine OK2.of (v := f 6 (32 * g + w)) (M' := h_si M 4 4 0) (f' := f_s f 4 1 0) ?_ ?_ (U_status h 0) rfl rfl
        · simp only [e_34_0, c_I, c_R, c_V, if_true, if_false, true_and, and_true, true_or, or_true, List.length_nil, List.length_cons, Nat.zero_le, k_si, l_si, r_si, k_sr, l_sr, i_sr, n_si, ar_si, ar_sr, ar_0, rc7 s1, C_at1 hB hN hg, show ¬ G_ g = 0 from by unfold G_; omega, C_isWord1 hw, show ¬ (1 : Int32) = 0 from by decide, g2, z2, hs, g3, g4, g5, i_t hw (N := 32) (by decide), i_c (show w < 2 ^ 31 by omega), z3 w hw, C_done s1]
        · simp only [e_127_0, kR1, kR2, kR3, kR4, kR5, kR6, kR7, kR8, kR9, kR10, kR11, kR12, kR13, kR14, kR15, kR16, kR17, kR18, kR19, kR20, kR21, kR22, kR23, kR24, kR25, kR26, kR27, kR28, kR29, kR30, lR1, lR2, lR3, lR4, lR5, lR6, lR7, lR8, lR9, lR10, lR11, lR12, lR13, lR14, lR15, lR16, lR17, lR18, lR19, lR20, lR21, lR22, lR23, lR24, lR25, lR26, lR27, lR28, lR29, lR30, rR5, rR6, rR7, rR8, rR9, rR10, rR11, rR12, rR13, rR14, rR15, rR16, rR17, rR18, rR19, rR20, rR21, rR22, rR23, rR24, rR25, rR26, rR27, rR28, rR29, rR30, R_i, R_si, R_rec, if_true, if_false, true_and, and_true, true_or, or_true, List.length_nil, List.length_cons, Nat.zero_le, c_I, c_R, c_V, R_isG1 hn hg (by omega), show ¬ (1 : Int32) = 0 from by decide, k1, k2, R_is (show g < 96 by omega), hs, n32, i_t (show 32 * g + w < 3072 by omega) (by decide), i_c (show 32 * g + w < 2 ^ 31 by omega)]
          rfl
      · refine OK2.of (v := -1) (M' := h_si M 4 4 2) (f' := f_s f 4 1 2) ?_ ?_ (U_status h 2) rfl rfl
        · simp only [e_34_0, c_I, c_R, c_V, if_true, if_false, true_and, and_true, true_or, or_true, List.length_nil, List.length_cons, Nat.zero_le, k_si, l_si, r_si, k_sr, l_sr, i_sr, n_si, ar_si, ar_sr, ar_0, rc7 s1, C_at1 hB hN hg, show ¬ G_ g = 0 from by unfold G_; omega, C_isWord1 hw, show ¬ (1 : Int32) = 0 from by decide, g2, z2, hs, C_none s1]
        · simp only [e_127_0, kR1, kR2, kR3, kR4, kR5, kR6, kR7, kR8, kR9, kR10, kR11, kR12, kR13, kR14, kR15, kR16, kR17, kR18, kR19, kR20, kR21, kR22, kR23, kR24, kR25, kR26, kR27, kR28, kR29, kR30, lR1, lR2, lR3, lR4, lR5, lR6, lR7, lR8, lR9, lR10, lR11, lR12, lR13, lR14, lR15, lR16, lR17, lR18, lR19, lR20, lR21, lR22, lR23, lR24, lR25, lR26, lR27, lR28, lR29, lR30, rR5, rR6, rR7, rR8, rR9, rR10, rR11, rR12, rR13, rR14, rR15, rR16, rR17, rR18, rR19, rR20, rR21, rR22, rR23, rR24, rR25, rR26, rR27, rR28, rR29, rR30, R_i, R_si, R_rec, if_true, if_false, true_and, and_true, true_or, or_true, List.length_nil, List.length_cons, Nat.zero_le, c_I, c_R, c_V, R_isG1 hn hg (by omega), show ¬ (1 : Int32) = 0 from by decide, k1, k2, R_is (show g < 96 by omega), hs, R_refuse]
end OP
