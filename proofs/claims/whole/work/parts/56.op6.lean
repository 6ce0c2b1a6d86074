section OP
variable {n : Nat} {M : mM} {f : Nat → Nat → Int32} {ρ τ κ : Nat → Nat}
def sm (p : Nat → Nat) : Nat → Nat → Nat
  | _, 0 => 0
  | g, d + 1 => p g + sm p (g + 1) d
def rmE (f : Nat → Nat → Int32) (g e : Nat) : Nat := if f 16 (8 * g + e) = 1 then spn (lv f g) else 0
def rmG (f : Nat → Nat → Int32) (o g : Nat) : Nat := if f 5 g = 4 ∧ f 7 g = nI o then sm (rmE f g) 0 8 else 0
theorem C_ramT (h : Rel n M f ρ τ κ) {g : Nat} (hg : g < n) (h4 : f 5 g = 4) : ev 31 0 [some (.inr (τ g)), none, none, none, none, none] [] M = some (some (.inl (nI (sm (rmE f g) 0 8))), M) := by
  obtain ⟨t1, t2, t3, t4⟩ := h.2.2.2.2.2.2.2.1 g hg h4
  obtain ⟨x1, x2, x3, x4, x5, x6⟩ := (h.2.1 (τ g)).2.1 t1
  have hT1 := (h.2.2.2.1.2.2.2.2.2.1.2.1 g hg h4).2.1.1
  have t3' : h_i M (τ g) 1 = nI (lv f g) := by rw [t3, hT1.1]
  have key : ∀ (d e m : Nat) (o : Option mV), e + d = 8 → ev 31 10 [some (.inr (τ g)), some (.inl (nI m)), some (.inr (τ g + 1)), some (.inl 8), some (.inl (nI e)), o] [] M = some (some (.inl (nI (m + sm (rmE f g) e d))), M) := by
    intro d
    induction d with
    | zero =>
      intro e m o he
      rw [e_31_10, if_pos (by rw [show e = 8 by omega]; decide), sm, Nat.add_zero]
    | succ d ih =>
      intro e m o he
      have h1 := n_l (N := 8) (k := e) 8 rfl (by omega) (by decide)
      have hE := x6 e (by omega)
      have z3 := (t4 e (by omega)).2.2.1
      rw [e_31_10]
      by_cases c : f 16 (8 * g + e) = 1
      · simp only [e_31_27, c_I, c_R, c_V, if_true, if_false, true_and, and_true, true_or, or_true, List.length_nil, List.length_cons, Nat.zero_le, k_si, l_si, r_si, k_sr, l_sr, i_sr, n_si, ar_si, ar_sr, ar_0, h1, x4, x5, i_t (show e < 8 by omega) (show 8 < 2 ^ 31 by decide), i_c (show e < 2 ^ 31 by omega), hE, z3, c, t1, t3', C_span hT1.2, nI_1, nI_add, Nat.zero_add, show (1 : Nat) ≤ 8 from by decide, ih (e + 1) _ _ (show e + 1 + d = 8 by omega), sm, rmE]
        rw [Nat.add_assoc]
      · simp only [e_31_27, c_I, c_R, c_V, if_true, if_false, true_and, and_true, true_or, or_true, List.length_nil, List.length_cons, Nat.zero_le, k_si, l_si, r_si, k_sr, l_sr, i_sr, n_si, ar_si, ar_sr, ar_0, h1, x4, x5, i_t (show e < 8 by omega) (show 8 < 2 ^ 31 by decide), i_c (show e < 2 ^ 31 by omega), hE, z3, c, nI_1, Nat.zero_add, ih (e + 1) _ _ (show e + 1 + d = 8 by omega), sm, rmE]
  have k0 := key 8 0 0 none rfl
  rw [Nat.zero_add, show nI 0 = 0 from rfl] at k0
  simp only [e_31_0, c_I, c_R, c_V, if_true, if_false, true_and, and_true, true_or, or_true, List.length_nil, List.length_cons, Nat.zero_le, k_si, l_si, r_si, k_sr, l_sr, i_sr, n_si, ar_si, ar_sr, ar_0, t1, x3, x4, x5, show (9 : Nat) ≤ 12 from by decide, show (12 : Nat) ≤ 13 from by decide]
  exact k0
theorem C_ram (h : Rel n M f ρ τ κ) {o : Nat} (ho : o < n) (ho2 : f 5 o = 2) : ev 100 0 [some (.inr 4), some (.inr (ρ o)), none, none, none, none, none] [] M = some (some (.inl (nI (sm (rmG f o) 0 n))), M) := by
  have hB := h.1
  have hN := h.2.2.2.1.2.2.1
  obtain ⟨-, ⟨s1, s2, -, -⟩, -, ⟨s3, s4⟩, s5, -⟩ := h.1
  have p1 : ¬ h_k M (ρ o) = 14 := by rw [(at_d h ho ho2).2]; decide
  have key : ∀ (d g m : Nat) (q : Option mV), g + d = n → ev 100 10 [some (.inr 4), some (.inr (ρ o)), some (.inl (nI m)), some (.inr 10), some (.inl (nI n)), some (.inl (nI g)), q] [] M = some (some (.inl (nI (m + sm (rmG f o) g d))), M) := by
    intro d
    induction d with
    | zero =>
      intro g m q hg
      have h1 : nI n ≤ nI g := by rw [show g = n by omega]; exact nI_le (Nat.le_refl _) (by omega)
      rw [e_100_10, if_pos h1, sm, Nat.add_zero]
    | succ d ih =>
      intro g m q hg
      have h1 := nI_ge (show g < n by omega) (show n < 2 ^ 31 by omega)
      obtain ⟨g1, g2, -⟩ := s5 g (by omega)
      have ht := tab_ h (show g < n by omega)
      rw [e_100_10]
      by_cases c : f 5 g = 4
      · rw [if_pos c] at ht
        obtain ⟨a, a1, a2, a3, a4, a5, a6, -⟩ := own_ h (show g < n by omega) (Or.inr (Or.inr (Or.inl c)))
        have p2 : ¬ h_k M (ρ a) = 14 := by rw [a6]; decide
        by_cases c2 : a = o
        · subst c2
          simp only [e_100_30, c_I, c_R, c_V, if_true, if_false, true_and, and_true, true_or, or_true, List.length_nil, List.length_cons, Nat.zero_le, k_si, l_si, r_si, k_sr, l_sr, i_sr, n_si, ar_si, ar_sr, ar_0, h1, s3, s4, i_t (show g < n by omega) (show n < 2 ^ 31 by omega), i_c (show g < 2 ^ 31 by omega), g1, g2, ht, τ_ne h (show g < n by omega) c, a4, p1, p2, rc6 (at_t h (show g < n by omega) c).2, C_ramT h (show g < n by omega) c, nI_1, nI_add, Nat.zero_add, not_false_eq_true, show (1 : Nat) ≤ 8 from by decide, ih (g + 1) _ _ (show g + 1 + d = n by omega), sm, rmG, c, a2, Nat.add_assoc]
        · have c3 : ¬ ρ a = ρ o := fun e => by
            have := dj_dd h a1 ho a3 ho2 c2
            omega
          have c4 : ¬ nI a = nI o := fun e => c2 (nI_inj (by omega) (by omega) e)
          simp only [e_100_30, c_I, c_R, c_V, if_true, if_false, true_and, and_true, true_or, or_true, List.length_nil, List.length_cons, Nat.zero_le, k_si, l_si, r_si, k_sr, l_sr, i_sr, n_si, ar_si, ar_sr, ar_0, h1, s3, s4, i_t (show g < n by omega) (show n < 2 ^ 31 by omega), i_c (show g < 2 ^ 31 by omega), g1, g2, ht, τ_ne h (show g < n by omega) c, a4, p1, p2, c3, nI_1, Nat.zero_add, not_false_eq_true, ih (g + 1) _ _ (show g + 1 + d = n by omega), sm, rmG, c, a2, c4]
      · rw [if_neg c] at ht
        simp only [e_100_30, c_I, c_R, c_V, if_true, if_false, true_and, and_true, true_or, or_true, List.length_nil, List.length_cons, Nat.zero_le, k_si, l_si, r_si, k_sr, l_sr, i_sr, n_si, ar_si, ar_sr, ar_0, h1, s3, s4, i_t (show g < n by omega) (show n < 2 ^ 31 by omega), i_c (show g < 2 ^ 31 by omega), g1, g2, ht, nI_1, Nat.zero_add, ih (g + 1) _ _ (show g + 1 + d = n by omega), sm, rmG, c, false_and]
  have k0 := key n 0 0 none (by omega)
  rw [Nat.zero_add, show nI 0 = 0 from rfl] at k0
  simp only [e_100_0, c_I, c_R, c_V, if_true, if_false, true_and, and_true, true_or, or_true, List.length_nil, List.length_cons, Nat.zero_le, k_si, l_si, r_si, k_sr, l_sr, i_sr, n_si, ar_si, ar_sr, ar_0, s1, s2, s3, s4, show (9 : Nat) ≤ 11 from by decide, show (11 : Nat) ≤ 13 from by decide]
  exact k0
theorem R_ram (h : Rel n M f ρ τ κ) {o : Nat} : ev 175 0 [some (.inr 4), some (.inl (nI o)), none, none, none] [] (mkR f) = some (some (.inl (nI (sm (rmG f o) 0 n))), mkR f) := by
  have hn := h.2.2.2.1.1
  have hN := h.2.2.2.1.2.2.1
  have hT := h.2.2.2.1.2.2.2.2.2.1
  have blk : ∀ (g : Nat), g < n → ∀ (d e m : Nat) (q : Option mV), e + d = 8 → ∃ q', ev 175 4 [some (.inr 4), some (.inl (nI o)), some (.inl (nI m)), some (.inl (nI (8 * g + e))), q] [] (mkR f) = ev 175 4 [some (.inr 4), some (.inl (nI o)), some (.inl (nI (m + if f 5 g = 4 ∧ f 7 g = nI o then sm (rmE f g) e d else 0))), some (.inl (nI (8 * g + 8))), q'] [] (mkR f) := by
    intro g hg d
    induction d with
    | zero =>
      intro e m q he
      refine ⟨q, ?_⟩
      rw [show e = 8 by omega, sm]
      simp
    | succ d ih =>
      intro e m q he
      have e8 : nI (8 * g + e) / 8 = nI g := by
        have := pk_div (a := 8 * g + e) (d := 8) (by omega) (by decide) (by decide)
        rw [show (8 * g + e) / 8 = g by omega] at this
        exact this
      have dd : (8 * g + e) / 8 = g := by omega
      have dm : (8 * g + e) % 8 = e := by omega
      have h1 : ¬ nI (8 * n) ≤ nI (8 * g + e) := nI_ge (by omega) (by omega)
      have st : ∀ m, ∃ q', ev 175 51 [some (.inr 4), some (.inl (nI o)), some (.inl (nI m)), some (.inl (nI (8 * g + e))), some (.inl (nI g))] [] (mkR f) = ev 175 4 [some (.inr 4), some (.inl (nI o)), some (.inl (nI (m + if f 5 g = 4 ∧ f 7 g = nI o then sm (rmE f g) (e + 1) d else 0))), some (.inl (nI (8 * g + 8))), q'] [] (mkR f) := by
        intro m
        obtain ⟨q', hq'⟩ := ih (e + 1) m (some (.inl (nI g))) (by omega)
        refine ⟨q', ?_⟩
        rw [e_175_51, nI_1, Nat.add_assoc]
        exact hq'
      by_cases c1 : f 5 g = 4
      · by_cases c2 : f 7 g = nI o
        · obtain ⟨-, hT1, hT2⟩ := hT.2.1 g hg c1
          obtain ⟨hE, hR⟩ := hT2 e (by omega)
          by_cases c3 : f 16 (8 * g + e) = 1
          · have c4 : ¬ f 14 (8 * g + e) = 2 := fun q => by
              rcases hE with ⟨w, -⟩ | ⟨w, -⟩ | ⟨-, -, -, -, -, -, -, -, w⟩
              · rw [q] at w; exact absurd w (by decide)
              · rw [q] at w; exact absurd w (by decide)
              · rw [c3] at w; exact absurd w (by decide)
            have c5 : bs f g + e * spn (lv f g) < 2048 := by
              rcases Nat.lt_or_ge (bs f g + e * spn (lv f g)) 2048 with q | q
              · exact q
              · have := hR.2 q; rw [c3] at this; exact absurd this (by decide)
            obtain ⟨q', hq'⟩ := st (m + spn (lv f g))
            refine ⟨q', ?_⟩
            have fo := R_firstOf (f := f) (e := 8 * g + e) (l := lv f g) (by omega) (by rw [dd]; exact hT1.1.1) hT1.1.2
            rw [dd, dm, hT1.2.1.1, nI_add] at fo
            have l5 : ¬ (2048 : Int32) ≤ nI (bs f g + e * spn (lv f g)) := n_l (N := 2048) 2048 rfl c5 (by decide)
            rw [e_175_4]
            simp only [kR1, kR2, kR3, kR4, kR5, kR6, kR7, kR8, kR9, kR10, kR11, kR12, kR13, kR14, kR15, kR16, kR17, kR18, kR19, kR20, kR21, kR22, kR23, kR24, kR25, kR26, kR27, kR28, kR29, kR30, lR1, lR2, lR3, lR4, lR5, lR6, lR7, lR8, lR9, lR10, lR11, lR12, lR13, lR14, lR15, lR16, lR17, lR18, lR19, lR20, lR21, lR22, lR23, lR24, lR25, lR26, lR27, lR28, lR29, lR30, rR5, rR6, rR7, rR8, rR9, rR10, rR11, rR12, rR13, rR14, rR15, rR16, rR17, rR18, rR19, rR20, rR21, rR22, rR23, rR24, rR25, rR26, rR27, rR28, rR29, rR30, R_i, R_si, R_rec, if_true, if_false, true_and, and_true, true_or, or_true, List.length_nil, List.length_cons, Nat.zero_le, c_I, c_R, c_V, hn, n8', h1, e8, i_t (show g < 96 by omega) (by decide), i_c (show g < 2 ^ 31 by omega), i_t (show 8 * g + e < 768 by omega) (by decide), i_c (show 8 * g + e < 2 ^ 31 by omega), c1, c2, c3, c4, fo, l5, hT1.1.1, R_span hT1.1.2, nI_add, ar_0, hq', sm, rmE, Nat.add_assoc, show ¬ 8 = 0 from by decide, not_false_eq_true, Nat.zero_add, show (1 : Nat) ≤ 8 from by decide]
          · obtain ⟨q', hq'⟩ := st m
            refine ⟨q', ?_⟩
            rw [e_175_4]
            simp only [kR1, kR2, kR3, kR4, kR5, kR6, kR7, kR8, kR9, kR10, kR11, kR12, kR13, kR14, kR15, kR16, kR17, kR18, kR19, kR20, kR21, kR22, kR23, kR24, kR25, kR26, kR27, kR28, kR29, kR30, lR1, lR2, lR3, lR4, lR5, lR6, lR7, lR8, lR9, lR10, lR11, lR12, lR13, lR14, lR15, lR16, lR17, lR18, lR19, lR20, lR21, lR22, lR23, lR24, lR25, lR26, lR27, lR28, lR29, lR30, rR5, rR6, rR7, rR8, rR9, rR10, rR11, rR12, rR13, rR14, rR15, rR16, rR17, rR18, rR19, rR20, rR21, rR22, rR23, rR24, rR25, rR26, rR27, rR28, rR29, rR30, R_i, R_si, R_rec, if_true, if_false, true_and, and_true, true_or, or_true, List.length_nil, List.length_cons, Nat.zero_le, c_I, c_R, c_V, hn, n8', h1, e8, i_t (show g < 96 by omega) (by decide), i_c (show g < 2 ^ 31 by omega), i_t (show 8 * g + e < 768 by omega) (by decide), i_c (show 8 * g + e < 2 ^ 31 by omega), c1, c2, c3, hq', sm, rmE, show ¬ 8 = 0 from by decide, not_false_eq_true, Nat.zero_add, ite_self]
        · obtain ⟨q', hq'⟩ := st m
          refine ⟨q', ?_⟩
          rw [e_175_4]
          simp only [kR1, kR2, kR3, kR4, kR5, kR6, kR7, kR8, kR9, kR10, kR11, kR12, kR13, kR14, kR15, kR16, kR17, kR18, kR19, kR20, kR21, kR22, kR23, kR24, kR25, kR26, kR27, kR28, kR29, kR30, lR1, lR2, lR3, lR4, lR5, lR6, lR7, lR8, lR9, lR10, lR11, lR12, lR13, lR14, lR15, lR16, lR17, lR18, lR19, lR20, lR21, lR22, lR23, lR24, lR25, lR26, lR27, lR28, lR29, lR30, rR5, rR6, rR7, rR8, rR9, rR10, rR11, rR12, rR13, rR14, rR15, rR16, rR17, rR18, rR19, rR20, rR21, rR22, rR23, rR24, rR25, rR26, rR27, rR28, rR29, rR30, R_i, R_si, R_rec, if_true, if_false, true_and, and_true, true_or, or_true, List.length_nil, List.length_cons, Nat.zero_le, c_I, c_R, c_V, hn, n8', h1, e8, i_t (show g < 96 by omega) (by decide), i_c (show g < 2 ^ 31 by omega), c1, c2, hq', and_false, show ¬ 8 = 0 from by decide, not_false_eq_true]
      · obtain ⟨q', hq'⟩ := st m
        refine ⟨q', ?_⟩
        rw [e_175_4]
        simp only [kR1, kR2, kR3, kR4, kR5, kR6, kR7, kR8, kR9, kR10, kR11, kR12, kR13, kR14, kR15, kR16, kR17, kR18, kR19, kR20, kR21, kR22, kR23, kR24, kR25, kR26, kR27, kR28, kR29, kR30, lR1, lR2, lR3, lR4, lR5, lR6, lR7, lR8, lR9, lR10, lR11, lR12, lR13, lR14, lR15, lR16, lR17, lR18, lR19, lR20, lR21, lR22, lR23, lR24, lR25, lR26, lR27, lR28, lR29, lR30, rR5, rR6, rR7, rR8, rR9, rR10, rR11, rR12, rR13, rR14, rR15, rR16, rR17, rR18, rR19, rR20, rR21, rR22, rR23, rR24, rR25, rR26, rR27, rR28, rR29, rR30, R_i, R_si, R_rec, if_true, if_false, true_and, and_true, true_or, or_true, List.length_nil, List.length_cons, Nat.zero_le, c_I, c_R, c_V, hn, n8', h1, e8, i_t (show g < 96 by omega) (by decide), i_c (show g < 2 ^ 31 by omega), c1, hq', false_and, show ¬ 8 = 0 from by decide, not_false_eq_true]
  have key : ∀ (d g m : Nat) (q : Option mV), g + d = n → ev 175 4 [some (.inr 4), some (.inl (nI o)), some (.inl (nI m)), some (.inl (nI (8 * g))), q] [] (mkR f) = some (some (.inl (nI (m + sm (rmG f o) g d))), mkR f) := by
    intro d
    induction d with
    | zero =>
      intro g m q hg
      have h1 : nI (8 * n) ≤ nI (8 * g) := by rw [show g = n by omega]; exact nI_le (Nat.le_refl _) (by omega)
      rw [e_175_4]
      simp only [kR1, kR2, kR3, kR4, kR5, kR6, kR7, kR8, kR9, kR10, kR11, kR12, kR13, kR14, kR15, kR16, kR17, kR18, kR19, kR20, kR21, kR22, kR23, kR24, kR25, kR26, kR27, kR28, kR29, kR30, lR1, lR2, lR3, lR4, lR5, lR6, lR7, lR8, lR9, lR10, lR11, lR12, lR13, lR14, lR15, lR16, lR17, lR18, lR19, lR20, lR21, lR22, lR23, lR24, lR25, lR26, lR27, lR28, lR29, lR30, rR5, rR6, rR7, rR8, rR9, rR10, rR11, rR12, rR13, rR14, rR15, rR16, rR17, rR18, rR19, rR20, rR21, rR22, rR23, rR24, rR25, rR26, rR27, rR28, rR29, rR30, R_i, R_si, R_rec, if_true, if_false, true_and, and_true, true_or, or_true, List.length_nil, List.length_cons, Nat.zero_le, c_I, c_R, c_V, hn, n8', h1, sm, Nat.add_zero]
    | succ d ih =>
      intro g m q hg
      obtain ⟨q', hq'⟩ := blk g (by omega) 8 0 m q rfl
      rw [Nat.add_zero] at hq'
      rw [hq', show 8 * g + 8 = 8 * (g + 1) by omega, ih (g + 1) _ _ (by omega)]
      show some (some (Sum.inl (nI (m + rmG f o g + sm (rmG f o) (g + 1) d))), mkR f) = some (some (Sum.inl (nI (m + (rmG f o g + sm (rmG f o) (g + 1) d)))), mkR f)
      rw [Nat.add_assoc]
  have k0 := key n 0 0 none (by omega)
  rw [Nat.zero_add, Nat.mul_zero, show nI 0 = 0 from rfl] at k0
  rw [e_175_0]
  exact k0
theorem op_realm (h : Rel n M f ρ τ κ) (x y : Int32) : OK2 n M (ev 66 0 [some (.inr 4), some (.inl x), some (.inl y), none, none] [] M) (ev 176 0 [some (.inr 4), some (.inl x), some (.inl y)] [] (mkR f)) := by
  have hB := h.1
  have s1 := h.1.2.1.1
  have hn := h.2.2.2.1.1
  have hN := h.2.2.2.1.2.2.1
  rcases ix2 x (show n < 2 ^ 31 by omega) with hx | ⟨g, hg, rfl⟩
  · exact OK2.of (v := -1) (by simp only [e_66_0, e_66_10, c_I, c_R, c_V, if_true, if_false, true_and, and_true, true_or, or_true, List.length_nil, List.length_cons, Nat.zero_le, k_si, l_si, r_si, k_sr, l_sr, i_sr, n_si, ar_si, ar_sr, ar_0, rc7 s1, s1, C_no, C_none, C_yes, C_done, C_bit0, C_bit1, C_fault, z10, z20, z30, z40, z50, z01, zm0, zm1, C_at0 hB hx, R_isG0 hn hx]; try rfl) (by simp only [e_176_0, e_176_9, kR1, kR2, kR3, kR4, kR5, kR6, kR7, kR8, kR9, kR10, kR11, kR12, kR13, kR14, kR15, kR16, kR17, kR18, kR19, kR20, kR21, kR22, kR23, kR24, kR25, kR26, kR27, kR28, kR29, kR30, lR1, lR2, lR3, lR4, lR5, lR6, lR7, lR8, lR9, lR10, lR11, lR12, lR13, lR14, lR15, lR16, lR17, lR18, lR19, lR20, lR21, lR22, lR23, lR24, lR25, lR26, lR27, lR28, lR29, lR30, rR5, rR6, rR7, rR8, rR9, rR10, rR11, rR12, rR13, rR14, rR15, rR16, rR17, rR18, rR19, rR20, rR21, rR22, rR23, rR24, rR25, rR26, rR27, rR28, rR29, rR30, R_i, R_si, R_rec, if_true, if_false, true_and, and_true, true_or, or_true, List.length_nil, List.length_cons, Nat.zero_le, c_I, c_R, c_V, R_no, R_refuse, R_fault, f_s_row, f4c, f4k, f4n, ne_eq, not_false_eq_true, not_true_eq_false, Nat.reduceEqDiff, reduceCtorEq, Nat.succ_ne_zero, Nat.reduceAdd, ar_0, z10, z20, z30, z40, z50, z01, zm0, zm1, C_at0 hB hx, R_isG0 hn hx]; try rfl) (h) rfl rfl
  · obtain ⟨g1, g2, g3, g4, g5⟩ := hB.2.2.2.2.1 g hg
    by_cases hs : f 5 g = 2
    · obtain ⟨d1, d2, d3, d4, d5, d6, d7, d8, d9, d10⟩ := h.2.2.2.2.2.2.1 g hg hs
      by_cases y0 : y = 0
      · subst y0
        exact OK2.of (v := f 8 g) (by simp only [e_66_0, e_66_10, c_I, c_R, c_V, if_true, if_false, true_and, and_true, true_or, or_true, List.length_nil, List.length_cons, Nat.zero_le, k_si, l_si, r_si, k_sr, l_sr, i_sr, n_si, ar_si, ar_sr, ar_0, rc7 s1, s1, C_no, C_none, C_yes, C_done, C_bit0, C_bit1, C_fault, z10, z20, z30, z40, z50, z01, zm0, zm1, C_at1 hB hN hg, R_isG1 hn hg (by omega), G_ne, R_is (show g < 96 by omega), hs, C_own1 h hg hs, ρ_ne h hg hs, rc3 g2, d1, d4, i_t (show g < 96 by omega) (by decide), i_c (show g < 2 ^ 31 by omega)]; try rfl) (by simp only [e_176_0, e_176_9, kR1, kR2, kR3, kR4, kR5, kR6, kR7, kR8, kR9, kR10, kR11, kR12, kR13, kR14, kR15, kR16, kR17, kR18, kR19, kR20, kR21, kR22, kR23, kR24, kR25, kR26, kR27, kR28, kR29, kR30, lR1, lR2, lR3, lR4, lR5, lR6, lR7, lR8, lR9, lR10, lR11, lR12, lR13, lR14, lR15, lR16, lR17, lR18, lR19, lR20, lR21, lR22, lR23, lR24, lR25, lR26, lR27, lR28, lR29, lR30, rR5, rR6, rR7, rR8, rR9, rR10, rR11, rR12, rR13, rR14, rR15, rR16, rR17, rR18, rR19, rR20, rR21, rR22, rR23, rR24, rR25, rR26, rR27, rR28, rR29, rR30, R_i, R_si, R_rec, if_true, if_false, true_and, and_true, true_or, or_true, List.length_nil, List.length_cons, Nat.zero_le, c_I, c_R, c_V, R_no, R_refuse, R_fault, f_s_row, f4c, f4k, f4n, ne_eq, not_false_eq_true, not_true_eq_false, Nat.reduceEqDiff, reduceCtorEq, Nat.succ_ne_zero, Nat.reduceAdd, ar_0, z10, z20, z30, z40, z50, z01, zm0, zm1, C_at1 hB hN hg, R_isG1 hn hg (by omega), G_ne, R_is (show g < 96 by omega), hs, C_own1 h hg hs, ρ_ne h hg hs, rc3 g2, d1, d4, i_t (show g < 96 by omega) (by decide), i_c (show g < 2 ^ 31 by omega)]; try rfl) (h) rfl rfl
      by_cases y1 : y = 1
      · subst y1
        obtain ⟨t, t1, t2, t3, t4, t5⟩ := h.2.2.2.1.2.2.2.2.2.1.2.2 g hg hs
        have hrt : rt f g = t := by unfold rt; rw [t2]; exact i_c (by omega)
        rw [hrt] at d3
        obtain ⟨e1, e2, -⟩ := h.2.2.2.2.2.2.2.1 t t1 t3
        have q2 := (hB.2.2.2.2.1 t t1).2.1
        have q1 := (h.2.2.2.2.2.1 t t1).1
        exact OK2.of (v := nI t) (by simp only [e_66_0, e_66_10, c_I, c_R, c_V, if_true, if_false, true_and, and_true, true_or, or_true, List.length_nil, List.length_cons, Nat.zero_le, k_si, l_si, r_si, k_sr, l_sr, i_sr, n_si, ar_si, ar_sr, ar_0, rc7 s1, s1, C_no, C_none, C_yes, C_done, C_bit0, C_bit1, C_fault, z10, z20, z30, z40, z50, z01, zm0, zm1, C_at1 hB hN hg, R_isG1 hn hg (by omega), G_ne, R_is (show g < 96 by omega), hs, C_own1 h hg hs, ρ_ne h hg hs, rc3 g2, y0, d1, d3, e1, e2, q1, q2, t2, i_t (show g < 96 by omega) (by decide), i_c (show g < 2 ^ 31 by omega)]; try rfl) (by simp only [e_176_0, e_176_9, kR1, kR2, kR3, kR4, kR5, kR6, kR7, kR8, kR9, kR10, kR11, kR12, kR13, kR14, kR15, kR16, kR17, kR18, kR19, kR20, kR21, kR22, kR23, kR24, kR25, kR26, kR27, kR28, kR29, kR30, lR1, lR2, lR3, lR4, lR5, lR6, lR7, lR8, lR9, lR10, lR11, lR12, lR13, lR14, lR15, lR16, lR17, lR18, lR19, lR20, lR21, lR22, lR23, lR24, lR25, lR26, lR27, lR28, lR29, lR30, rR5, rR6, rR7, rR8, rR9, rR10, rR11, rR12, rR13, rR14, rR15, rR16, rR17, rR18, rR19, rR20, rR21, rR22, rR23, rR24, rR25, rR26, rR27, rR28, rR29, rR30, R_i, R_si, R_rec, if_true, if_false, true_and, and_true, true_or, or_true, List.length_nil, List.length_cons, Nat.zero_le, c_I, c_R, c_V, R_no, R_refuse, R_fault, f_s_row, f4c, f4k, f4n, ne_eq, not_false_eq_true, not_true_eq_false, Nat.reduceEqDiff, reduceCtorEq, Nat.succ_ne_zero, Nat.reduceAdd, ar_0, z10, z20, z30, z40, z50, z01, zm0, zm1, C_at1 hB hN hg, R_isG1 hn hg (by omega), G_ne, R_is (show g < 96 by omega), hs, C_own1 h hg hs, ρ_ne h hg hs, rc3 g2, y0, d1, d3, e1, e2, q1, q2, t2, i_t (show g < 96 by omega) (by decide), i_c (show g < 2 ^ 31 by omega)]; try rfl) (h) rfl rfl
      by_cases y2 : y = 2
      · subst y2
        exact OK2.of (v := nI (cn n f 3 g)) (by simp only [e_66_0, e_66_10, c_I, c_R, c_V, if_true, if_false, true_and, and_true, true_or, or_true, List.length_nil, List.length_cons, Nat.zero_le, k_si, l_si, r_si, k_sr, l_sr, i_sr, n_si, ar_si, ar_sr, ar_0, rc7 s1, s1, C_no, C_none, C_yes, C_done, C_bit0, C_bit1, C_fault, z10, z20, z30, z40, z50, z01, zm0, zm1, C_at1 hB hN hg, R_isG1 hn hg (by omega), G_ne, R_is (show g < 96 by omega), hs, C_own1 h hg hs, ρ_ne h hg hs, rc3 g2, y0, y1, d1, d6, R_manyOf hn hN]; try rfl) (by simp only [e_176_0, e_176_9, kR1, kR2, kR3, kR4, kR5, kR6, kR7, kR8, kR9, kR10, kR11, kR12, kR13, kR14, kR15, kR16, kR17, kR18, kR19, kR20, kR21, kR22, kR23, kR24, kR25, kR26, kR27, kR28, kR29, kR30, lR1, lR2, lR3, lR4, lR5, lR6, lR7, lR8, lR9, lR10, lR11, lR12, lR13, lR14, lR15, lR16, lR17, lR18, lR19, lR20, lR21, lR22, lR23, lR24, lR25, lR26, lR27, lR28, lR29, lR30, rR5, rR6, rR7, rR8, rR9, rR10, rR11, rR12, rR13, rR14, rR15, rR16, rR17, rR18, rR19, rR20, rR21, rR22, rR23, rR24, rR25, rR26, rR27, rR28, rR29, rR30, R_i, R_si, R_rec, if_true, if_false, true_and, and_true, true_or, or_true, List.length_nil, List.length_cons, Nat.zero_le, c_I, c_R, c_V, R_no, R_refuse, R_fault, f_s_row, f4c, f4k, f4n, ne_eq, not_false_eq_true, not_true_eq_false, Nat.reduceEqDiff, reduceCtorEq, Nat.succ_ne_zero, Nat.reduceAdd, ar_0, z10, z20, z30, z40, z50, z01, zm0, zm1, C_at1 hB hN hg, R_isG1 hn hg (by omega), G_ne, R_is (show g < 96 by omega), hs, C_own1 h hg hs, ρ_ne h hg hs, rc3 g2, y0, y1, d1, d6, R_manyOf hn hN]; try rfl) (h) rfl rfl
      by_cases y3 : y = 3
      · subst y3
        exact OK2.of (v := nI (cn n f 4 g)) (by simp only [e_66_0, e_66_10, c_I, c_R, c_V, if_true, if_false, true_and, and_true, true_or, or_true, List.length_nil, List.length_cons, Nat.zero_le, k_si, l_si, r_si, k_sr, l_sr, i_sr, n_si, ar_si, ar_sr, ar_0, rc7 s1, s1, C_no, C_none, C_yes, C_done, C_bit0, C_bit1, C_fault, z10, z20, z30, z40, z50, z01, zm0, zm1, C_at1 hB hN hg, R_isG1 hn hg (by omega), G_ne, R_is (show g < 96 by omega), hs, C_own1 h hg hs, ρ_ne h hg hs, rc3 g2, y0, y1, y2, d1, d8, R_manyOf hn hN]; try rfl) (by simp only [e_176_0, e_176_9, kR1, kR2, kR3, kR4, kR5, kR6, kR7, kR8, kR9, kR10, kR11, kR12, kR13, kR14, kR15, kR16, kR17, kR18, kR19, kR20, kR21, kR22, kR23, kR24, kR25, kR26, kR27, kR28, kR29, kR30, lR1, lR2, lR3, lR4, lR5, lR6, lR7, lR8, lR9, lR10, lR11, lR12, lR13, lR14, lR15, lR16, lR17, lR18, lR19, lR20, lR21, lR22, lR23, lR24, lR25, lR26, lR27, lR28, lR29, lR30, rR5, rR6, rR7, rR8, rR9, rR10, rR11, rR12, rR13, rR14, rR15, rR16, rR17, rR18, rR19, rR20, rR21, rR22, rR23, rR24, rR25, rR26, rR27, rR28, rR29, rR30, R_i, R_si, R_rec, if_true, if_false, true_and, and_true, true_or, or_true, List.length_nil, List.length_cons, Nat.zero_le, c_I, c_R, c_V, R_no, R_refuse, R_fault, f_s_row, f4c, f4k, f4n, ne_eq, not_false_eq_true, not_true_eq_false, Nat.reduceEqDiff, reduceCtorEq, Nat.succ_ne_zero, Nat.reduceAdd, ar_0, z10, z20, z30, z40, z50, z01, zm0, zm1, C_at1 hB hN hg, R_isG1 hn hg (by omega), G_ne, R_is (show g < 96 by omega), hs, C_own1 h hg hs, ρ_ne h hg hs, rc3 g2, y0, y1, y2, d1, d8, R_manyOf hn hN]; try rfl) (h) rfl rfl
      by_cases y4 : y = 4
      · subst y4
        exact OK2.of (v := nI (cn n f 5 g)) (by simp only [e_66_0, e_66_10, c_I, c_R, c_V, if_true, if_false, true_and, and_true, true_or, or_true, List.length_nil, List.length_cons, Nat.zero_le, k_si, l_si, r_si, k_sr, l_sr, i_sr, n_si, ar_si, ar_sr, ar_0, rc7 s1, s1, C_no, C_none, C_yes, C_done, C_bit0, C_bit1, C_fault, z10, z20, z30, z40, z50, z01, zm0, zm1, C_at1 hB hN hg, R_isG1 hn hg (by omega), G_ne, R_is (show g < 96 by omega), hs, C_own1 h hg hs, ρ_ne h hg hs, rc3 g2, y0, y1, y2, y3, d1, d9, R_manyOf hn hN]; try rfl) (by simp only [e_176_0, e_176_9, kR1, kR2, kR3, kR4, kR5, kR6, kR7, kR8, kR9, kR10, kR11, kR12, kR13, kR14, kR15, kR16, kR17, kR18, kR19, kR20, kR21, kR22, kR23, kR24, kR25, kR26, kR27, kR28, kR29, kR30, lR1, lR2, lR3, lR4, lR5, lR6, lR7, lR8, lR9, lR10, lR11, lR12, lR13, lR14, lR15, lR16, lR17, lR18, lR19, lR20, lR21, lR22, lR23, lR24, lR25, lR26, lR27, lR28, lR29, lR30, rR5, rR6, rR7, rR8, rR9, rR10, rR11, rR12, rR13, rR14, rR15, rR16, rR17, rR18, rR19, rR20, rR21, rR22, rR23, rR24, rR25, rR26, rR27, rR28, rR29, rR30, R_i, R_si, R_rec, if_true, if_false, true_and, and_true, true_or, or_true, List.length_nil, List.length_cons, Nat.zero_le, c_I, c_R, c_V, R_no, R_refuse, R_fault, f_s_row, f4c, f4k, f4n, ne_eq, not_false_eq_true, not_true_eq_false, Nat.reduceEqDiff, reduceCtorEq, Nat.succ_ne_zero, Nat.reduceAdd, ar_0, z10, z20, z30, z40, z50, z01, zm0, zm1, C_at1 hB hN hg, R_isG1 hn hg (by omega), G_ne, R_is (show g < 96 by omega), hs, C_own1 h hg hs, ρ_ne h hg hs, rc3 g2, y0, y1, y2, y3, d1, d9, R_manyOf hn hN]; try rfl) (h) rfl rfl
      by_cases y5 : y = 5
      · subst y5
        exact OK2.of (v := nI (sm (rmG f g) 0 n)) (by simp only [e_66_0, e_66_10, c_I, c_R, c_V, if_true, if_false, true_and, and_true, true_or, or_true, List.length_nil, List.length_cons, Nat.zero_le, k_si, l_si, r_si, k_sr, l_sr, i_sr, n_si, ar_si, ar_sr, ar_0, rc7 s1, s1, C_no, C_none, C_yes, C_done, C_bit0, C_bit1, C_fault, z10, z20, z30, z40, z50, z01, zm0, zm1, C_at1 hB hN hg, R_isG1 hn hg (by omega), G_ne, R_is (show g < 96 by omega), hs, C_own1 h hg hs, ρ_ne h hg hs, rc3 g2, y0, y1, y2, y3, y4, C_ram h hg hs, R_ram h]; try rfl) (by simp only [e_176_0, e_176_9, kR1, kR2, kR3, kR4, kR5, kR6, kR7, kR8, kR9, kR10, kR11, kR12, kR13, kR14, kR15, kR16, kR17, kR18, kR19, kR20, kR21, kR22, kR23, kR24, kR25, kR26, kR27, kR28, kR29, kR30, lR1, lR2, lR3, lR4, lR5, lR6, lR7, lR8, lR9, lR10, lR11, lR12, lR13, lR14, lR15, lR16, lR17, lR18, lR19, lR20, lR21, lR22, lR23, lR24, lR25, lR26, lR27, lR28, lR29, lR30, rR5, rR6, rR7, rR8, rR9, rR10, rR11, rR12, rR13, rR14, rR15, rR16, rR17, rR18, rR19, rR20, rR21, rR22, rR23, rR24, rR25, rR26, rR27, rR28, rR29, rR30, R_i, R_si, R_rec, if_true, if_false, true_and, and_true, true_or, or_true, List.length_nil, List.length_cons, Nat.zero_le, c_I, c_R, c_V, R_no, R_refuse, R_fault, f_s_row, f4c, f4k, f4n, ne_eq, not_false_eq_true, not_true_eq_false, Nat.reduceEqDiff, reduceCtorEq, Nat.succ_ne_zero, Nat.reduceAdd, ar_0, z10, z20, z30, z40, z50, z01, zm0, zm1, C_at1 hB hN hg, R_isG1 hn hg (by omega), G_ne, R_is (show g < 96 by omega), hs, C_own1 h hg hs, ρ_ne h hg hs, rc3 g2, y0, y1, y2, y3, y4, C_ram h hg hs, R_ram h]; try rfl) (h) rfl rfl
      by_cases y6 : y = 6
      · subst y6
        exact OK2.of (v := f 10 g) (by simp only [e_66_0, e_66_10, c_I, c_R, c_V, if_true, if_false, true_and, and_true, true_or, or_true, List.length_nil, List.length_cons, Nat.zero_le, k_si, l_si, r_si, k_sr, l_sr, i_sr, n_si, ar_si, ar_sr, ar_0, rc7 s1, s1, C_no, C_none, C_yes, C_done, C_bit0, C_bit1, C_fault, z10, z20, z30, z40, z50, z01, zm0, zm1, C_at1 hB hN hg, R_isG1 hn hg (by omega), G_ne, R_is (show g < 96 by omega), hs, C_own1 h hg hs, ρ_ne h hg hs, rc3 g2, y0, y1, y2, y3, y4, y5, d1, d7, i_t (show g < 96 by omega) (by decide), i_c (show g < 2 ^ 31 by omega)]; try rfl) (by simp only [e_176_0, e_176_9, kR1, kR2, kR3, kR4, kR5, kR6, kR7, kR8, kR9, kR10, kR11, kR12, kR13, kR14, kR15, kR16, kR17, kR18, kR19, kR20, kR21, kR22, kR23, kR24, kR25, kR26, kR27, kR28, kR29, kR30, lR1, lR2, lR3, lR4, lR5, lR6, lR7, lR8, lR9, lR10, lR11, lR12, lR13, lR14, lR15, lR16, lR17, lR18, lR19, lR20, lR21, lR22, lR23, lR24, lR25, lR26, lR27, lR28, lR29, lR30, rR5, rR6, rR7, rR8, rR9, rR10, rR11, rR12, rR13, rR14, rR15, rR16, rR17, rR18, rR19, rR20, rR21, rR22, rR23, rR24, rR25, rR26, rR27, rR28, rR29, rR30, R_i, R_si, R_rec, if_true, if_false, true_and, and_true, true_or, or_true, List.length_nil, List.length_cons, Nat.zero_le, c_I, c_R, c_V, R_no, R_refuse, R_fault, f_s_row, f4c, f4k, f4n, ne_eq, not_false_eq_true, not_true_eq_false, Nat.reduceEqDiff, reduceCtorEq, Nat.succ_ne_zero, Nat.reduceAdd, ar_0, z10, z20, z30, z40, z50, z01, zm0, zm1, C_at1 hB hN hg, R_isG1 hn hg (by omega), G_ne, R_is (show g < 96 by omega), hs, C_own1 h hg hs, ρ_ne h hg hs, rc3 g2, y0, y1, y2, y3, y4, y5, d1, d7, i_t (show g < 96 by omega) (by decide), i_c (show g < 2 ^ 31 by omega)]; try rfl) (h) rfl rfl
      exact OK2.of (v := -1) (by simp only [e_66_0, e_66_10, c_I, c_R, c_V, if_true, if_false, true_and, and_true, true_or, or_true, List.length_nil, List.length_cons, Nat.zero_le, k_si, l_si, r_si, k_sr, l_sr, i_sr, n_si, ar_si, ar_sr, ar_0, rc7 s1, s1, C_no, C_none, C_yes, C_done, C_bit0, C_bit1, C_fault, z10, z20, z30, z40, z50, z01, zm0, zm1, C_at1 hB hN hg, R_isG1 hn hg (by omega), G_ne, R_is (show g < 96 by omega), hs, C_own1 h hg hs, ρ_ne h hg hs, rc3 g2, y0, y1, y2, y3, y4, y5, y6]; try rfl) (by simp only [e_176_0, e_176_9, kR1, kR2, kR3, kR4, kR5, kR6, kR7, kR8, kR9, kR10, kR11, kR12, kR13, kR14, kR15, kR16, kR17, kR18, kR19, kR20, kR21, kR22, kR23, kR24, kR25, kR26, kR27, kR28, kR29, kR30, lR1, lR2, lR3, lR4, lR5, lR6, lR7, lR8, lR9, lR10, lR11, lR12, lR13, lR14, lR15, lR16, lR17, lR18, lR19, lR20, lR21, lR22, lR23, lR24, lR25, lR26, lR27, lR28, lR29, lR30, rR5, rR6, rR7, rR8, rR9, rR10, rR11, rR12, rR13, rR14, rR15, rR16, rR17, rR18, rR19, rR20, rR21, rR22, rR23, rR24, rR25, rR26, rR27, rR28, rR29, rR30, R_i, R_si, R_rec, if_true, if_false, true_and, and_true, true_or, or_true, List.length_nil, List.length_cons, Nat.zero_le, c_I, c_R, c_V, R_no, R_refuse, R_fault, f_s_row, f4c, f4k, f4n, ne_eq, not_false_eq_true, not_true_eq_false, Nat.reduceEqDiff, reduceCtorEq, Nat.succ_ne_zero, Nat.reduceAdd, ar_0, z10, z20, z30, z40, z50, z01, zm0, zm1, C_at1 hB hN hg, R_isG1 hn hg (by omega), G_ne, R_is (show g < 96 by omega), hs, C_own1 h hg hs, ρ_ne h hg hs, rc3 g2, y0, y1, y2, y3, y4, y5, y6]; try rfl) (h) rfl rfl
    · exact OK2.of (v := -1) (by simp only [e_66_0, e_66_10, c_I, c_R, c_V, if_true, if_false, true_and, and_true, true_or, or_true, List.length_nil, List.length_cons, Nat.zero_le, k_si, l_si, r_si, k_sr, l_sr, i_sr, n_si, ar_si, ar_sr, ar_0, rc7 s1, s1, C_no, C_none, C_yes, C_done, C_bit0, C_bit1, C_fault, z10, z20, z30, z40, z50, z01, zm0, zm1, C_at1 hB hN hg, R_isG1 hn hg (by omega), G_ne, R_is (show g < 96 by omega), hs, C_own0 h hg hs, rc3 g2]; try rfl) (by simp only [e_176_0, e_176_9, kR1, kR2, kR3, kR4, kR5, kR6, kR7, kR8, kR9, kR10, kR11, kR12, kR13, kR14, kR15, kR16, kR17, kR18, kR19, kR20, kR21, kR22, kR23, kR24, kR25, kR26, kR27, kR28, kR29, kR30, lR1, lR2, lR3, lR4, lR5, lR6, lR7, lR8, lR9, lR10, lR11, lR12, lR13, lR14, lR15, lR16, lR17, lR18, lR19, lR20, lR21, lR22, lR23, lR24, lR25, lR26, lR27, lR28, lR29, lR30, rR5, rR6, rR7, rR8, rR9, rR10, rR11, rR12, rR13, rR14, rR15, rR16, rR17, rR18, rR19, rR20, rR21, rR22, rR23, rR24, rR25, rR26, rR27, rR28, rR29, rR30, R_i, R_si, R_rec, if_true, if_false, true_and, and_true, true_or, or_true, List.length_nil, List.length_cons, Nat.zero_le, c_I, c_R, c_V, R_no, R_refuse, R_fault, f_s_row, f4c, f4k, f4n, ne_eq, not_false_eq_true, not_true_eq_false, Nat.reduceEqDiff, reduceCtorEq, Nat.succ_ne_zero, Nat.reduceAdd, ar_0, z10, z20, z30, z40, z50, z01, zm0, zm1, C_at1 hB hN hg, R_isG1 hn hg (by omega), G_ne, R_is (show g < 96 by omega), hs, C_own0 h hg hs, rc3 g2]; try rfl) (h) rfl rfl
end OP
