section OP
variable {n : Nat} {M : mM} {f : Nat → Nat → Int32} {ρ τ κ : Nat → Nat}
theorem C_ofR (h : Rel n M f ρ τ κ) {o : Nat} (ho : o < n) (o2 : f 5 o = 2) {w : Int32} (hw : w = 3 ∨ w = 4 ∨ w = 5) : ev 99 0 [some (.inr 4), some (.inr (ρ o)), some (.inl w), none, none, none, none, none] [] M = some (some (.inl (nI (cn n f w o))), M) := by
  have hN := h.2.2.2.1.2.2.1
  obtain ⟨-, ⟨s1, s2, -, -⟩, -, ⟨s3, s4⟩, s5, -⟩ := h.1
  have bo := at_d h ho o2
  have k14 : ¬ h_k M (ρ o) = 14 := by rw [bo.2]; decide
  have key : ∀ (d g m : Nat) (u : Option mV), g + d = n → ev 99 10 [some (.inr 4), some (.inr (ρ o)), some (.inl w), some (.inl (nI m)), some (.inr 10), some (.inl (nI n)), some (.inl (nI g)), u] [] M = some (some (.inl (nI (m + cnt (fun g => decide (f 5 g = w ∧ f 7 g = nI o)) g d))), M) := by
    intro d
    induction d with
    | zero =>
      intro g m u hg
      have h1 : nI n ≤ nI g := by rw [show g = n by omega]; exact nI_le (Nat.le_refl _) (by omega)
      rw [e_99_10, if_pos h1, cnt, Nat.add_zero]
    | succ d ih =>
      intro g m u hg
      have h1 := nI_ge (show g < n by omega) (show n < 2 ^ 31 by omega)
      obtain ⟨g1, g2, -⟩ := s5 g (by omega)
      have z2 := (h.2.2.2.2.2.1 g (by omega)).2.1
      by_cases c : f 5 g = w
      · obtain ⟨o', a1, a2, a3, a4, a5, a6, -⟩ := own_ h (show g < n by omega) (by rw [c]; rcases hw with rfl | rfl | rfl <;> simp)
        have k15 : ¬ h_k M (ρ o') = 14 := by rw [a6]; decide
        by_cases c2 : o' = o
        · subst c2
          rw [e_99_10]
          simp only [e_99_29, c_I, c_R, c_V, if_true, if_false, true_and, and_true, true_or, or_true, List.length_nil, List.length_cons, Nat.zero_le, k_si, l_si, r_si, k_sr, l_sr, i_sr, n_si, ar_si, ar_sr, ar_0, h1, s3, s4, i_t (show g < n by omega) (show n < 2 ^ 31 by omega), i_c (show g < 2 ^ 31 by omega), g1, g2, z2, c, a4, k15, not_false_eq_true, and_self, C_bit1, nI_1, ln1, ih (g + 1) _ _ (show g + 1 + d = n by omega), cnt, a2, decide_true, Nat.add_assoc]
        · have c3 : ¬ ρ o' = ρ o := fun q => by have := rr_dd h a1 ho a3 o2; omega
          have c4 : ¬ nI o' = nI o := fun q => c2 (nI_inj (by omega) (by omega) q)
          rw [e_99_10]
          simp only [e_99_28, e_99_29, c_I, c_R, c_V, if_true, if_false, true_and, and_true, true_or, or_true, List.length_nil, List.length_cons, Nat.zero_le, k_si, l_si, r_si, k_sr, l_sr, i_sr, n_si, ar_si, ar_sr, ar_0, h1, s3, s4, i_t (show g < n by omega) (show n < 2 ^ 31 by omega), i_c (show g < 2 ^ 31 by omega), g1, g2, z2, c, a4, k14, k15, c3, not_false_eq_true, and_self, C_bit0, nI_1, nI_p0, ln1, ih (g + 1) _ _ (show g + 1 + d = n by omega), cnt, a2, c4, and_false, decide_false, Bool.false_eq_true, Nat.zero_add]
      · rw [e_99_10]
        simp only [e_99_28, e_99_29, c_I, c_R, c_V, if_true, if_false, true_and, and_true, true_or, or_true, List.length_nil, List.length_cons, Nat.zero_le, k_si, l_si, r_si, k_sr, l_sr, i_sr, n_si, ar_si, ar_sr, ar_0, h1, s3, s4, i_t (show g < n by omega) (show n < 2 ^ 31 by omega), i_c (show g < 2 ^ 31 by omega), g1, g2, z2, c, C_bit0, nI_1, nI_p0, ln1, ih (g + 1) _ _ (show g + 1 + d = n by omega), cnt, false_and, decide_false, Bool.false_eq_true, Nat.zero_add]
  have k0 := key n 0 0 none (by omega)
  rw [Nat.zero_add, show nI 0 = 0 from rfl] at k0
  rw [e_99_0, if_pos s1, s2, s3, s4, if_pos (by decide)]
  exact k0
theorem C_nums (h : Rel n M f ρ τ κ) {o : Nat} (ho : o < n) (o2 : f 5 o = 2) : ev 103 0 [some (.inr 4), some (.inr (ρ o))] [] M = some (some (.inl 1), M) := by
  have s1 := h.1.2.1.1
  obtain ⟨d1, -, -, -, -, d6, -, d8, d9, -⟩ := h.2.2.2.2.2.2.1 o ho o2
  simp only [e_103_0, e_103_26, c_I, c_R, c_V, if_true, if_false, true_and, and_true, true_or, or_true, List.length_nil, List.length_cons, Nat.zero_le, k_si, l_si, r_si, k_sr, l_sr, i_sr, n_si, ar_si, ar_sr, ar_0, ρ_ne h ho o2, d1, rc7 s1, ln1, d6, d8, d9, C_ofR h ho o2 (w := 3) (by simp), C_ofR h ho o2 (w := 4) (by simp), C_ofR h ho o2 (w := 5) (by simp)]
/-- the places are counted -/
theorem C_count (h : Rel n M f ρ τ κ) : ∃ N, ev 101 0 [some (.inr 4), none, none, none, none, none] [] M = some (none, N) ∧ CT n M (fun i => sm (gT f i) 0 n) (fun i => sm (gP f i) 0 n) N := by
  have hN := h.2.2.2.1.2.2.1
  have hq := h.2.2.2.1
  obtain ⟨-, ⟨s1, s2, -, -⟩, -, ⟨s3, s4⟩, s5, -⟩ := h.1
  have main : ∀ (d g : Nat) (u w : Option mV) (A B : Nat → Nat) (N : mM), g + d = n → CT n M A B N → ∃ N', ev 101 31 [some (.inr 4), some (.inr 10), some (.inl (nI n)), some (.inl (nI g)), u, w] [] N = some (none, N') ∧ CT n M (fun i => A i + sm (gT f i) g d) (fun i => B i + sm (gP f i) g d) N' := by
    intro d
    induction d with
    | zero =>
      intro g u w A B N hg hC
      have h1 : nI n ≤ nI g := by rw [show g = n by omega]; exact nI_le (Nat.le_refl _) (by omega)
      exact ⟨N, by rw [e_101_31, if_pos h1], CT_e hC (fun j => rfl) (fun j => rfl)⟩
    | succ d ih =>
      intro g u w A B N hg hC
      have hgn : g < n := by omega
      have h1 := nI_ge hgn (show n < 2 ^ 31 by omega)
      obtain ⟨g1, g2, -⟩ := s5 g hgn
      obtain ⟨t1, t2, t3, -, -⟩ := CT_s hC
      have hR := CT_rel h hC
      have tb := tab_ h hgn
      have n3 : h_k N (G_ g) = 3 := by rw [t1]; exact g2
      by_cases c2 : f 5 g = 2
      · have ng : ¬ f 5 g = 4 := fun q => by rw [c2] at q; exact absurd q (by decide)
        rw [if_neg ng] at tb
        obtain ⟨r1, r2, r3, r4, r5⟩ := rt_eq hq hgn c2
        obtain ⟨d1, d2, d3, -⟩ := h.2.2.2.2.2.2.1 g hgn c2
        have zt := h.2.2.2.2.2.2.2.1 _ r1 r3
        have gr := (s5 _ r1).2.1
        obtain ⟨N', e1, e2⟩ := ih (g + 1) (some (.inr (G_ g))) (some (.inr (ρ g))) _ B _ (by omega) (CT_T hC r1)
        refine ⟨N', ?_, CT_e e2 (fun j => ?_) (fun j => ?_)⟩
        · rw [e_101_31, ← e1]
          simp only [e_101_51, e_101_57, c_I, c_R, c_V, if_true, if_false, true_and, and_true, true_or, or_true, List.length_nil, List.length_cons, Nat.zero_le, k_si, l_si, r_si, k_sr, l_sr, i_sr, n_si, ar_si, ar_sr, ar_0, h1, t1, t2, t3, s3, s4, i_t hgn (show n < 2 ^ 31 by omega), i_c (show g < 2 ^ 31 by omega), g1, g2, rc3 n3, C_own1 hR hgn c2, ρ_ne h hgn c2, d1, d3, zt.1, zt.2.1, gr, tb, nI_1]
        · show A j + (if rt f g = j then 1 else 0) + sm (gT f j) (g + 1) d = A j + sm (gT f j) g (d + 1)
          rw [sm]
          have : gT f j g = if rt f g = j then 1 else 0 := by
            unfold gT
            rw [if_neg ng, Nat.add_zero]
            by_cases e : rt f g = j
            · rw [if_pos ⟨c2, e⟩, if_pos e]
            · rw [if_neg (fun q => e q.2), if_neg e]
          rw [this, Nat.add_assoc]
        · show B j + sm (gP f j) (g + 1) d = B j + sm (gP f j) g (d + 1)
          rw [sm, show gP f j g = 0 from if_neg ng, Nat.zero_add]
      · by_cases c4 : f 5 g = 4
        · rw [if_pos c4] at tb
          have bt := at_t h hgn c4
          obtain ⟨N1, q1, q2⟩ := C_cpT h hC hgn c4
          obtain ⟨N', e1, e2⟩ := ih (g + 1) (some (.inr (G_ g))) (some (.inr 0)) _ _ _ (by omega) q2
          have n6 : h_k N (τ g) = 6 := by rw [t1]; exact bt.2
          refine ⟨N', ?_, CT_e e2 (fun j => ?_) (fun j => ?_)⟩
          · rw [e_101_31, ← e1]
            simp only [e_101_51, e_101_57, c_I, c_R, c_V, if_true, if_false, true_and, and_true, true_or, or_true, List.length_nil, List.length_cons, Nat.zero_le, k_si, l_si, r_si, k_sr, l_sr, i_sr, n_si, ar_si, ar_sr, ar_0, h1, t1, t2, t3, s3, s4, i_t hgn (show n < 2 ^ 31 by omega), i_c (show g < 2 ^ 31 by omega), g1, g2, rc3 n3, C_own0 hR hgn c2, tb, τ_ne h hgn c4, rc6 n6, q1, nI_1]
          · show A j + sm (evT f j g) 0 8 + sm (gT f j) (g + 1) d = A j + sm (gT f j) g (d + 1)
            have : gT f j g = sm (evT f j g) 0 8 := by
              unfold gT
              rw [if_pos c4, if_neg (fun q => c2 q.1), Nat.zero_add]
            rw [show sm (gT f j) g (d + 1) = gT f j g + sm (gT f j) (g + 1) d from rfl, this, Nat.add_assoc]
          · show B j + sm (evP f j g) 0 8 + sm (gP f j) (g + 1) d = B j + sm (gP f j) g (d + 1)
            rw [show sm (gP f j) g (d + 1) = gP f j g + sm (gP f j) (g + 1) d from rfl, show gP f j g = sm (evP f j g) 0 8 from if_pos c4, Nat.add_assoc]
        · rw [if_neg c4] at tb
          obtain ⟨N', e1, e2⟩ := ih (g + 1) (some (.inr (G_ g))) (some (.inr 0)) A B N (by omega) hC
          refine ⟨N', ?_, CT_e e2 (fun j => ?_) (fun j => ?_)⟩
          · rw [e_101_31, ← e1]
            simp only [e_101_51, e_101_57, c_I, c_R, c_V, if_true, if_false, true_and, and_true, true_or, or_true, List.length_nil, List.length_cons, Nat.zero_le, k_si, l_si, r_si, k_sr, l_sr, i_sr, n_si, ar_si, ar_sr, ar_0, h1, t1, t2, t3, s3, s4, i_t hgn (show n < 2 ^ 31 by omega), i_c (show g < 2 ^ 31 by omega), g1, g2, rc3 n3, C_own0 hR hgn c2, tb, nI_1]
          · show A j + sm (gT f j) (g + 1) d = A j + sm (gT f j) g (d + 1)
            rw [sm, show gT f j g = 0 from by unfold gT; rw [if_neg (fun q => c2 q.1), if_neg c4], Nat.zero_add]
          · show B j + sm (gP f j) (g + 1) d = B j + sm (gP f j) g (d + 1)
            rw [sm, show gP f j g = 0 from if_neg c4, Nat.zero_add]
  have zero : ∀ (d g : Nat) (u : Option mV) (c : Nat → Nat → Int32), g + d = n → (∀ a k, ¬ (∃ i, i < n ∧ a = G_ i ∧ (k = 7 ∨ k = 8)) → c a k = h_i M a k) → (∀ i, i < g → c (G_ i) 7 = 0 ∧ c (G_ i) 8 = 0) → ∃ N, ev 101 8 [some (.inr 4), some (.inr 10), some (.inl (nI n)), some (.inl (nI g)), u, none] [] (mkU M c) = some (none, N) ∧ CT n M (fun i => sm (gT f i) 0 n) (fun i => sm (gP f i) 0 n) N := by
    intro d
    induction d with
    | zero =>
      intro g u c hg hc hz
      have h1 : nI n ≤ nI g := by rw [show g = n by omega]; exact nI_le (Nat.le_refl _) (by omega)
      have hC : CT n M (fun _ => 0) (fun _ => 0) (mkU M c) := ⟨c, rfl, hc, fun i hi => hz i (by omega)⟩
      obtain ⟨N, e1, e2⟩ := main n 0 u none _ _ _ (by omega) hC
      refine ⟨N, ?_, CT_e e2 (fun j => Nat.zero_add _) (fun j => Nat.zero_add _)⟩
      rw [show nI 0 = 0 from rfl] at e1
      rw [e_101_8, if_pos h1, U_kf, U_lf, U_rf, if_pos s1, s2, s3, s4, if_pos (by decide)]
      exact e1
    | succ d ih =>
      intro g u c hg hc hz
      have hgn : g < n := by omega
      have h1 := nI_ge hgn (show n < 2 ^ 31 by omega)
      obtain ⟨g1, g2, -⟩ := s5 g hgn
      obtain ⟨N, e1, e2⟩ := ih (g + 1) (some (.inr (G_ g))) (f_s (f_s c (G_ g) 7 0) (G_ g) 8 0) (by omega) (fun a k q => by
        rw [f_s_ne (by by_cases e : a = G_ g ∧ k = 8; exact absurd ⟨g, hgn, e.1, Or.inr e.2⟩ q; omega), f_s_ne (by by_cases e : a = G_ g ∧ k = 7; exact absurd ⟨g, hgn, e.1, Or.inl e.2⟩ q; omega)]
        exact hc a k q) (fun i hi => by
        by_cases e : i = g
        · subst e
          rw [f_s_eq, f_s_ne (by omega), f_s_eq]; exact ⟨rfl, rfl⟩
        · rw [f_s_ne (by unfold G_; omega), f_s_ne (by unfold G_; omega), f_s_ne (by unfold G_; omega), f_s_ne (by unfold G_; omega)]
          exact hz i (by omega))
      refine ⟨N, ?_, e2⟩
      rw [e_101_8, ← e1]
      simp only [c_I, c_R, c_V, if_true, if_false, true_and, and_true, true_or, or_true, List.length_nil, List.length_cons, Nat.zero_le, k_si, l_si, r_si, k_sr, l_sr, i_sr, n_si, ar_si, ar_sr, ar_0, h1, U_kf, U_lf, U_rf, s3, s4, i_t hgn (show n < 2 ^ 31 by omega), i_c (show g < 2 ^ 31 by omega), g1, g2, nI_1]
      rfl
  obtain ⟨N, e1, e2⟩ := zero n 0 none (h_i M) (by omega) (fun _ _ _ => rfl) (fun i hi => absurd hi (Nat.not_lt_zero _))
  refine ⟨N, ?_, e2⟩
  rw [show nI 0 = 0 from rfl] at e1
  rw [e_101_0, if_pos s1, s2, s3, s4, if_pos (by decide)]
  exact e1
theorem op_astray (h : Rel n M f ρ τ κ) : OK2 n M (ev 72 0 [some (.inr 4), none, none, none, none, none] [] M) (ev 182 0 [some (.inr 4)] [] (mkR f)) := by
  have hN := h.2.2.2.1.2.2.1
  have hq := h.2.2.2.1
  have s1 := h.1.2.1.1
  obtain ⟨N, eN, hC⟩ := C_count h
  have hR := CT_rel h hC
  obtain ⟨t1, t2, t3, t4, t5⟩ := CT_s hC
  obtain ⟨-, ⟨r1, r2, -, -⟩, -, ⟨r3, r4⟩, r5, -⟩ := hR.1
  have not : ∀ g, g < n → ev 102 0 [some (.inr 4), some (.inr (G_ g))] [] N = some (some (.inl 0), N) := fun g hg => by
    obtain ⟨g1, g2, -⟩ := r5 g hg
    obtain ⟨c, hc, -, c2⟩ := hC
    have c7 : h_i N (G_ g) 7 = nI (sm (gT f g) 0 n) := by rw [hc]; exact (c2 g hg).1
    have c8 : h_i N (G_ g) 8 = nI (sm (gP f g) 0 n) := by rw [hc]; exact (c2 g hg).2
    have z2 := (hR.2.2.2.2.2.1 g hg).2.1
    rcases (hR.2.2.2.2.2.1 g hg).2.2.2 with ⟨e, w⟩ | ⟨e, w⟩ | ⟨e, w1, w2, w3, w4⟩ | ⟨e, w⟩ | ⟨e, w⟩
    · have e5 : ¬ f 5 g = 5 := by rcases e with e | e <;> (rw [e]; decide)
      rw [P_zero hq e5] at c8
      rcases e with e | e
      · simp only [e_102_0, e_102_51, c_I, c_R, c_V, if_true, if_false, true_and, and_true, true_or, or_true, List.length_nil, List.length_cons, Nat.zero_le, k_si, l_si, r_si, k_sr, l_sr, i_sr, n_si, ar_si, ar_sr, ar_0, g2, z2, e, c8, show ((0 : Int32) = 2) = False from eq_false (by decide), show ((0 : Int32) = 3) = False from eq_false (by decide), show ((0 : Int32) = 4) = False from eq_false (by decide), show ((0 : Int32) = 5) = False from eq_false (by decide), show (nI 0 = 0) = True from eq_true rfl]
      · simp only [e_102_0, e_102_51, c_I, c_R, c_V, if_true, if_false, true_and, and_true, true_or, or_true, List.length_nil, List.length_cons, Nat.zero_le, k_si, l_si, r_si, k_sr, l_sr, i_sr, n_si, ar_si, ar_sr, ar_0, g2, z2, e, c8, show ((1 : Int32) = 2) = False from eq_false (by decide), show ((1 : Int32) = 3) = False from eq_false (by decide), show ((1 : Int32) = 4) = False from eq_false (by decide), show ((1 : Int32) = 5) = False from eq_false (by decide), show (nI 0 = 0) = True from eq_true rfl]
    · simp only [e_102_0, e_102_11, c_I, c_R, c_V, if_true, if_false, true_and, and_true, true_or, or_true, List.length_nil, List.length_cons, Nat.zero_le, k_si, l_si, r_si, k_sr, l_sr, i_sr, n_si, ar_si, ar_sr, ar_0, g2, z2, e, w.1, rc7 r1, C_nums hR hg e, z10]
    · obtain ⟨o1, o2, o3⟩ := hq.2.2.2.2.2.2.2.1 g hg e
      have bo := at_d hR o1 o3
      obtain ⟨d1, d2, -⟩ := hR.2.2.2.2.2.2.1 _ o1 o3
      have k14 : ¬ h_k N (ρ (ow f g)) = 14 := by rw [bo.2]; decide
      have go := (r5 _ o1).2.1
      simp only [e_102_0, e_102_28, c_I, c_R, c_V, if_true, if_false, true_and, and_true, true_or, or_true, List.length_nil, List.length_cons, Nat.zero_le, k_si, l_si, r_si, k_sr, l_sr, i_sr, n_si, ar_si, ar_sr, ar_0, g2, z2, e, w1, w3, κ_ne hR hg e, ρ_ne hR o1 o3, d2, rc3 go, C_own1 hR o1 o3, k14, not_false_eq_true, and_self, show ((3 : Int32) = 2) = False from eq_false (by decide), bo.2, Nat.reduceEqDiff]
    · rw [T_one hq hg e] at c7
      simp only [e_102_0, e_102_36, c_I, c_R, c_V, if_true, if_false, true_and, and_true, true_or, or_true, List.length_nil, List.length_cons, Nat.zero_le, k_si, l_si, r_si, k_sr, l_sr, i_sr, n_si, ar_si, ar_sr, ar_0, g2, z2, e, c7, show ((4 : Int32) = 2) = False from eq_false (by decide), show ((4 : Int32) = 3) = False from eq_false (by decide), show (nI 1 = 1) = True from eq_true rfl]
    · rw [P_one hq hg e] at c8
      simp only [e_102_0, e_102_44, c_I, c_R, c_V, if_true, if_false, true_and, and_true, true_or, or_true, List.length_nil, List.length_cons, Nat.zero_le, k_si, l_si, r_si, k_sr, l_sr, i_sr, n_si, ar_si, ar_sr, ar_0, g2, z2, e, c8, show ((5 : Int32) = 2) = False from eq_false (by decide), show ((5 : Int32) = 3) = False from eq_false (by decide), show ((5 : Int32) = 4) = False from eq_false (by decide), show (nI 1 = 1) = True from eq_true rfl]
  have loop : ∀ (d g : Nat) (u : Option mV), g + d = n → ev 72 12 [some (.inr 4), some (.inl 0), some (.inr 10), some (.inl (nI n)), some (.inl (nI g)), u] [] N = some (some (.inl 0), N) := by
    intro d
    induction d with
    | zero =>
      intro g u hg
      have h1 : nI n ≤ nI g := by rw [show g = n by omega]; exact nI_le (Nat.le_refl _) (by omega)
      rw [e_72_12, if_pos h1]
    | succ d ih =>
      intro g u hg
      have hgn : g < n := by omega
      have h1 := nI_ge hgn (show n < 2 ^ 31 by omega)
      obtain ⟨g1, g2, -⟩ := r5 g hgn
      rw [e_72_12]
      simp only [e_72_24, c_I, c_R, c_V, if_true, if_false, true_and, and_true, true_or, or_true, List.length_nil, List.length_cons, Nat.zero_le, k_si, l_si, r_si, k_sr, l_sr, i_sr, n_si, ar_si, ar_sr, ar_0, h1, r3, r4, i_t hgn (show n < 2 ^ 31 by omega), i_c (show g < 2 ^ 31 by omega), g1, rc7 r1, not g hgn, nI_1, ih (g + 1) _ (show g + 1 + d = n by omega)]
  have k0 := loop n 0 none (by omega)
  rw [show nI 0 = 0 from rfl] at k0
  refine OK2.of (v := 0) (M' := N) (f' := f) ?_ (by rw [e_182_0]) hR t4 t5
  simp only [e_72_0, c_I, c_R, c_V, if_true, if_false, true_and, and_true, true_or, or_true, List.length_nil, List.length_cons, Nat.zero_le, k_si, l_si, r_si, k_sr, l_sr, i_sr, n_si, ar_si, ar_sr, ar_0, rc7 s1, eN, r1, r2, r3, r4, show (9 ≤ 11) = True from eq_true (by decide), show (11 ≤ 13) = True from eq_true (by decide)]
  exact k0
end OP
