def mkV (M : mM) (R : Nat → Nat → Nat) : mM := (h_n M, h_v M, h_k M, h_l M, h_i M, R)
theorem V_r (M : mM) (R : Nat → Nat → Nat) (a k : Nat) : h_r (mkV M R) a k = R a k := rfl
theorem C_fill {M : mM} {a N : Nat} {x : Int32} (hN : N < 2 ^ 31) (hk : h_k M a = 9) (hl : h_l M a = N) : ev 183 0 [some (.inr a), some (.inl x), none, none] [] M = some (none, mkU M (f_r (h_i M) a 0 N (fun _ => x))) := by
  have key : ∀ (d k : Nat) (c : Nat → Nat → Int32), k + d = N → ev 183 5 [some (.inr a), some (.inl x), some (.inl (nI k)), some (.inl (nI N))] [] (mkU M c) = some (none, mkU M (f_r c a k N (fun _ => x))) := by
    intro d
    induction d with
    | zero =>
      intro k c h
      rw [e_183_5, if_pos (by rw [show k = N by omega]; exact nI_le (Nat.le_refl _) hN), show k = N by omega, f_r0]
    | succ d ih =>
      intro k c h
      rw [e_183_5]
      simp only [nI_ge (show k < N by omega) hN, U_i, U_si, U_cp, U_k, U_l, U_r, if_true, if_false, true_and, and_true, true_or, or_true, List.length_nil, List.length_cons, Nat.zero_le, c_I, c_R, c_V, hk, hl, i_t (show k < N by omega) hN, i_c (show k < 2 ^ 31 by omega), nI_1]
      rw [ih (k + 1) _ (by omega), f_rs c a k N (fun _ => x) (by omega)]
  rw [e_183_0, hk, hl, if_pos (by decide)]
  exact key N 0 (h_i M) (by omega)
def xw (f : Nat → Nat → Int32) (g : Nat) (a b c d : Int32) : Nat → Nat → Int32 := f_s (f_s (f_s (f_s (f_r f 6 (32 * g) (32 * g + 32) (fun _ => 0)) 6 (32 * g) a) 6 (32 * g + 1) b) 6 (32 * g + 2) c) 6 (32 * g + 3) d
def X_ (f : Nat → Nat → Int32) (g : Nat) (a b c d : Int32) : Nat → Nat → Int32 := f_s (f_s (if f 5 g = 0 then xw f g a b c d else f) 4 2 (-1)) 4 3 (f 4 3 + 1)
theorem f4r {f : Nat → Nat → Int32} {a lo hi : Nat} {w : Nat → Int32} {y : Int32} (h : a ≠ 4) : f_r (f_s f 4 1 y) a lo hi w = f_s (f_r f a lo hi w) 4 1 y := by
  funext b j
  unfold f_s f_r
  by_cases h1 : b = a ∧ lo ≤ j ∧ j < hi
  · rw [if_pos h1, if_neg (by omega), if_pos h1]
  · rw [if_neg h1, if_neg h1]
theorem X4 (f : Nat → Nat → Int32) (g : Nat) (a b c d y : Int32) : X_ (f_s f 4 1 y) g a b c d = f_s (X_ f g a b c d) 4 1 y := by
  unfold X_ xw
  rw [f_s_row (show 5 ≠ 4 by decide), f4n (show 3 ≠ 1 by decide)]
  split <;> simp only [f4r (show 6 ≠ 4 by decide), f4c (show 6 ≠ 4 by decide), f4k (show 2 ≠ 1 by decide), f4k (show 3 ≠ 1 by decide)]
theorem X_row (f : Nat → Nat → Int32) (g : Nat) (a b c d : Int32) {k : Nat} (h1 : k ≠ 4) (h2 : k ≠ 6) : X_ f g a b c d k = f k := by
  unfold X_ xw
  rw [f_s_row h1, f_s_row h1]
  split
  · rw [f_s_row h2, f_s_row h2, f_s_row h2, f_s_row h2, f_r_row h2]
  · rfl
theorem n32k (g : Nat) : nI (32 * g) + 2 = nI (32 * g + 2) := by rw [show (2 : Int32) = nI 2 from rfl, nI_add]
theorem n32l (g : Nat) : nI (32 * g) + 3 = nI (32 * g + 3) := by rw [show (3 : Int32) = nI 3 from rfl, nI_add]
theorem R_exit {f : Nat → Nat → Int32} {r g : Nat} (hr : r < 96) (hg : g < 96) (h1 : f 4 2 = nI r) (h2 : f 26 r = nI g) (a b c d : Int32) : ev 159 0 [some (.inr 4), some (.inl a), some (.inl b), some (.inl c), some (.inl d), none, none] [] (mkR f) = some (some (.inl 2), mkR (X_ f g a b c d)) := by
  have fin : ∀ (F : Nat → Nat → Int32) (q : Option mV), ev 159 61 [some (.inr 4), some (.inl a), some (.inl b), some (.inl c), some (.inl d), some (.inl (nI g)), q] [] (mkR F) = some (some (.inl 2), mkR (f_s (f_s F 4 2 (-1)) 4 3 (F 4 3 + 1))) := by
    intro F q
    simp only [e_159_61, kR1, kR2, kR3, kR4, kR5, kR6, kR7, kR8, kR9, kR10, kR11, kR12, kR13, kR14, kR15, kR16, kR17, kR18, kR19, kR20, kR21, kR22, kR23, kR24, kR25, kR26, kR27, kR28, kR29, kR30, lR1, lR2, lR3, lR4, lR5, lR6, lR7, lR8, lR9, lR10, lR11, lR12, lR13, lR14, lR15, lR16, lR17, lR18, lR19, lR20, lR21, lR22, lR23, lR24, lR25, lR26, lR27, lR28, lR29, lR30, rR5, rR6, rR7, rR8, rR9, rR10, rR11, rR12, rR13, rR14, rR15, rR16, rR17, rR18, rR19, rR20, rR21, rR22, rR23, rR24, rR25, rR26, rR27, rR28, rR29, rR30, R_i, R_si, R_rec, if_true, if_false, true_and, and_true, true_or, or_true, List.length_nil, List.length_cons, Nat.zero_le, c_I, c_R, c_V, f4n (show 3 ≠ 2 by decide)]
  have key : ∀ (dd k : Nat) (F : Nat → Nat → Int32), k + dd = 32 → ev 159 13 [some (.inr 4), some (.inl a), some (.inl b), some (.inl c), some (.inl d), some (.inl (nI g)), some (.inl (nI k))] [] (mkR F) = some (some (.inl 2), mkR (f_s (f_s (f_s (f_s (f_s (f_s (f_r F 6 (32 * g + k) (32 * g + 32) (fun _ => 0)) 6 (32 * g) a) 6 (32 * g + 1) b) 6 (32 * g + 2) c) 6 (32 * g + 3) d) 4 2 (-1)) 4 3 (F 4 3 + 1))) := by
    intro dd
    induction dd with
    | zero =>
      intro k F hk
      rw [e_159_13, if_pos (by rw [show k = 32 by omega]; decide), show 32 * g + k = 32 * g + 32 by omega, f_r0]
      simp only [kR1, kR2, kR3, kR4, kR5, kR6, kR7, kR8, kR9, kR10, kR11, kR12, kR13, kR14, kR15, kR16, kR17, kR18, kR19, kR20, kR21, kR22, kR23, kR24, kR25, kR26, kR27, kR28, kR29, kR30, lR1, lR2, lR3, lR4, lR5, lR6, lR7, lR8, lR9, lR10, lR11, lR12, lR13, lR14, lR15, lR16, lR17, lR18, lR19, lR20, lR21, lR22, lR23, lR24, lR25, lR26, lR27, lR28, lR29, lR30, rR5, rR6, rR7, rR8, rR9, rR10, rR11, rR12, rR13, rR14, rR15, rR16, rR17, rR18, rR19, rR20, rR21, rR22, rR23, rR24, rR25, rR26, rR27, rR28, rR29, rR30, R_i, R_si, R_rec, if_true, if_false, true_and, and_true, true_or, or_true, List.length_nil, List.length_cons, Nat.zero_le, c_I, c_R, c_V, n32', nI_1, n32k, n32l, i_t (show 32 * g < 3072 by omega) (by decide), i_c (show 32 * g < 2 ^ 31 by omega), i_t (show 32 * g + 1 < 3072 by omega) (by decide), i_c (show 32 * g + 1 < 2 ^ 31 by omega), i_t (show 32 * g + 2 < 3072 by omega) (by decide), i_c (show 32 * g + 2 < 2 ^ 31 by omega), i_t (show 32 * g + 3 < 3072 by omega) (by decide), i_c (show 32 * g + 3 < 2 ^ 31 by omega), fin]
      simp only [f_s_row (show 4 ≠ 6 by decide)]
    | succ dd ih =>
      intro k F hk
      rw [e_159_13]
      simp only [kR1, kR2, kR3, kR4, kR5, kR6, kR7, kR8, kR9, kR10, kR11, kR12, kR13, kR14, kR15, kR16, kR17, kR18, kR19, kR20, kR21, kR22, kR23, kR24, kR25, kR26, kR27, kR28, kR29, kR30, lR1, lR2, lR3, lR4, lR5, lR6, lR7, lR8, lR9, lR10, lR11, lR12, lR13, lR14, lR15, lR16, lR17, lR18, lR19, lR20, lR21, lR22, lR23, lR24, lR25, lR26, lR27, lR28, lR29, lR30, rR5, rR6, rR7, rR8, rR9, rR10, rR11, rR12, rR13, rR14, rR15, rR16, rR17, rR18, rR19, rR20, rR21, rR22, rR23, rR24, rR25, rR26, rR27, rR28, rR29, rR30, R_i, R_si, R_rec, if_true, if_false, true_and, and_true, true_or, or_true, List.length_nil, List.length_cons, Nat.zero_le, c_I, c_R, c_V, n32, nI_1, n_l (N := 32) (k := k) 32 rfl (by omega) (by decide), i_t (show 32 * g + k < 3072 by omega) (by decide), i_c (show 32 * g + k < 2 ^ 31 by omega)]
      rw [ih (k + 1) _ (by omega), ← Nat.add_assoc, f_rs F 6 (32 * g + k) (32 * g + 32) (fun _ => 0) (by omega), f_s_row (show 4 ≠ 6 by decide)]
  have k0 := key 32 0 f rfl
  rw [show nI 0 = 0 from rfl, Nat.add_zero] at k0
  by_cases c0 : f 5 g = 0
  · simp only [e_159_0, kR1, kR2, kR3, kR4, kR5, kR6, kR7, kR8, kR9, kR10, kR11, kR12, kR13, kR14, kR15, kR16, kR17, kR18, kR19, kR20, kR21, kR22, kR23, kR24, kR25, kR26, kR27, kR28, kR29, kR30, lR1, lR2, lR3, lR4, lR5, lR6, lR7, lR8, lR9, lR10, lR11, lR12, lR13, lR14, lR15, lR16, lR17, lR18, lR19, lR20, lR21, lR22, lR23, lR24, lR25, lR26, lR27, lR28, lR29, lR30, rR5, rR6, rR7, rR8, rR9, rR10, rR11, rR12, rR13, rR14, rR15, rR16, rR17, rR18, rR19, rR20, rR21, rR22, rR23, rR24, rR25, rR26, rR27, rR28, rR29, rR30, R_i, R_si, R_rec, if_true, if_false, true_and, and_true, true_or, or_true, List.length_nil, List.length_cons, Nat.zero_le, c_I, c_R, c_V, h1, h2, i_t hr (N := 96) (by decide), i_c (show r < 2 ^ 31 by omega), R_is hg, c0, z10, k0]
    unfold X_ xw
    rw [if_pos c0]
  · simp only [e_159_0, kR1, kR2, kR3, kR4, kR5, kR6, kR7, kR8, kR9, kR10, kR11, kR12, kR13, kR14, kR15, kR16, kR17, kR18, kR19, kR20, kR21, kR22, kR23, kR24, kR25, kR26, kR27, kR28, kR29, kR30, lR1, lR2, lR3, lR4, lR5, lR6, lR7, lR8, lR9, lR10, lR11, lR12, lR13, lR14, lR15, lR16, lR17, lR18, lR19, lR20, lR21, lR22, lR23, lR24, lR25, lR26, lR27, lR28, lR29, lR30, rR5, rR6, rR7, rR8, rR9, rR10, rR11, rR12, rR13, rR14, rR15, rR16, rR17, rR18, rR19, rR20, rR21, rR22, rR23, rR24, rR25, rR26, rR27, rR28, rR29, rR30, R_i, R_si, R_rec, if_true, if_false, true_and, and_true, true_or, or_true, List.length_nil, List.length_cons, Nat.zero_le, c_I, c_R, c_V, h1, h2, i_t hr (N := 96) (by decide), i_c (show r < 2 ^ 31 by omega), R_is hg, c0, fin]
    unfold X_ xw
    rw [if_neg c0]
section OP
variable {n : Nat} {M : mM} {f : Nat → Nat → Int32} {ρ τ κ : Nat → Nat}
/-- who runs, and where it comes out: nothing else changes -/
theorem Rel_run (h : Rel n M f ρ τ κ) {R : Nat → Nat → Nat} {f' : Nat → Nat → Int32} (hR : ∀ a k, ¬ (a = 4 ∧ k = 3) → ¬ (h_k M a = 5 ∧ k = 9) → R a k = h_r M a k) (hf : ∀ b j, b ≠ 26 → ¬ (b = 4 ∧ j = 2) → f' b j = f b j) (hz : (f' 4 2 = -1 ∧ R 4 3 = 0) ∨ ∃ r g, r < n ∧ g < n ∧ f' 4 2 = nI r ∧ f 5 r = 3 ∧ R 4 3 = κ r ∧ f' 26 r = nI g ∧ R (κ r) 9 = G_ g) : Rel n (mkV M R) f' ρ τ κ := by
  have r : ∀ b, b ≠ 26 → b ≠ 4 → f' b = f b := fun b h1 h4 => funext fun j => hf b j h1 (by omega)
  have r3 := r 3 (by omega) (by omega)
  have r5 := r 5 (by omega) (by omega)
  have r6 := r 6 (by omega) (by omega)
  have r7 := r 7 (by omega) (by omega)
  have r8 := r 8 (by omega) (by omega)
  have r9 := r 9 (by omega) (by omega)
  have r10 := r 10 (by omega) (by omega)
  have r11 := r 11 (by omega) (by omega)
  have r12 := r 12 (by omega) (by omega)
  have r13 := r 13 (by omega) (by omega)
  have r14 := r 14 (by omega) (by omega)
  have r15 := r 15 (by omega) (by omega)
  have r16 := r 16 (by omega) (by omega)
  have r17 := r 17 (by omega) (by omega)
  have r18 := r 18 (by omega) (by omega)
  have r19 := r 19 (by omega) (by omega)
  have r20 := r 20 (by omega) (by omega)
  have r21 := r 21 (by omega) (by omega)
  have r22 := r 22 (by omega) (by omega)
  have r23 := r 23 (by omega) (by omega)
  have r24 := r 24 (by omega) (by omega)
  have r25 := r 25 (by omega) (by omega)
  have r27 := r 27 (by omega) (by omega)
  have k0 := hf 4 0 (by omega) (by omega)
  have k1 := hf 4 1 (by omega) (by omega)
  have k3 := hf 4 3 (by omega) (by omega)
  have k4 := hf 4 4 (by omega) (by omega)
  have k31 := hf 4 31 (by omega) (by omega)
  obtain ⟨hB, hX, hst, hq, hh, hg, hd, ht, hcx⟩ := id h
  have hq' : q_ref n f' := by
    obtain ⟨q1, q2, q3, q4, q5, q6, q7, q8, q9⟩ := hq
    refine ⟨by rw [k0]; exact q1, q2, q3, by rw [k31]; exact q4, by rw [r3]; exact q5, ?_, ?_, ?_, ?_⟩
    · simp only [q_tree, q_tab, q_own, q_T1, q_T2, q_rip, q_root, lv, bs, ow, tg, r5, r7, r9, r12, r13, r14, r15, r16, r27]; exact q6
    · simp only [q_own, q_T3, lv, bs, ow, r5, r7, r12, r13, r14, r15]; exact q7
    · simp only [q_own, ow, r5, r7]; exact q8
    · rw [r5, r7]; exact q9
  have e5 : ∀ k, R 5 k = h_r M 5 k := fun k => hR 5 k (by omega) (fun q => by rw [hB.1.1] at q; omega)
  have e10 : ∀ k, R 10 k = h_r M 10 k := fun k => hR 10 k (by omega) (fun q => by rw [hB.2.2.2.1.1] at q; omega)
  have eG : ∀ i k, i < n → R (G_ i) k = h_r M (G_ i) k := fun i k hi => hR _ k (by unfold G_; omega) (fun q => by rw [(hB.2.2.2.2.1 i hi).2.1] at q; omega)
  refine ⟨?_, ?_, hst, hq', ?_, fun i hi => ?_, fun i hi h2 => ?_, fun i hi h2 => ?_, fun i hi h2 => ?_⟩
  · obtain ⟨⟨b1, b2, b3, b4, b5⟩, ⟨c1, c2, c3, c4⟩, c5, c6, c7, c8⟩ := hB
    refine ⟨⟨b1, (e5 0).trans b2, (e5 1).trans b3, (e5 2).trans b4, b5⟩, ⟨c1, (hR 4 0 (by omega) (by omega)).trans c2, (hR 4 1 (by omega) (by omega)).trans c3, (hR 4 2 (by omega) (by omega)).trans c4⟩, c5, c6, fun i hi => ?_, c8⟩
    obtain ⟨d1, d2, d3, d4⟩ := c7 i hi
    exact ⟨(e10 i).trans d1, d2, (eG i 1 hi).trans d3, d4⟩
  · intro a
    obtain ⟨x1, x2, x3⟩ := hX a
    refine ⟨fun hk => ?_, fun hk => ?_, fun hk => ?_⟩
    · obtain ⟨y1, y2, y3, y4, y5, y6⟩ := x1 hk
      have hk' : h_k M a = 4 := hk
      refine ⟨y1, y2, (hR a 2 (by omega) (by omega)).trans y3, y4, y5, fun q hq => ?_⟩
      obtain ⟨w1, w2⟩ := y6 q hq
      exact ⟨(hR (a + 1) q (by omega) (fun e => by rw [y4] at e; omega)).trans w1, w2⟩
    · obtain ⟨y1, y2, y3, y4, y5, y6⟩ := x2 hk
      have hk' : h_k M a = 6 := hk
      refine ⟨y1, y2, (hR a 2 (by omega) (by omega)).trans y3, y4, y5, fun q hq => ?_⟩
      obtain ⟨w1, w2⟩ := y6 q hq
      exact ⟨(hR (a + 1) q (by omega) (fun e => by rw [y4] at e; omega)).trans w1, w2⟩
    · obtain ⟨y1, y2, y3, y4, y5⟩ := x3 hk
      exact ⟨y1, y2, (hR a 3 (by omega) (by omega)).trans y3, y4, y5⟩
  · refine ⟨hh.1.trans k1.symm, hh.2.1.trans k3.symm, hh.2.2.1.trans k4.symm, ?_⟩
    rcases hz with z | ⟨r, g, z1, z2, z3, z4, z5⟩
    · exact Or.inl z
    · exact Or.inr ⟨r, g, z1, z2, z3, by rw [r5]; exact z4, z5⟩
  · have z := hg i hi
    simp only [z_g, ow, r5, r6, r7, r12, r17, r27, V_r, eG i _ hi] at z ⊢
    exact z
  · rw [r5] at h2
    obtain ⟨a1, a2, a3, a4⟩ := hd i hi h2
    simp only [z_d, rt, cn, r5, r7, r8, r9, r10, r11]
    exact ⟨a1, (hR _ 0 (by omega) (by omega)).trans a2, (hR _ 1 (by omega) (by omega)).trans a3, a4⟩
  · rw [r5] at h2
    obtain ⟨a1, a2, a3, a4⟩ := ht i hi h2
    obtain ⟨x1, x2, x3, x4, x5, x6⟩ := (hX (τ i)).2.1 a1
    refine ⟨a1, (hR _ 0 (by omega) (by omega)).trans a2, by rw [r12]; exact a3, fun e he => ?_⟩
    obtain ⟨c1, c2, c3, c4, c5⟩ := a4 e he
    have hk := (x6 e he).2
    simp only [z_e, lv, bs, tg, r12, r13, r14, r15, r16]
    exact ⟨c1, c2, c3, (hR _ 3 (by omega) (fun q => by rw [hk] at q; omega)).trans c4, (hR _ 4 (by omega) (fun q => by rw [hk] at q; omega)).trans c5⟩
  · rw [r5] at h2
    obtain ⟨a1, a2, a3, a4⟩ := hcx i hi h2
    have b1 := (at_c h hi h2).1
    simp only [z_c, ow, r7, r18, r19, r20, r21, r22, r23, r24, r25]
    exact ⟨a1, (hR _ 0 (by omega) (by omega)).trans a2, (hR _ 1 (by omega) (by omega)).trans a3, a4⟩
theorem U_stop (h : Rel n M f ρ τ κ) : Rel n (h_sr M 4 3 0) (f_s f 4 2 (-1)) ρ τ κ :=
  Rel_run h (fun a k h1 _ => if_neg h1) (fun b j h1 h2 => f_s_ne (by omega)) (Or.inl ⟨f_s_eq, if_pos ⟨rfl, rfl⟩⟩)
theorem W_status (h : Rel n M f ρ τ κ) (x : Int32) : Rel n (h_si M 4 4 x) (f_s f 4 1 x) ρ τ κ := U_status h x
theorem W_exits (h : Rel n M f ρ τ κ) (x : Int32) : Rel n (h_si M 4 5 x) (f_s f 4 3 x) ρ τ κ := U_exits h x
theorem W_faults (h : Rel n M f ρ τ κ) (x : Int32) : Rel n (h_si M 4 6 x) (f_s f 4 4 x) ρ τ κ := U_faults h x
theorem W_word (h : Rel n M f ρ τ κ) {g w : Nat} (x : Int32) (hg : g < n) (hw : w < 32) : Rel n (h_si M (Wd g) w x) (f_s f 6 (32 * g + w) x) ρ τ κ := U_word h x hg hw
theorem W_how (h : Rel n M f ρ τ κ) {o : Nat} (x : Int32) (ho : o < n) (ho2 : f 5 o = 2) (hx : x = 0 ∨ x = 1 ∨ x = 2) : Rel n (h_si M (ρ o) 3 x) (f_s f 8 o x) ρ τ κ := U_how h x ho ho2 hx
theorem W_reg (h : Rel n M f ρ τ κ) {o w : Nat} (x : Int32) (ho : o < n) (ho2 : f 5 o = 3) (hw : w < 8) : Rel n (h_si M (κ o + 1) w x) (f_s f 19 (8 * o + w) x) ρ τ κ := U_reg h x ho ho2 hw
theorem C_fin {M : mM} (s1 : h_k M 4 = 7) (a1 : Nat) (a b c d : Int32) (a6 : Nat) : ev 78 29 [some (.inr 4), some (.inr a1), some (.inl a), some (.inl b), some (.inl c), some (.inl d), some (.inr a6)] [] M = some (some (.inl 2), h_si (h_si (h_sr M 4 3 0) 4 5 (h_i M 4 5 + 1)) 4 4 0) := by
  simp only [e_78_29, c_I, c_R, c_V, if_true, if_false, true_and, and_true, true_or, or_true, List.length_nil, List.length_cons, Nat.zero_le, k_si, l_si, r_si, k_sr, l_sr, i_sr, n_si, ar_si, ar_sr, ar_0, rc7 s1, s1, C_no, C_none, C_yes, C_done, C_bit0, C_bit1, C_fault, z10, z20, z30, z40, z50, z01, zm0, zm1]
theorem il {α : Type} {j N : Nat} {x : Int32} (hx : x = nI j) (h : j < N) (hN : N < 2 ^ 31) {dd : Decidable (h_in x N)} (a b : α) : @ite α (h_in x N) dd a b = a := by subst hx; exact i_t h hN a b
theorem C_78a {M M3 : mM} {q g : Nat} {a b c d : Int32} (r6 : h_k M q = 5) (r15 : h_r M q 9 = G_ g) (g2 : h_k M (G_ g) = 3) (g3 : h_r M (G_ g) 1 = Wd g) (g4 : h_k M (Wd g) = 9) (g5 : h_l M (Wd g) = 32) (c0 : h_i M (G_ g) 2 = 0) (hf : ev 183 0 [some (.inr (Wd g)), some (.inl 0), none, none] [] M = some (none, M3)) (k3 : h_k M3 = h_k M) (l3 : h_l M3 = h_l M) (v3 : h_r M3 = h_r M) : ev 78 0 [some (.inr 4), some (.inr q), some (.inl a), some (.inl b), some (.inl c), some (.inl d), none] [] M = ev 78 29 [some (.inr 4), some (.inr q), some (.inl a), some (.inl b), some (.inl c), some (.inl d), some (.inr (G_ g))] [] (h_si (h_si (h_si (h_si M3 (Wd g) 0 a) (Wd g) 1 b) (Wd g) 2 c) (Wd g) 3 d) := by
  simp only [e_78_0, e_26_0, e_26_10, e_26_11, c_I, c_R, c_V, if_true, if_false, true_and, and_true, true_or, or_true, List.length_nil, List.length_cons, Nat.zero_le, k_si, l_si, r_si, k_sr, l_sr, i_sr, n_si, ar_si, ar_sr, ar_0, rc5 r6, r6, r15, G_ne, g2, g3, g4, g5, c0, hf, k3, l3, v3, il (show (0 : Int32) = nI 0 from rfl) (show 0 < 32 by decide) (by decide), il (show (1 : Int32) = nI 1 from rfl) (show 1 < 32 by decide) (by decide), il (show (2 : Int32) = nI 2 from rfl) (show 2 < 32 by decide) (by decide), il (show (3 : Int32) = nI 3 from rfl) (show 3 < 32 by decide) (by decide)]
theorem si4 (M : mM) (p : Nat) (a b c d : Int32) : h_k (h_si (h_si (h_si (h_si M p 0 a) p 1 b) p 2 c) p 3 d) = h_k M ∧ h_l (h_si (h_si (h_si (h_si M p 0 a) p 1 b) p 2 c) p 3 d) = h_l M ∧ h_r (h_si (h_si (h_si (h_si M p 0 a) p 1 b) p 2 c) p 3 d) = h_r M ∧ h_n (h_si (h_si (h_si (h_si M p 0 a) p 1 b) p 2 c) p 3 d) = h_n M ∧ h_v (h_si (h_si (h_si (h_si M p 0 a) p 1 b) p 2 c) p 3 d) = h_v M := by
  refine ⟨?_, ?_, ?_, ?_, ?_⟩
  · funext x; simp only [k_si]
  · funext x; simp only [l_si]
  · funext x y; simp only [r_si]
  · simp only [n_si]
  · simp only [v_si]
theorem exit4 (h : Rel n M f ρ τ κ) {g : Nat} (hg : g < n) (a b c d : Int32) : Rel n (h_si (h_si (h_si (h_si (mkU M (f_r (h_i M) (Wd g) 0 32 (fun _ => 0))) (Wd g) 0 a) (Wd g) 1 b) (Wd g) 2 c) (Wd g) 3 d) (xw f g a b c d) ρ τ κ :=
  W_word (W_word (W_word (W_word (U_words h hg (Nat.le_refl 32) (lo := 0) (fun _ => 0) (fun _ => 0) (fun _ _ _ _ _ => rfl)) a hg (show 0 < 32 by omega)) b hg (show 1 < 32 by omega)) c hg (show 2 < 32 by omega)) d hg (show 3 < 32 by omega)
theorem exit5 {M4 : mM} {F : Nat → Nat → Int32} (h4 : Rel n M4 F ρ τ κ) : Rel n (h_si (h_si (h_sr M4 4 3 0) 4 5 (h_i M4 4 5 + 1)) 4 4 0) (f_s (f_s (f_s F 4 2 (-1)) 4 3 (F 4 3 + 1)) 4 1 0) ρ τ κ := by
  have e4 := h4.2.2.2.2.1.2.1
  have h5 := W_status (W_exits (U_stop h4) (h_i M4 4 5 + 1)) 0
  rw [e4] at h5 ⊢
  exact h5
theorem exit6 {M4 : mM} (nk : h_k M4 = h_k M) (nl : h_l M4 = h_l M) (nr : h_r M4 = h_r M) (nn : h_n M4 = h_n M) (nv : h_v M4 = h_v M) (x : Int32) : h_n (h_si (h_si (h_sr M4 4 3 0) 4 5 x) 4 4 0) = h_n M ∧ h_v (h_si (h_si (h_sr M4 4 3 0) 4 5 x) 4 4 0) = h_v M ∧ (∀ a k, a ≠ 4 → h_r (h_si (h_si (h_sr M4 4 3 0) 4 5 x) 4 4 0) a k = h_r M a k) ∧ h_k (h_si (h_si (h_sr M4 4 3 0) 4 5 x) 4 4 0) = h_k M ∧ h_l (h_si (h_si (h_sr M4 4 3 0) 4 5 x) 4 4 0) = h_l M :=
  ⟨by simp only [n_si, n_sr, nn], by simp only [v_si, v_sr, nv], fun a k ha => by simp only [r_si, r_sr, nr, ha, false_and, if_false], by funext x; simp only [k_si, k_sr, nk], by funext x; simp only [l_si, l_sr, nl]⟩
theorem C_exit1 {M M3 M4 : mM} {q g : Nat} {a b c d : Int32} (s1 : h_k M 4 = 7) (r6 : h_k M q = 5) (r15 : h_r M q 9 = G_ g) (g2 : h_k M (G_ g) = 3) (g3 : h_r M (G_ g) 1 = Wd g) (g4 : h_k M (Wd g) = 9) (g5 : h_l M (Wd g) = 32) (c0 : h_i M (G_ g) 2 = 0) (e3 : M3 = mkU M (f_r (h_i M) (Wd g) 0 32 (fun _ => 0))) (e4 : M4 = h_si (h_si (h_si (h_si M3 (Wd g) 0 a) (Wd g) 1 b) (Wd g) 2 c) (Wd g) 3 d) : ev 78 0 [some (.inr 4), some (.inr q), some (.inl a), some (.inl b), some (.inl c), some (.inl d), none] [] M = some (some (.inl 2), h_si (h_si (h_sr M4 4 3 0) 4 5 (h_i M4 4 5 + 1)) 4 4 0) := by
  have hf := C_fill (x := 0) (show 32 < 2 ^ 31 by decide) g4 g5
  rw [← e3] at hf
  have k3 : h_k M3 = h_k M := by rw [e3]; rfl
  have l3 : h_l M3 = h_l M := by rw [e3]; rfl
  have v3 : h_r M3 = h_r M := by rw [e3]; rfl
  rw [C_78a r6 r15 g2 g3 g4 g5 c0 hf k3 l3 v3, ← e4, C_fin (by rw [e4]; simp only [k_si, k3, s1])]
theorem C_exit0 {M : mM} {q g : Nat} {a b c d : Int32} (s1 : h_k M 4 = 7) (r6 : h_k M q = 5) (r15 : h_r M q 9 = G_ g) (g2 : h_k M (G_ g) = 3) (c0 : ¬ h_i M (G_ g) 2 = 0) : ev 78 0 [some (.inr 4), some (.inr q), some (.inl a), some (.inl b), some (.inl c), some (.inl d), none] [] M = some (some (.inl 2), h_si (h_si (h_sr M 4 3 0) 4 5 (h_i M 4 5 + 1)) 4 4 0) := by
  simp only [e_78_0, e_26_0, e_26_10, e_26_11, c_I, c_R, c_V, if_true, if_false, true_and, and_true, true_or, or_true, List.length_nil, List.length_cons, Nat.zero_le, k_si, l_si, r_si, k_sr, l_sr, i_sr, n_si, ar_si, ar_sr, ar_0, rc5 r6, r6, r15, G_ne, g2, c0, C_fin s1]
/-- an exit, on both sides -/
theorem exit_ (h : Rel n M f ρ τ κ) {r g o : Nat} (hn : rn_ n M f ρ κ r g o) (a b c d : Int32) : ∃ M', ev 78 0 [some (.inr 4), some (.inr (κ r)), some (.inl a), some (.inl b), some (.inl c), some (.inl d), none] [] M = some (some (.inl 2), M') ∧ (ev 159 0 [some (.inr 4), some (.inl a), some (.inl b), some (.inl c), some (.inl d), none, none] [] (mkR (f_s f 4 1 0)) = some (some (.inl 2), mkR (f_s (X_ f g a b c d) 4 1 0))) ∧ Rel n M' (f_s (X_ f g a b c d) 4 1 0) ρ τ κ ∧ h_n M' = h_n M ∧ h_v M' = h_v M ∧ (∀ a k, a ≠ 4 → h_r M' a k = h_r M a k) ∧ h_k M' = h_k M ∧ h_l M' = h_l M := by
  obtain ⟨⟨hr, hg, ho⟩, r1, r2, r3, r4, r5, r6, r7, r8, r9, r10, r11, r12, r13, r14, r15, r16⟩ := hn
  have s1 := h.1.2.1.1
  have hN := h.2.2.2.1.2.2.1
  obtain ⟨g1, g2, g3, g4, g5⟩ := h.1.2.2.2.2.1 g hg
  have z2 := (h.2.2.2.2.2.1 g hg).2.1
  have rr : ev 159 0 [some (.inr 4), some (.inl a), some (.inl b), some (.inl c), some (.inl d), none, none] [] (mkR (f_s f 4 1 0)) = some (some (.inl 2), mkR (f_s (X_ f g a b c d) 4 1 0)) := by
    rw [R_exit (f := f_s f 4 1 0) (r := r) (g := g) (by omega) (by omega) ((f4n (by decide)).trans r1) (by rw [f_s_row (show 26 ≠ 4 by decide)]; exact r14) a b c d, X4]
  by_cases c0 : f 5 g = 0
  · obtain ⟨nk, nl, nr, nn, nv⟩ := si4 (mkU M (f_r (h_i M) (Wd g) 0 32 (fun _ => 0))) (Wd g) a b c d
    have h4 := exit4 h hg a b c d
    have ce := C_exit1 (M4 := h_si (h_si (h_si (h_si (mkU M (f_r (h_i M) (Wd g) 0 32 (fun _ => 0))) (Wd g) 0 a) (Wd g) 1 b) (Wd g) 2 c) (Wd g) 3 d) s1 r6 r15 g2 g3 g4 g5 (z2.trans c0) rfl rfl
    generalize h_si (h_si (h_si (h_si (mkU M (f_r (h_i M) (Wd g) 0 32 (fun _ => 0))) (Wd g) 0 a) (Wd g) 1 b) (Wd g) 2 c) (Wd g) 3 d = M4 at h4 nk nl nr nn nv ce
    obtain ⟨m1, m2, m3, m4, m5⟩ := exit6 (M := M) nk nl nr nn nv (h_i M4 4 5 + 1)
    have h5 := exit5 h4
    have ex : f_s (f_s (xw f g a b c d) 4 2 (-1)) 4 3 (xw f g a b c d 4 3 + 1) = X_ f g a b c d := by
      unfold X_
      rw [if_pos c0, show xw f g a b c d 4 3 = f 4 3 from by unfold xw; simp only [f_s_row (show 4 ≠ 6 by decide), f_r_row (show 4 ≠ 6 by decide)]]
    rw [ex] at h5
    exact ⟨_, ce, rr, h5, m1, m2, m3, m4, m5⟩
  · have ex : f_s (f_s f 4 2 (-1)) 4 3 (f 4 3 + 1) = X_ f g a b c d := by
      unfold X_
      rw [if_neg c0]
    have h5 := exit5 h
    rw [ex] at h5
    obtain ⟨m1, m2, m3, m4, m5⟩ := exit6 (M := M) rfl rfl rfl rfl rfl (h_i M 4 5 + 1)
    exact ⟨_, C_exit0 s1 r6 r15 g2 (by rw [z2]; exact c0), rr, h5, m1, m2, m3, m4, m5⟩
end OP
