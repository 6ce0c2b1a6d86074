section OP
variable {n : Nat} {M : mM} {f : Nat → Nat → Int32} {ρ τ κ : Nat → Nat}
/-- an entry's ripas -/
theorem W_rip (h : Rel n M f ρ τ κ) {p e : Nat} (x : Int32) (hp : p < n) (hp4 : f 5 p = 4) (he : e < 8) (hx : x = 0 ∨ x = 1 ∨ x = 2) (hk : ¬ f 14 (8 * p + e) = 2) (hb : 2048 ≤ bs f p + e * spn (lv f p) → x = 0) : Rel n (h_si M (τ p + 2 + e) 2 x) (f_s f 16 (8 * p + e) x) ρ τ κ := by
  have hh := h.2.2.2.2.1
  have hN := h.2.2.2.1.2.2.1
  obtain ⟨bo, bk⟩ := at_t h hp hp4
  have fr : ∀ b, b ≠ 16 → f_s f 16 (8 * p + e) x b = f b := fun b hb => f_s_row hb
  refine Rel_i (c := f_s (h_i M) (τ p + 2 + e) 2 x) h (fr 3 (by decide)) (fr 5 (by decide)) (fr 7 (by decide)) (fr 9 (by decide)) (fr 12 (by decide)) (fr 13 (by decide)) (fr 14 (by decide)) (fr 15 (by decide)) (fr 17 (by decide)) (fr 26 (by decide)) (fr 27 (by decide)) (congrFun (fr 4 (by decide)) 0) (congrFun (fr 4 (by decide)) 2) (by rw [fr 4 (by decide)]; exact h.2.2.2.1.2.2.2.1) (fun k => f_s_ne (by omega)) (fun k => f_s_ne (by omega)) ?_ ?_ ?_ (fun i hi => ?_) (fun i k hi hk => ?_) (fun i hi h2 => ?_) (fun i hi h2 => ?_) (fun i e' hi h2 he' => ?_) (fun i hi h2 => ?_)
  · rw [f_s_ne (by omega), fr 4 (by decide)]; exact hh.1
  · rw [f_s_ne (by omega), fr 4 (by decide)]; exact hh.2.1
  · rw [f_s_ne (by omega), fr 4 (by decide)]; exact hh.2.2.1
  · exact ⟨f_s_ne (by unfold G_; omega), f_s_ne (by unfold G_; omega), f_s_ne (by unfold G_; omega)⟩
  · rw [f_s_ne (by unfold Wd; omega), fr 6 (by decide)]; exact (h.2.2.2.2.2.1 i hi).2.2.1 k hk
  · obtain ⟨b1, b2⟩ := at_d h hi h2
    obtain ⟨a1, a2, a3, a4, a5, a6, a7, a8, a9, a10⟩ := h.2.2.2.2.2.2.1 i hi h2
    have d := dj_td h hp hi hp4 h2
    rw [fr 8 (by decide), fr 10 (by decide), fr 11 (by decide)]
    exact ⟨(f_s_ne (by omega)).trans a4, a5, f_s_ne (by omega), (f_s_ne (by omega)).trans a7, f_s_ne (by omega), f_s_ne (by omega), fun q k hq hk => (f_s_ne (by omega)).trans (a10 q k hq hk)⟩
  · obtain ⟨b1, b2⟩ := at_t h hi h2
    obtain ⟨a1, a2, a3, a4⟩ := h.2.2.2.2.2.2.2.1 i hi h2
    have d := rr_tt h hi hp h2 hp4
    refine ⟨f_s_ne (by omega), fun e' he' => ?_⟩
    obtain ⟨c1, c2, c3, c4, c5⟩ := a4 e' he'
    exact ⟨f_s_ne (by omega), f_s_ne (by omega), lk (by omega) c3⟩
  · have a3 := (h.2.2.2.1.2.2.2.2.2.1.2.1 i hi h2).2.2 e' he'
    simp only [q_rip, lv, bs, fr 12 (by decide), fr 13 (by decide)]
    by_cases q : i = p ∧ e' = e
    · obtain ⟨rfl, rfl⟩ := q
      rw [f_s_eq]
      exact ⟨⟨hx, hb⟩, fun h14 => absurd h14 hk⟩
    · rw [f_s_ne (by omega)]
      refine ⟨a3.2, fun h14 => ?_⟩
      rcases a3.1 with ⟨w, -⟩ | ⟨w, -⟩ | ⟨-, -, -, -, -, -, -, -, w⟩
      · rw [h14] at w; exact absurd w (by decide)
      · rw [h14] at w; exact absurd w (by decide)
      · exact w
  · obtain ⟨b1, b2⟩ := at_c h hi h2
    obtain ⟨a1, a2, a3, a4, a5, a6, a7, a8, a9, a10, a11⟩ := h.2.2.2.2.2.2.2.2 i hi h2
    have d := dj_tc h hp hi hp4 h2
    rw [fr 18 (by decide), fr 19 (by decide), fr 20 (by decide), fr 21 (by decide), fr 22 (by decide), fr 23 (by decide), fr 24 (by decide), fr 25 (by decide)]
    exact ⟨(f_s_ne (by omega)).trans a4, a5, fun k hk => (f_s_ne (by omega)).trans (a6 k hk), (f_s_ne (by omega)).trans a7, a8, fun h3 => ⟨(f_s_ne (by omega)).trans (a9 h3).1, (a9 h3).2⟩, fun h3 => ⟨(f_s_ne (by omega)).trans (a10 h3).1, (f_s_ne (by omega)).trans (a10 h3).2.1, (f_s_ne (by omega)).trans (a10 h3).2.2.1, (a10 h3).2.2.2⟩, (f_s_ne (by omega)).trans a11⟩
theorem C_behind {M : mM} {a k b : Nat} (h2 : h_k M a = 2) (h0 : h_i M a 0 = nI k) (h1 : h_i M a 1 = nI b) (hk : k ≤ 3) : ev 13 0 [some (.inr a)] [] M = some (some (.inl (nI (b + spn k))), M) := by
  simp only [e_13_0, c_I, c_R, c_V, if_true, if_false, true_and, and_true, true_or, or_true, List.length_nil, List.length_cons, Nat.zero_le, k_si, l_si, r_si, k_sr, l_sr, i_sr, n_si, ar_si, ar_sr, ar_0, h2, h0, h1, C_span hk, ln1, nI_add]
theorem R_first (h : Rel n M f ρ τ κ) {t i k o P : Nat} (hw : wk_ n M f τ o P k t i) : ev 121 0 [some (.inr 4), some (.inl (nI (8 * t + i)))] [] (mkR f) = some (some (.inl (nI (bs f t + i * spn k))), mkR f) := by
  have hN := h.2.2.2.1.2.2.1
  have hT1 := (h.2.2.2.1.2.2.2.2.2.1.2.1 t hw.1 hw.2.1).2.1
  obtain ⟨w1, w2, w3, w4, w5, w6, w7, w8, w9, -⟩ := hw
  have fo := R_firstOf (f := f) (e := 8 * t + i) (l := k) (by omega) (by rw [show (8 * t + i) / 8 = t by omega]; exact w9) w5
  rw [show (8 * t + i) / 8 = t by omega, show (8 * t + i) % 8 = i by omega, hT1.2.1.1, nI_add] at fo
  exact fo
theorem op_change (h : Rel n M f ρ τ κ) (x : Int32) : OK2 n M (ev 53 0 [some (.inr 4), some (.inl x), none, none, none] [] M) (ev 156 0 [some (.inr 4), some (.inl x), none, none] [] (mkR f)) := by
  have hB := h.1
  have s1 := h.1.2.1.1
  have hn := h.2.2.2.1.1
  have hN := h.2.2.2.1.2.2.1
  rcases ix2 x (show n < 2 ^ 31 by omega) with hx | ⟨r, hr, rfl⟩
  · exact OK2.of (v := -1) (by simp only [e_53_0, e_53_28, e_53_48, c_I, c_R, c_V, if_true, if_false, true_and, and_true, true_or, or_true, List.length_nil, List.length_cons, Nat.zero_le, k_si, l_si, r_si, k_sr, l_sr, i_sr, n_si, ar_si, ar_sr, ar_0, rc7 s1, s1, C_no, C_none, C_yes, C_done, C_bit0, C_bit1, C_fault, z10, z20, z30, z40, z50, z01, zm0, zm1, C_at0 hB hx, R_isG0 hn hx]; try rfl) (by simp only [e_156_0, e_156_32, e_156_70, kR1, kR2, kR3, kR4, kR5, kR6, kR7, kR8, kR9, kR10, kR11, kR12, kR13, kR14, kR15, kR16, kR17, kR18, kR19, kR20, kR21, kR22, kR23, kR24, kR25, kR26, kR27, kR28, kR29, kR30, lR1, lR2, lR3, lR4, lR5, lR6, lR7, lR8, lR9, lR10, lR11, lR12, lR13, lR14, lR15, lR16, lR17, lR18, lR19, lR20, lR21, lR22, lR23, lR24, lR25, lR26, lR27, lR28, lR29, lR30, rR5, rR6, rR7, rR8, rR9, rR10, rR11, rR12, rR13, rR14, rR15, rR16, rR17, rR18, rR19, rR20, rR21, rR22, rR23, rR24, rR25, rR26, rR27, rR28, rR29, rR30, R_i, R_si, R_rec, if_true, if_false, true_and, and_true, true_or, or_true, List.length_nil, List.length_cons, Nat.zero_le, c_I, c_R, c_V, R_no, R_refuse, R_fault, f_s_row, f4c, f4k, f4n, ne_eq, not_false_eq_true, not_true_eq_false, Nat.reduceEqDiff, reduceCtorEq, Nat.succ_ne_zero, Nat.reduceAdd, ar_0, z10, z20, z30, z40, z50, z01, zm0, zm1, C_at0 hB hx, R_isG0 hn hx]; try rfl) (U_status h 1) rfl rfl
  have k2 := (hB.2.2.2.2.1 r hr).2.1
  have hrec := rec_ h hr
  by_cases hs : f 5 r = 3
  · rw [if_pos hs] at hrec
    have k0 := κ_ne h hr hs
    obtain ⟨a1, a2, a3, a4, a5, a6, a7, a8, a9, a10, a11⟩ := h.2.2.2.2.2.2.2.2 r hr hs
    by_cases hp : f 20 r = 2
    · obtain ⟨p1, p2, p3, A, B, hAB, hB2, p4, p5, p6⟩ := a10 hp
      by_cases hd : A = B
      · subst hd
        exact OK2.of (v := -1) (by simp only [e_53_0, e_53_28, e_53_48, c_I, c_R, c_V, if_true, if_false, true_and, and_true, true_or, or_true, List.length_nil, List.length_cons, Nat.zero_le, k_si, l_si, r_si, k_sr, l_sr, i_sr, n_si, ar_si, ar_sr, ar_0, rc7 s1, s1, C_no, C_none, C_yes, C_done, C_bit0, C_bit1, C_fault, z10, z20, z30, z40, z50, z01, zm0, zm1, C_at1 hB hN hr, R_isG1 hn hr (by omega), G_ne, k2, hrec, k0, R_is (show r < 96 by omega), hs, a1, a7, hp, p1, p2, p4, p5, i_t (show r < 96 by omega) (by decide), i_c (show r < 2 ^ 31 by omega)]; try rfl) (by simp only [e_156_0, e_156_32, e_156_70, kR1, kR2, kR3, kR4, kR5, kR6, kR7, kR8, kR9, kR10, kR11, kR12, kR13, kR14, kR15, kR16, kR17, kR18, kR19, kR20, kR21, kR22, kR23, kR24, kR25, kR26, kR27, kR28, kR29, kR30, lR1, lR2, lR3, lR4, lR5, lR6, lR7, lR8, lR9, lR10, lR11, lR12, lR13, lR14, lR15, lR16, lR17, lR18, lR19, lR20, lR21, lR22, lR23, lR24, lR25, lR26, lR27, lR28, lR29, lR30, rR5, rR6, rR7, rR8, rR9, rR10, rR11, rR12, rR13, rR14, rR15, rR16, rR17, rR18, rR19, rR20, rR21, rR22, rR23, rR24, rR25, rR26, rR27, rR28, rR29, rR30, R_i, R_si, R_rec, if_true, if_false, true_and, and_true, true_or, or_true, List.length_nil, List.length_cons, Nat.zero_le, c_I, c_R, c_V, R_no, R_refuse, R_fault, f_s_row, f4c, f4k, f4n, ne_eq, not_false_eq_true, not_true_eq_false, Nat.reduceEqDiff, reduceCtorEq, Nat.succ_ne_zero, Nat.reduceAdd, ar_0, z10, z20, z30, z40, z50, z01, zm0, zm1, C_at1 hB hN hr, R_isG1 hn hr (by omega), G_ne, k2, hrec, k0, R_is (show r < 96 by omega), hs, a1, a7, hp, p1, p2, p4, p5, i_t (show r < 96 by omega) (by decide), i_c (show r < 2 ^ 31 by omega)]; try rfl) (U_status h 4) rfl rfl
      have hd2 : ¬ nI A = nI B := fun e => hd (nI_inj (by omega) (by omega) e)
      obtain ⟨o1, o2, o3⟩ := h.2.2.2.1.2.2.2.2.2.2.2.1 r hr hs
      generalize ow f r = o at a3 o1 o2 o3
      have r4 := (at_d h o1 o3).2
      obtain ⟨k, t, i, hw, hk, l1, l3, -⟩ := leaf_ h o1 o3 (show A < 4096 by omega)
      have fo := R_first h hw
      obtain ⟨w1, w2, w3, w4, w5, w6, w7, w8, w9, w10, w11, w12, w13, w14, w15⟩ := hw
      have d8 : (8 * t + i) / 8 = t := by omega
      have bh := C_behind w10 w11 w12 w5
      have sp := spn_pos k
      have hlt : bs f t + i * spn k < 2 ^ 30 := by omega
      by_cases c1 : bs f t + i * spn k < A
      · have c1' := nI_lt c1 (show A < 2 ^ 31 by omega)
        exact OK2.of (v := -1) (by simp only [e_53_0, e_53_28, e_53_48, c_I, c_R, c_V, if_true, if_false, true_and, and_true, true_or, or_true, List.length_nil, List.length_cons, Nat.zero_le, k_si, l_si, r_si, k_sr, l_sr, i_sr, n_si, ar_si, ar_sr, ar_0, rc7 s1, s1, C_no, C_none, C_yes, C_done, C_bit0, C_bit1, C_fault, z10, z20, z30, z40, z50, z01, zm0, zm1, C_at1 hB hN hr, R_isG1 hn hr (by omega), G_ne, k2, hrec, k0, R_is (show r < 96 by omega), hs, a1, a3, a7, hp, p1, p2, p4, p5, hd2, i_t (show r < 96 by omega) (by decide), i_c (show r < 2 ^ 31 by omega), rc4 r4, l1, l3, o2, w10, w12, c1', fo, R_levelOf (show 8 * t + i < 768 by omega), d8, w9, R_span w5, ln1]; try rfl) (by simp only [e_156_0, e_156_32, e_156_70, kR1, kR2, kR3, kR4, kR5, kR6, kR7, kR8, kR9, kR10, kR11, kR12, kR13, kR14, kR15, kR16, kR17, kR18, kR19, kR20, kR21, kR22, kR23, kR24, kR25, kR26, kR27, kR28, kR29, kR30, lR1, lR2, lR3, lR4, lR5, lR6, lR7, lR8, lR9, lR10, lR11, lR12, lR13, lR14, lR15, lR16, lR17, lR18, lR19, lR20, lR21, lR22, lR23, lR24, lR25, lR26, lR27, lR28, lR29, lR30, rR5, rR6, rR7, rR8, rR9, rR10, rR11, rR12, rR13, rR14, rR15, rR16, rR17, rR18, rR19, rR20, rR21, rR22, rR23, rR24, rR25, rR26, rR27, rR28, rR29, rR30, R_i, R_si, R_rec, if_true, if_false, true_and, and_true, true_or, or_true, List.length_nil, List.length_cons, Nat.zero_le, c_I, c_R, c_V, R_no, R_refuse, R_fault, f_s_row, f4c, f4k, f4n, ne_eq, not_false_eq_true, not_true_eq_false, Nat.reduceEqDiff, reduceCtorEq, Nat.succ_ne_zero, Nat.reduceAdd, ar_0, z10, z20, z30, z40, z50, z01, zm0, zm1, C_at1 hB hN hr, R_isG1 hn hr (by omega), G_ne, k2, hrec, k0, R_is (show r < 96 by omega), hs, a1, a3, a7, hp, p1, p2, p4, p5, hd2, i_t (show r < 96 by omega) (by decide), i_c (show r < 2 ^ 31 by omega), rc4 r4, l1, l3, o2, w10, w12, c1', fo, R_levelOf (show 8 * t + i < 768 by omega), d8, w9, R_span w5, ln1]; try rfl) (U_status h 5) rfl rfl
      have c1' := nI_nlt (show A ≤ bs f t + i * spn k by omega) (show bs f t + i * spn k < 2 ^ 31 by omega)
      by_cases c2 : bs f t + i * spn k + spn k ≤ B
      · have c2' := nI_le c2 (show B < 2 ^ 31 by omega)
        have h1 := W_rip h (f 23 r) w1 w2 w6 (by rcases p6 with e | e <;> simp [e]) hk (by rw [w4]; omega)
        have c3 : h_i (h_si M (τ t + 2 + i) 2 (f 23 r)) (τ t + 2 + i) 0 = nI k := by rw [i_si, if_neg (by omega)]; exact w11
        have c4 : h_i (h_si M (τ t + 2 + i) 2 (f 23 r)) (τ t + 2 + i) 1 = nI (bs f t + i * spn k) := by rw [i_si, if_neg (by omega)]; exact w12
        have bh2 := C_behind (M := h_si M (τ t + 2 + i) 2 (f 23 r)) (by rw [k_si]; exact w10) c3 c4 w5
        have r3' : f_s f 16 (8 * t + i) (f 23 r) 5 r = 3 := by rw [f_s_row (show 5 ≠ 16 by decide)]; exact hs
        have h2 : Rel n (h_si (h_si M (τ t + 2 + i) 2 (f 23 r)) (κ r) 6 (nI (bs f t + i * spn k + spn k))) (f_s (f_s f 16 (8 * t + i) (f 23 r)) 24 r (nI (bs f t + i * spn k + spn k))) ρ τ κ := by
          obtain ⟨-, -, -, -, -, -, b7, b8, b9, b10, b11⟩ := h1.2.2.2.2.2.2.2.2 r hr r3'
          have e20 : f_s (f_s f 16 (8 * t + i) (f 23 r)) 24 r (nI (bs f t + i * spn k + spn k)) 20 r = 2 := by rw [f_s_row (show 20 ≠ 24 by decide), f_s_row (show 20 ≠ 16 by decide)]; exact hp
          rw [show f_s f 16 (8 * t + i) (f 23 r) 20 = f 20 from f_s_row (by decide)] at b7 b10
          refine U_ctx (c := f_s (h_i (h_si M (τ t + 2 + i) 2 (f 23 r))) (κ r) 6 (nI (bs f t + i * spn k + spn k))) h1 hr r3' (fun a k q => f_s_ne (by omega)) (fun b j q => f_s_ne (by omega)) ?_
          obtain ⟨q1, q2, q3, -⟩ := b10 hp
          rw [e20]
          refine ⟨(f_s_ne (by omega)).trans (b7.trans hp), by simp, fun e => absurd e (by decide), fun _ => ⟨f_s_eq.trans f_s_eq.symm, (f_s_ne (by omega)).trans (q2.trans ?_), (f_s_ne (by omega)).trans (q3.trans ?_), _, B, c2, hB2, f_s_eq, ?_, ?_⟩, (f_s_ne (by omega)).trans (b11.trans ?_)⟩
          · rw [f_s_row (show 22 ≠ 24 by decide)]
          · rw [f_s_row (show 23 ≠ 24 by decide)]
          · rw [f_s_row (show 22 ≠ 24 by decide), f_s_row (show 22 ≠ 16 by decide)]; exact p5
          · rw [f_s_row (show 23 ≠ 24 by decide), f_s_row (show 23 ≠ 16 by decide)]; exact p6
          · rw [f_s_row (show 25 ≠ 24 by decide)]
        have vv : h_i (h_si (h_si M (τ t + 2 + i) 2 (f 23 r)) (κ r) 6 (nI (bs f t + i * spn k + spn k))) (κ r) 6 = nI (bs f t + i * spn k + spn k) := by rw [i_si, if_pos ⟨rfl, rfl⟩]
        exact OK2.of (v := nI (bs f t + i * spn k + spn k)) (by simp only [e_53_0, e_53_28, e_53_48, c_I, c_R, c_V, if_true, if_false, true_and, and_true, true_or, or_true, List.length_nil, List.length_cons, Nat.zero_le, k_si, l_si, r_si, k_sr, l_sr, i_sr, n_si, ar_si, ar_sr, ar_0, rc7 s1, s1, C_no, C_none, C_yes, C_done, C_bit0, C_bit1, C_fault, z10, z20, z30, z40, z50, z01, zm0, zm1, C_at1 hB hN hr, R_isG1 hn hr (by omega), G_ne, k2, hrec, k0, R_is (show r < 96 by omega), hs, a1, a3, a7, hp, p1, p2, p3, p4, p5, hd2, i_t (show r < 96 by omega) (by decide), i_c (show r < 2 ^ 31 by omega), rc4 r4, l1, l3, o2, w10, w12, c1', c2', bh, bh2, rc2 w10, fo, R_levelOf (show 8 * t + i < 768 by omega), d8, w9, R_span w5, ln1, nI_add, vv, i_t (show 8 * t + i < 768 by omega) (by decide), i_c (show 8 * t + i < 2 ^ 31 by omega)]; try rfl) (by simp only [e_156_0, e_156_32, e_156_70, kR1, kR2, kR3, kR4, kR5, kR6, kR7, kR8, kR9, kR10, kR11, kR12, kR13, kR14, kR15, kR16, kR17, kR18, kR19, kR20, kR21, kR22, kR23, kR24, kR25, kR26, kR27, kR28, kR29, kR30, lR1, lR2, lR3, lR4, lR5, lR6, lR7, lR8, lR9, lR10, lR11, lR12, lR13, lR14, lR15, lR16, lR17, lR18, lR19, lR20, lR21, lR22, lR23, lR24, lR25, lR26, lR27, lR28, lR29, lR30, rR5, rR6, rR7, rR8, rR9, rR10, rR11, rR12, rR13, rR14, rR15, rR16, rR17, rR18, rR19, rR20, rR21, rR22, rR23, rR24, rR25, rR26, rR27, rR28, rR29, rR30, R_i, R_si, R_rec, if_true, if_false, true_and, and_true, true_or, or_true, List.length_nil, List.length_cons, Nat.zero_le, c_I, c_R, c_V, R_no, R_refuse, R_fault, f_s_row, f4c, f4k, f4n, ne_eq, not_false_eq_true, not_true_eq_false, Nat.reduceEqDiff, reduceCtorEq, Nat.succ_ne_zero, Nat.reduceAdd, ar_0, z10, z20, z30, z40, z50, z01, zm0, zm1, C_at1 hB hN hr, R_isG1 hn hr (by omega), G_ne, k2, hrec, k0, R_is (show r < 96 by omega), hs, a1, a3, a7, hp, p1, p2, p3, p4, p5, hd2, i_t (show r < 96 by omega) (by decide), i_c (show r < 2 ^ 31 by omega), rc4 r4, l1, l3, o2, w10, w12, c1', c2', bh, bh2, rc2 w10, fo, R_levelOf (show 8 * t + i < 768 by omega), d8, w9, R_span w5, ln1, nI_add, vv, i_t (show 8 * t + i < 768 by omega) (by decide), i_c (show 8 * t + i < 2 ^ 31 by omega)]; try rfl) (W_status h2 0) rfl rfl
      · have c2' : ¬ nI (bs f t + i * spn k + spn k) ≤ nI B := nI_ge (by omega) (by omega)
        exact OK2.of (v := -1) (by simp only [e_53_0, e_53_28, e_53_48, c_I, c_R, c_V, if_true, if_false, true_and, and_true, true_or, or_true, List.length_nil, List.length_cons, Nat.zero_le, k_si, l_si, r_si, k_sr, l_sr, i_sr, n_si, ar_si, ar_sr, ar_0, rc7 s1, s1, C_no, C_none, C_yes, C_done, C_bit0, C_bit1, C_fault, z10, z20, z30, z40, z50, z01, zm0, zm1, C_at1 hB hN hr, R_isG1 hn hr (by omega), G_ne, k2, hrec, k0, R_is (show r < 96 by omega), hs, a1, a3, a7, hp, p1, p2, p3, p4, p5, hd2, i_t (show r < 96 by omega) (by decide), i_c (show r < 2 ^ 31 by omega), rc4 r4, l1, l3, o2, w10, w12, c1', c2', bh, rc2 w10, fo, R_levelOf (show 8 * t + i < 768 by omega), d8, w9, R_span w5, ln1, nI_add]; try rfl) (by simp only [e_156_0, e_156_32, e_156_70, kR1, kR2, kR3, kR4, kR5, kR6, kR7, kR8, kR9, kR10, kR11, kR12, kR13, kR14, kR15, kR16, kR17, kR18, kR19, kR20, kR21, kR22, kR23, kR24, kR25, kR26, kR27, kR28, kR29, kR30, lR1, lR2, lR3, lR4, lR5, lR6, lR7, lR8, lR9, lR10, lR11, lR12, lR13, lR14, lR15, lR16, lR17, lR18, lR19, lR20, lR21, lR22, lR23, lR24, lR25, lR26, lR27, lR28, lR29, lR30, rR5, rR6, rR7, rR8, rR9, rR10, rR11, rR12, rR13, rR14, rR15, rR16, rR17, rR18, rR19, rR20, rR21, rR22, rR23, rR24, rR25, rR26, rR27, rR28, rR29, rR30, R_i, R_si, R_rec, if_true, if_false, true_and, and_true, true_or, or_true, List.length_nil, List.length_cons, Nat.zero_le, c_I, c_R, c_V, R_no, R_refuse, R_fault, f_s_row, f4c, f4k, f4n, ne_eq, not_false_eq_true, not_true_eq_false, Nat.reduceEqDiff, reduceCtorEq, Nat.succ_ne_zero, Nat.reduceAdd, ar_0, z10, z20, z30, z40, z50, z01, zm0, zm1, C_at1 hB hN hr, R_isG1 hn hr (by omega), G_ne, k2, hrec, k0, R_is (show r < 96 by omega), hs, a1, a3, a7, hp, p1, p2, p3, p4, p5, hd2, i_t (show r < 96 by omega) (by decide), i_c (show r < 2 ^ 31 by omega), rc4 r4, l1, l3, o2, w10, w12, c1', c2', bh, rc2 w10, fo, R_levelOf (show 8 * t + i < 768 by omega), d8, w9, R_span w5, ln1, nI_add]; try rfl) (U_status h 5) rfl rfl
    · exact OK2.of (v := -1) (by simp only [e_53_0, e_53_28, e_53_48, c_I, c_R, c_V, if_true, if_false, true_and, and_true, true_or, or_true, List.length_nil, List.length_cons, Nat.zero_le, k_si, l_si, r_si, k_sr, l_sr, i_sr, n_si, ar_si, ar_sr, ar_0, rc7 s1, s1, C_no, C_none, C_yes, C_done, C_bit0, C_bit1, C_fault, z10, z20, z30, z40, z50, z01, zm0, zm1, C_at1 hB hN hr, R_isG1 hn hr (by omega), G_ne, k2, hrec, k0, R_is (show r < 96 by omega), hs, a1, a7, hp, i_t (show r < 96 by omega) (by decide), i_c (show r < 2 ^ 31 by omega)]; try rfl) (by simp only [e_156_0, e_156_32, e_156_70, kR1, kR2, kR3, kR4, kR5, kR6, kR7, kR8, kR9, kR10, kR11, kR12, kR13, kR14, kR15, kR16, kR17, kR18, kR19, kR20, kR21, kR22, kR23, kR24, kR25, kR26, kR27, kR28, kR29, kR30, lR1, lR2, lR3, lR4, lR5, lR6, lR7, lR8, lR9, lR10, lR11, lR12, lR13, lR14, lR15, lR16, lR17, lR18, lR19, lR20, lR21, lR22, lR23, lR24, lR25, lR26, lR27, lR28, lR29, lR30, rR5, rR6, rR7, rR8, rR9, rR10, rR11, rR12, rR13, rR14, rR15, rR16, rR17, rR18, rR19, rR20, rR21, rR22, rR23, rR24, rR25, rR26, rR27, rR28, rR29, rR30, R_i, R_si, R_rec, if_true, if_false, true_and, and_true, true_or, or_true, List.length_nil, List.length_cons, Nat.zero_le, c_I, c_R, c_V, R_no, R_refuse, R_fault, f_s_row, f4c, f4k, f4n, ne_eq, not_false_eq_true, not_true_eq_false, Nat.reduceEqDiff, reduceCtorEq, Nat.succ_ne_zero, Nat.reduceAdd, ar_0, z10, z20, z30, z40, z50, z01, zm0, zm1, C_at1 hB hN hr, R_isG1 hn hr (by omega), G_ne, k2, hrec, k0, R_is (show r < 96 by omega), hs, a1, a7, hp, i_t (show r < 96 by omega) (by decide), i_c (show r < 2 ^ 31 by omega)]; try rfl) (U_status h 4) rfl rfl
  · rw [if_neg hs] at hrec
    exact OK2.of (v := -1) (by simp only [e_53_0, e_53_28, e_53_48, c_I, c_R, c_V, if_true, if_false, true_and, and_true, true_or, or_true, List.length_nil, List.length_cons, Nat.zero_le, k_si, l_si, r_si, k_sr, l_sr, i_sr, n_si, ar_si, ar_sr, ar_0, rc7 s1, s1, C_no, C_none, C_yes, C_done, C_bit0, C_bit1, C_fault, z10, z20, z30, z40, z50, z01, zm0, zm1, C_at1 hB hN hr, R_isG1 hn hr (by omega), G_ne, k2, hrec, R_is (show r < 96 by omega), hs]; try rfl) (by simp only [e_156_0, e_156_32, e_156_70, kR1, kR2, kR3, kR4, kR5, kR6, kR7, kR8, kR9, kR10, kR11, kR12, kR13, kR14, kR15, kR16, kR17, kR18, kR19, kR20, kR21, kR22, kR23, kR24, kR25, kR26, kR27, kR28, kR29, kR30, lR1, lR2, lR3, lR4, lR5, lR6, lR7, lR8, lR9, lR10, lR11, lR12, lR13, lR14, lR15, lR16, lR17, lR18, lR19, lR20, lR21, lR22, lR23, lR24, lR25, lR26, lR27, lR28, lR29, lR30, rR5, rR6, rR7, rR8, rR9, rR10, rR11, rR12, rR13, rR14, rR15, rR16, rR17, rR18, rR19, rR20, rR21, rR22, rR23, rR24, rR25, rR26, rR27, rR28, rR29, rR30, R_i, R_si, R_rec, if_true, if_false, true_and, and_true, true_or, or_true, List.length_nil, List.length_cons, Nat.zero_le, c_I, c_R, c_V, R_no, R_refuse, R_fault, f_s_row, f4c, f4k, f4n, ne_eq, not_false_eq_true, not_true_eq_false, Nat.reduceEqDiff, reduceCtorEq, Nat.succ_ne_zero, Nat.reduceAdd, ar_0, z10, z20, z30, z40, z50, z01, zm0, zm1, C_at1 hB hN hr, R_isG1 hn hr (by omega), G_ne, k2, hrec, R_is (show r < 96 by omega), hs]; try rfl) (U_status h 2) rfl rfl
end OP
