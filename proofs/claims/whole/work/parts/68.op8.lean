/-! a granule and an entry change: what of the reference's rows is kept -/
section E
variable {n : Nat} {M M' : mM} {f f' : Nat → Nat → Int32} {ρ τ κ ρ' τ' κ' : Nat → Nat}
theorem q_ent (hq : q_ref n f) {d p0 e0 : Nat} (hd2 : d < n → ¬ f 5 d = 2) (hd2' : d < n → ¬ f' 5 d = 2) (k0 : f' 4 0 = f 4 0) (k31 : f' 4 31 = 0) (r3 : f' 3 = f 3) (hK : ∀ i, i < n → i ≠ d → f' 5 i = f 5 i ∧ f' 7 i = f 7 i ∧ f' 9 i = f 9 i ∧ f' 12 i = f 12 i ∧ f' 13 i = f 13 i ∧ f' 27 i = f 27 i) (hE : ∀ i e, i < n → i ≠ d → e < 8 → ¬ (i = p0 ∧ e = e0) → f' 14 (8 * i + e) = f 14 (8 * i + e) ∧ f' 15 (8 * i + e) = f 15 (8 * i + e) ∧ f' 16 (8 * i + e) = f 16 (8 * i + e)) (hroot : d < n → f 5 d = 4 → ¬ lv f d = 0)
    (hto : ∀ p e, p < n → e < 8 → f 5 p = 4 → ¬ (p = p0 ∧ e = e0) → p ≠ d → (f 14 (8 * p + e) = 2 ∨ (f 14 (8 * p + e) = 1 ∧ bs f p + e < 2048)) → tg f (8 * p + e) ≠ d)
    (hfrom : ∀ g p e, g < n → g ≠ d → p < n → e < 8 → f 5 p = 4 → (p = d ∨ (p = p0 ∧ e = e0)) → (f 14 (8 * p + e) = 2 ∨ (f 14 (8 * p + e) = 1 ∧ bs f p + e < 2048)) → f 15 (8 * p + e) = nI g → False)
    (hdn : d < n → (f' 5 d = 4 → q_tab n f' d) ∧ (f' 5 d = 5 → q_own n f' d ∧ q_T3 n f' d) ∧ (f' 5 d = 3 → q_own n f' d)) (hen : p0 < n → e0 < 8 → p0 ≠ d → f 5 p0 = 4 → q_T2 n f' p0 e0 ∧ q_rip f' p0 e0) : q_ref n f' := by
  obtain ⟨q1, q2, q3, q4, q5, q6, q7, q8, q9⟩ := hq
  have ko : ∀ i, i < n → f 5 i = 2 → i ≠ d := fun i hi e q => by subst q; exact hd2 hi e
  refine ⟨by rw [k0]; exact q1, q2, q3, k31, by rw [r3]; exact q5, ⟨q6.1, fun p hp p4 => ?_, fun o ho o2 => ?_⟩, fun i hi i5 => ?_, fun i hi i3 => ?_, fun i hi i2 => ?_⟩
  · by_cases pd : p = d
    · subst pd; exact (hdn hp).1 p4
    · have p4' : f 5 p = 4 := by rw [← (hK p hp pd).1]; exact p4
      have kp : ∀ p' e, p' < n → e < 8 → f 5 p' = 4 → f 14 (8 * p' + e) = 2 → f 15 (8 * p' + e) = nI p → p' ≠ d ∧ ¬ (p' = p0 ∧ e = e0) := fun p' e h1 h2 h3 h4 h5 => ⟨fun q => hfrom p p' e hp pd h1 h2 h3 (Or.inl q) (Or.inl h4) h5, fun q => hfrom p p' e hp pd h1 h2 h3 (Or.inr q) (Or.inl h4) h5⟩
      have kt : ∀ e, e < 8 → ¬ (p = p0 ∧ e = e0) → ¬ f 14 (8 * p + e) = 0 → (f 14 (8 * p + e) = 2 ∨ bs f p + e < 2048) → tg f (8 * p + e) ≠ d := fun e he hne h1 h2 => by
        rcases ((q6.2.1 p hp p4').2.2 e he).1 with ⟨w, -⟩ | ⟨w, -⟩ | ⟨w, -⟩
        · exact absurd w h1
        · exact hto p e hp he p4' hne pd (h2.elim Or.inl (fun b => Or.inr ⟨w, b⟩))
        · exact hto p e hp he p4' hne pd (Or.inl w)
      have a := q_keep (fun i => i ≠ d) p0 e0 q6 hK hE hp p4' pd (ko _ (q6.2.1 p hp p4').1.1 (q6.2.1 p hp p4').1.2.2) kp kt
      refine ⟨a.1, a.2.1, fun e he => ?_⟩
      by_cases q : p = p0 ∧ e = e0
      · obtain ⟨rfl, rfl⟩ := q; exact hen hp he pd p4'
      · exact a.2.2 e he q
  · have od : o ≠ d := fun q => by subst q; exact hd2' ho o2
    have o2' : f 5 o = 2 := by rw [← (hK o ho od).1]; exact o2
    refine q_rootk (fun i => i ≠ d) hK ho od (fun t ht t9 t4 t7 q => ?_) (q6.2.2 o ho o2')
    obtain ⟨t', a1, a2, a3, a4, a5⟩ := q6.2.2 o ho o2'
    rw [t9] at a2
    have e := nI_inj (by omega) (by omega) a2
    rw [← e] at a5
    subst q
    exact hroot ht t4 a5
  · by_cases id : i = d
    · subst id; exact (hdn hi).2.1 i5
    · have i5' : f 5 i = 5 := by rw [← (hK i hi id).1]; exact i5
      exact q_datak (fun i => i ≠ d) p0 e0 hK hE hi id (ko _ (q7 i hi i5').1.1 (q7 i hi i5').1.2.2) (fun p e h1 h2 h3 h4 h5 h6 => ⟨fun q => hfrom i p e hi id h1 h2 h3 (Or.inl q) (Or.inr ⟨h4, h6⟩) h5, fun q => hfrom i p e hi id h1 h2 h3 (Or.inr q) (Or.inr ⟨h4, h6⟩) h5⟩) (q7 i hi i5')
  · by_cases id : i = d
    · subst id; exact (hdn hi).2.2 i3
    · have i3' : f 5 i = 3 := by rw [← (hK i hi id).1]; exact i3
      exact q_ownk (fun i => i ≠ d) hK hi id (ko _ (q8 i hi i3').1 (q8 i hi i3').2.2) (q8 i hi i3')
  · have id : i ≠ d := fun q => by subst q; exact hd2' hi i2
    rw [(hK i hi id).2.1]
    exact q9 i hi (by rw [← (hK i hi id).1]; exact i2)
theorem cn_off {w : Int32} {i d : Nat} (hj : ∀ j, j < n → j ≠ d → f' 5 j = f 5 j ∧ f' 7 j = f 7 j) (h1 : ¬ (f 5 d = w ∧ f 7 d = nI i)) (h2 : ¬ (f' 5 d = w ∧ f' 7 d = nI i)) : cn n f' w i = cn n f w i := cn_same (fun j hn => by
  by_cases q : j = d
  · subst q; exact ⟨fun e => absurd e h1, fun e => absurd e h2⟩
  · rw [(hj j hn q).1, (hj j hn q).2])
theorem zg_keep {i : Nat} (h : z_g M f ρ τ κ i) (hI : ∀ k, k < 7 → h_i M' (G_ i) k = h_i M (G_ i) k) (hR : ∀ k, h_r M' (G_ i) k = h_r M (G_ i) k) (hW : ∀ k, k < 32 → h_i M' (Wd i) k = h_i M (Wd i) k) (r5 : f' 5 i = f 5 i) (r6 : ∀ k, k < 32 → f' 6 (32 * i + k) = f 6 (32 * i + k)) (r7 : f' 7 i = f 7 i) (r12 : f' 12 i = f 12 i) (r17 : f' 17 i = f 17 i) (r27 : f' 27 i = f 27 i) (a1 : f 5 i = 2 → ρ' i = ρ i) (a2 : f 5 i = 3 ∨ f 5 i = 4 ∨ f 5 i = 5 → ρ' (ow f i) = ρ (ow f i)) (a3 : f 5 i = 4 → τ' i = τ i) (a4 : f 5 i = 3 → κ' i = κ i) : z_g M' f' ρ' τ' κ' i := by
  have o : ow f' i = ow f i := by unfold ow; rw [r7]
  unfold z_g at h ⊢
  rw [hI 0 (by decide), hI 2 (by decide), hI 4 (by decide), hR, hR, hR, r5, r12, r17, r27, o]
  refine ⟨h.1, h.2.1, fun k hk => by rw [hW k hk, r6 k hk]; exact h.2.2.1 k hk, ?_⟩
  rcases h.2.2.2 with q | ⟨q, w⟩ | ⟨q, w⟩ | ⟨q, w⟩ | ⟨q, w⟩
  · exact Or.inl q
  · rw [a1 q]; exact Or.inr (Or.inl ⟨q, w⟩)
  · rw [a2 (Or.inl q), a4 q]; exact Or.inr (Or.inr (Or.inl ⟨q, w⟩))
  · rw [a2 (Or.inr (Or.inl q)), a3 q]; exact Or.inr (Or.inr (Or.inr (Or.inl ⟨q, w⟩)))
  · rw [a2 (Or.inr (Or.inr q))]; exact Or.inr (Or.inr (Or.inr (Or.inr ⟨q, w⟩)))
theorem zd_keep {o : Nat} (h : z_d n M f ρ τ o) (hρ : ρ' o = ρ o) (hk : h_k M' (ρ o) = h_k M (ρ o)) (hR : ∀ k, h_r M' (ρ o) k = h_r M (ρ o) k) (hI : h_i M' (ρ o) 3 = h_i M (ρ o) 3) (hM : ∀ q k, q < 5 → k < 8 → h_i M' (ρ o + 2 + q) k = h_i M (ρ o + 2 + q) k) (hτ : τ' (rt f o) = τ (rt f o)) (r8 : f' 8 o = f 8 o) (r9 : f' 9 o = f 9 o) (r11 : ∀ k, k < 40 → f' 11 (40 * o + k) = f 11 (40 * o + k)) (c4 : h_i M' (ρ o) 4 = nI (cn n f' 3 o)) (c5 : h_i M' (ρ o) 5 = f' 10 o) (c6 : h_i M' (ρ o) 6 = nI (cn n f' 4 o)) (c7 : h_i M' (ρ o) 7 = nI (cn n f' 5 o)) : z_d n M' f' ρ' τ' o := by
  obtain ⟨a1, a2, a3, a4, a5, a6, a7, a8, a9, a10⟩ := h
  have hrt : rt f' o = rt f o := by unfold rt; rw [r9]
  unfold z_d
  rw [hρ, hk, hR, hR, hI, hrt, hτ, r8]
  refine ⟨a1, a2, a3, a4, a5, c4, c5, c6, c7, fun q k hq hk' => ?_⟩
  rw [hM q k hq hk', Nat.add_assoc (40 * o), r11 _ (by omega), ← Nat.add_assoc]
  exact a10 q k hq hk'
theorem zt_keep {p e0 : Nat} (h : z_t M f τ p) (hτ : τ' p = τ p) (hk : h_k M' (τ p) = h_k M (τ p)) (hR0 : h_r M' (τ p) 0 = h_r M (τ p) 0) (hI1 : h_i M' (τ p) 1 = h_i M (τ p) 1) (hI : ∀ e k, e < 8 → e ≠ e0 → h_i M' (τ p + 2 + e) k = h_i M (τ p + 2 + e) k) (hR : ∀ e k, e < 8 → e ≠ e0 → h_r M' (τ p + 2 + e) k = h_r M (τ p + 2 + e) k) (r12 : f' 12 p = f 12 p) (r13 : f' 13 p = f 13 p) (hE : ∀ e, e < 8 → e ≠ e0 → f' 14 (8 * p + e) = f 14 (8 * p + e) ∧ f' 15 (8 * p + e) = f 15 (8 * p + e) ∧ f' 16 (8 * p + e) = f 16 (8 * p + e)) (ht : ∀ e, e < 8 → e ≠ e0 → f 14 (8 * p + e) = 2 → τ' (tg f (8 * p + e)) = τ (tg f (8 * p + e))) (he : e0 < 8 → z_e M' f' τ' p e0) : z_t M' f' τ' p := by
  obtain ⟨a1, a2, a3, a4⟩ := h
  have hl : lv f' p = lv f p := by unfold lv; rw [r12]
  have hb : bs f' p = bs f p := by unfold bs; rw [r13]
  unfold z_t
  rw [hτ, hk, hR0, hI1, r12]
  refine ⟨a1, a2, a3, fun e h8 => ?_⟩
  by_cases q : e = e0
  · subst q; exact he h8
  · obtain ⟨b1, b2, b3, b4, b5⟩ := a4 e h8
    obtain ⟨c1, c2, c3⟩ := hE e h8 q
    have htg : tg f' (8 * p + e) = tg f (8 * p + e) := by unfold tg; rw [c2]
    unfold z_e
    rw [hτ, hI e 0 h8 q, hI e 1 h8 q, hI e 2 h8 q, hR e 3 h8 q, hR e 4 h8 q, r12, hl, hb, c1, c3, htg]
    refine ⟨b1, b2, b3, b4, b5.trans ?_⟩
    by_cases e2 : f 14 (8 * p + e) = 2
    · rw [if_pos e2, if_pos e2, ht e h8 q e2]
    · rw [if_neg e2, if_neg e2]
theorem zh_keep (h : Rel n M f ρ τ κ) (i4 : ∀ k, h_i M' 4 k = h_i M 4 k) (r4 : h_r M' 4 3 = h_r M 4 3) (f4 : f' 4 = f 4) (hk : ∀ r, r < n → f 5 r = 3 → f 4 2 = nI r → f' 5 r = 3 ∧ κ' r = κ r ∧ f' 26 r = f 26 r ∧ h_r M' (κ r) 9 = h_r M (κ r) 9) : z_h n M' f' κ' := by
  obtain ⟨a1, a2, a3, a4⟩ := h.2.2.2.2.1
  unfold z_h
  rw [i4, i4, i4, r4, f4]
  refine ⟨a1, a2, a3, ?_⟩
  rcases a4 with a4 | ⟨r, g, b1, b2, b3, b4, b5, b6, b7⟩
  · exact Or.inl a4
  · obtain ⟨c1, c2, c3, c4⟩ := hk r b1 b4 b3
    exact Or.inr ⟨r, g, b1, b2, b3, c1, by rw [c2]; exact b5, by rw [c3]; exact b6, by rw [c2, c4]; exact b7⟩
theorem ntc_i {S : Nat → Prop} {x : Nat} (h : ¬ tch n M f ρ τ κ S x) {j : Nat} (hj : j < n) (hs : S j) : x ≠ G_ j ∧ x ≠ Wd j ∧ (f 5 j = 2 → ¬ (ρ j ≤ x ∧ x ≤ ρ j + 6)) ∧ (f 5 j = 4 → ¬ (τ j ≤ x ∧ x ≤ τ j + 9)) ∧ (f 5 j = 3 → ¬ (κ j ≤ x ∧ x ≤ κ j + 1)) :=
  ⟨fun q => h (Or.inl ⟨j, hj, hs, Or.inl q⟩), fun q => h (Or.inl ⟨j, hj, hs, Or.inr (Or.inl q)⟩), fun a q => h (Or.inl ⟨j, hj, hs, Or.inr (Or.inr (Or.inl ⟨a, q⟩))⟩), fun a q => h (Or.inl ⟨j, hj, hs, Or.inr (Or.inr (Or.inr (Or.inl ⟨a, q⟩)))⟩), fun a q => h (Or.inl ⟨j, hj, hs, Or.inr (Or.inr (Or.inr (Or.inr ⟨a, q⟩)))⟩)⟩
theorem ntc_n {S : Nat → Prop} {x : Nat} (h : ¬ tch n M f ρ τ κ S x) : x ≤ h_n M ∧ ¬ (4 ≤ x ∧ x ≤ 9) := ⟨Nat.le_of_not_lt (fun q => h (Or.inr (Or.inl q))), fun q => h (Or.inr (Or.inr q))⟩
theorem op_delegate (h : Rel n M f ρ τ κ) (x : Int32) : OK2 n M (ev 36 0 [some (.inr 4), some (.inl x)] [] M) (ev 130 0 [some (.inr 4), some (.inl x)] [] (mkR f)) := by
  have hB := h.1
  have s1 := h.1.2.1.1
  have hn := h.2.2.2.1.1
  have hN := h.2.2.2.1.2.2.1
  rcases ix2 x (show n < 2 ^ 31 by omega) with hx | ⟨g, hg, rfl⟩
  · exact OK2.of (v := 0) (by simp only [e_36_0, e_90_0, c_I, c_R, c_V, if_true, if_false, true_and, and_true, true_or, or_true, List.length_nil, List.length_cons, Nat.zero_le, k_si, l_si, r_si, k_sr, l_sr, i_sr, n_si, ar_si, ar_sr, ar_0, rc7 s1, s1, C_no, C_none, C_yes, C_done, C_bit0, C_bit1, C_fault, z10, z20, z30, z40, z50, z01, zm0, zm1, C_at0 hB hx, R_isG0 hn hx]; try rfl) (by simp only [e_130_0, e_129_0, kR1, kR2, kR3, kR4, kR5, kR6, kR7, kR8, kR9, kR10, kR11, kR12, kR13, kR14, kR15, kR16, kR17, kR18, kR19, kR20, kR21, kR22, kR23, kR24, kR25, kR26, kR27, kR28, kR29, kR30, lR1, lR2, lR3, lR4, lR5, lR6, lR7, lR8, lR9, lR10, lR11, lR12, lR13, lR14, lR15, lR16, lR17, lR18, lR19, lR20, lR21, lR22, lR23, lR24, lR25, lR26, lR27, lR28, lR29, lR30, rR5, rR6, rR7, rR8, rR9, rR10, rR11, rR12, rR13, rR14, rR15, rR16, rR17, rR18, rR19, rR20, rR21, rR22, rR23, rR24, rR25, rR26, rR27, rR28, rR29, rR30, R_i, R_si, R_rec, if_true, if_false, true_and, and_true, true_or, or_true, List.length_nil, List.length_cons, Nat.zero_le, c_I, c_R, c_V, R_no, R_refuse, R_fault, f_s_row, f4c, f4k, f4n, ne_eq, not_false_eq_true, not_true_eq_false, Nat.reduceEqDiff, reduceCtorEq, Nat.succ_ne_zero, Nat.reduceAdd, ar_0, z10, z20, z30, z40, z50, z01, zm0, zm1, C_at0 hB hx, R_isG0 hn hx]; try rfl) (U_status h 1) rfl rfl
  · obtain ⟨g1, g2, g3, g4, g5⟩ := hB.2.2.2.2.1 g hg
    have z2 := (h.2.2.2.2.2.1 g hg).2.1
    by_cases hs : f 5 g = 0
    · have h1 := W_free h hg (by simp [hs]) (x := 1) (by simp)
      have kb : h_k (bcm M g 1 0 (-1)) 4 = 7 := s1
      exact OK2.of (v := 1) (by simp only [e_36_0, e_90_0, c_I, c_R, c_V, if_true, if_false, true_and, and_true, true_or, or_true, List.length_nil, List.length_cons, Nat.zero_le, k_si, l_si, r_si, k_sr, l_sr, i_sr, n_si, ar_si, ar_sr, ar_0, rc7 s1, s1, C_no, C_none, C_yes, C_done, C_bit0, C_bit1, C_fault, z10, z20, z30, z40, z50, z01, zm0, zm1, C_at1 hB hN hg, G_ne, g2, z2, hs, rc3 g2, C_become g2 g3 g4 g5, rc7 kb, C_yes kb]) (by simp only [e_130_0, e_129_0, kR1, kR2, kR3, kR4, kR5, kR6, kR7, kR8, kR9, kR10, kR11, kR12, kR13, kR14, kR15, kR16, kR17, kR18, kR19, kR20, kR21, kR22, kR23, kR24, kR25, kR26, kR27, kR28, kR29, kR30, lR1, lR2, lR3, lR4, lR5, lR6, lR7, lR8, lR9, lR10, lR11, lR12, lR13, lR14, lR15, lR16, lR17, lR18, lR19, lR20, lR21, lR22, lR23, lR24, lR25, lR26, lR27, lR28, lR29, lR30, rR5, rR6, rR7, rR8, rR9, rR10, rR11, rR12, rR13, rR14, rR15, rR16, rR17, rR18, rR19, rR20, rR21, rR22, rR23, rR24, rR25, rR26, rR27, rR28, rR29, rR30, R_i, R_si, R_rec, if_true, if_false, true_and, and_true, true_or, or_true, List.length_nil, List.length_cons, Nat.zero_le, c_I, c_R, c_V, R_no, R_refuse, R_fault, f_s_row, f4c, f4k, f4n, ne_eq, not_false_eq_true, not_true_eq_false, Nat.reduceEqDiff, reduceCtorEq, Nat.succ_ne_zero, Nat.reduceAdd, ar_0, z10, z20, z30, z40, z50, z01, zm0, zm1, R_isG1 hn hg (show n < 2 ^ 31 by omega), R_is (show g < 96 by omega), hs, R_become (show g < 96 by omega)]) (W_status h1 0) rfl rfl
    · exact OK2.of (v := 0) (by simp only [e_36_0, e_90_0, c_I, c_R, c_V, if_true, if_false, true_and, and_true, true_or, or_true, List.length_nil, List.length_cons, Nat.zero_le, k_si, l_si, r_si, k_sr, l_sr, i_sr, n_si, ar_si, ar_sr, ar_0, rc7 s1, s1, C_no, C_none, C_yes, C_done, C_bit0, C_bit1, C_fault, z10, z20, z30, z40, z50, z01, zm0, zm1, C_at1 hB hN hg, R_isG1 hn hg (by omega), G_ne, R_is (show g < 96 by omega), g2, z2, hs]; try rfl) (by simp only [e_130_0, e_129_0, kR1, kR2, kR3, kR4, kR5, kR6, kR7, kR8, kR9, kR10, kR11, kR12, kR13, kR14, kR15, kR16, kR17, kR18, kR19, kR20, kR21, kR22, kR23, kR24, kR25, kR26, kR27, kR28, kR29, kR30, lR1, lR2, lR3, lR4, lR5, lR6, lR7, lR8, lR9, lR10, lR11, lR12, lR13, lR14, lR15, lR16, lR17, lR18, lR19, lR20, lR21, lR22, lR23, lR24, lR25, lR26, lR27, lR28, lR29, lR30, rR5, rR6, rR7, rR8, rR9, rR10, rR11, rR12, rR13, rR14, rR15, rR16, rR17, rR18, rR19, rR20, rR21, rR22, rR23, rR24, rR25, rR26, rR27, rR28, rR29, rR30, R_i, R_si, R_rec, if_true, if_false, true_and, and_true, true_or, or_true, List.length_nil, List.length_cons, Nat.zero_le, c_I, c_R, c_V, R_no, R_refuse, R_fault, f_s_row, f4c, f4k, f4n, ne_eq, not_false_eq_true, not_true_eq_false, Nat.reduceEqDiff, reduceCtorEq, Nat.succ_ne_zero, Nat.reduceAdd, ar_0, z10, z20, z30, z40, z50, z01, zm0, zm1, C_at1 hB hN hg, R_isG1 hn hg (by omega), G_ne, R_is (show g < 96 by omega), g2, z2, hs]; try rfl) (U_status h 2) rfl rfl
theorem op_undelegate (h : Rel n M f ρ τ κ) (x : Int32) : OK2 n M (ev 37 0 [some (.inr 4), some (.inl x)] [] M) (ev 131 0 [some (.inr 4), some (.inl x)] [] (mkR f)) := by
  have hB := h.1
  have s1 := h.1.2.1.1
  have hn := h.2.2.2.1.1
  have hN := h.2.2.2.1.2.2.1
  rcases ix2 x (show n < 2 ^ 31 by omega) with hx | ⟨g, hg, rfl⟩
  · exact OK2.of (v := 0) (by simp only [e_37_0, e_90_0, c_I, c_R, c_V, if_true, if_false, true_and, and_true, true_or, or_true, List.length_nil, List.length_cons, Nat.zero_le, k_si, l_si, r_si, k_sr, l_sr, i_sr, n_si, ar_si, ar_sr, ar_0, rc7 s1, s1, C_no, C_none, C_yes, C_done, C_bit0, C_bit1, C_fault, z10, z20, z30, z40, z50, z01, zm0, zm1, C_at0 hB hx, R_isG0 hn hx]; try rfl) (by simp only [e_131_0, e_129_0, kR1, kR2, kR3, kR4, kR5, kR6, kR7, kR8, kR9, kR10, kR11, kR12, kR13, kR14, kR15, kR16, kR17, kR18, kR19, kR20, kR21, kR22, kR23, kR24, kR25, kR26, kR27, kR28, kR29, kR30, lR1, lR2, lR3, lR4, lR5, lR6, lR7, lR8, lR9, lR10, lR11, lR12, lR13, lR14, lR15, lR16, lR17, lR18, lR19, lR20, lR21, lR22, lR23, lR24, lR25, lR26, lR27, lR28, lR29, lR30, rR5, rR6, rR7, rR8, rR9, rR10, rR11, rR12, rR13, rR14, rR15, rR16, rR17, rR18, rR19, rR20, rR21, rR22, rR23, rR24, rR25, rR26, rR27, rR28, rR29, rR30, R_i, R_si, R_rec, if_true, if_false, true_and, and_true, true_or, or_true, List.length_nil, List.length_cons, Nat.zero_le, c_I, c_R, c_V, R_no, R_refuse, R_fault, f_s_row, f4c, f4k, f4n, ne_eq, not_false_eq_true, not_true_eq_false, Nat.reduceEqDiff, reduceCtorEq, Nat.succ_ne_zero, Nat.reduceAdd, ar_0, z10, z20, z30, z40, z50, z01, zm0, zm1, C_at0 hB hx, R_isG0 hn hx]; try rfl) (U_status h 1) rfl rfl
  · obtain ⟨g1, g2, g3, g4, g5⟩ := hB.2.2.2.2.1 g hg
    have z2 := (h.2.2.2.2.2.1 g hg).2.1
    by_cases hs : f 5 g = 1
    · have h1 := W_free h hg (by simp [hs]) (x := 0) (by simp)
      have kb : h_k (bcm M g 0 0 (-1)) 4 = 7 := s1
      exact OK2.of (v := 1) (by simp only [e_37_0, e_90_0, c_I, c_R, c_V, if_true, if_false, true_and, and_true, true_or, or_true, List.length_nil, List.length_cons, Nat.zero_le, k_si, l_si, r_si, k_sr, l_sr, i_sr, n_si, ar_si, ar_sr, ar_0, rc7 s1, s1, C_no, C_none, C_yes, C_done, C_bit0, C_bit1, C_fault, z10, z20, z30, z40, z50, z01, zm0, zm1, C_at1 hB hN hg, G_ne, g2, z2, hs, rc3 g2, C_become g2 g3 g4 g5, rc7 kb, C_yes kb]) (by simp only [e_131_0, e_129_0, kR1, kR2, kR3, kR4, kR5, kR6, kR7, kR8, kR9, kR10, kR11, kR12, kR13, kR14, kR15, kR16, kR17, kR18, kR19, kR20, kR21, kR22, kR23, kR24, kR25, kR26, kR27, kR28, kR29, kR30, lR1, lR2, lR3, lR4, lR5, lR6, lR7, lR8, lR9, lR10, lR11, lR12, lR13, lR14, lR15, lR16, lR17, lR18, lR19, lR20, lR21, lR22, lR23, lR24, lR25, lR26, lR27, lR28, lR29, lR30, rR5, rR6, rR7, rR8, rR9, rR10, rR11, rR12, rR13, rR14, rR15, rR16, rR17, rR18, rR19, rR20, rR21, rR22, rR23, rR24, rR25, rR26, rR27, rR28, rR29, rR30, R_i, R_si, R_rec, if_true, if_false, true_and, and_true, true_or, or_true, List.length_nil, List.length_cons, Nat.zero_le, c_I, c_R, c_V, R_no, R_refuse, R_fault, f_s_row, f4c, f4k, f4n, ne_eq, not_false_eq_true, not_true_eq_false, Nat.reduceEqDiff, reduceCtorEq, Nat.succ_ne_zero, Nat.reduceAdd, ar_0, z10, z20, z30, z40, z50, z01, zm0, zm1, R_isG1 hn hg (show n < 2 ^ 31 by omega), R_is (show g < 96 by omega), hs, R_become (show g < 96 by omega)]) (W_status h1 0) rfl rfl
    · exact OK2.of (v := 0) (by simp only [e_37_0, e_90_0, c_I, c_R, c_V, if_true, if_false, true_and, and_true, true_or, or_true, List.length_nil, List.length_cons, Nat.zero_le, k_si, l_si, r_si, k_sr, l_sr, i_sr, n_si, ar_si, ar_sr, ar_0, rc7 s1, s1, C_no, C_none, C_yes, C_done, C_bit0, C_bit1, C_fault, z10, z20, z30, z40, z50, z01, zm0, zm1, C_at1 hB hN hg, R_isG1 hn hg (by omega), G_ne, R_is (show g < 96 by omega), g2, z2, hs]; try rfl) (by simp only [e_131_0, e_129_0, kR1, kR2, kR3, kR4, kR5, kR6, kR7, kR8, kR9, kR10, kR11, kR12, kR13, kR14, kR15, kR16, kR17, kR18, kR19, kR20, kR21, kR22, kR23, kR24, kR25, kR26, kR27, kR28, kR29, kR30, lR1, lR2, lR3, lR4, lR5, lR6, lR7, lR8, lR9, lR10, lR11, lR12, lR13, lR14, lR15, lR16, lR17, lR18, lR19, lR20, lR21, lR22, lR23, lR24, lR25, lR26, lR27, lR28, lR29, lR30, rR5, rR6, rR7, rR8, rR9, rR10, rR11, rR12, rR13, rR14, rR15, rR16, rR17, rR18, rR19, rR20, rR21, rR22, rR23, rR24, rR25, rR26, rR27, rR28, rR29, rR30, R_i, R_si, R_rec, if_true, if_false, true_and, and_true, true_or, or_true, List.length_nil, List.length_cons, Nat.zero_le, c_I, c_R, c_V, R_no, R_refuse, R_fault, f_s_row, f4c, f4k, f4n, ne_eq, not_false_eq_true, not_true_eq_false, Nat.reduceEqDiff, reduceCtorEq, Nat.succ_ne_zero, Nat.reduceAdd, ar_0, z10, z20, z30, z40, z50, z01, zm0, zm1, C_at1 hB hN hg, R_isG1 hn hg (by omega), G_ne, R_is (show g < 96 by omega), g2, z2, hs]; try rfl) (U_status h 2) rfl rfl
/-- a context ends -/
theorem W_end (h : Rel n M f ρ τ κ) {g o : Nat} (hg : g < n) (g3 : f 5 g = 3) (ho : o < n) (o2 : f 5 o = 2) (g7 : f 7 g = nI o) (hr : ¬ f 4 2 = nI g) : Rel n (bcm (h_si M (ρ o) 4 (h_i M (ρ o) 4 - 1)) g 1 0 (-1)) (f_b f g 1 (-1)) ρ τ κ := by
  have hN := h.2.2.2.1.2.2.1
  have og : o ≠ g := fun q => by rw [q, g3] at o2; exact absurd o2 (by decide)
  obtain ⟨bo, bk⟩ := at_d h ho o2
  have n5 : ∀ i, i ≠ g → ∀ b, b ≠ 6 → f_b f g 1 (-1) b i = f b i := fun i hi b hb => fbn (by omega) (by omega) (by omega)
  have nr : ∀ b, b ≠ 5 → b ≠ 6 → b ≠ 7 → f_b f g 1 (-1) b = f b := fun b h1 h2 h3 => fbr h1 h2 h3
  have hj : ∀ j, j < n → j ≠ g → f_b f g 1 (-1) 5 j = f 5 j ∧ f_b f g 1 (-1) 7 j = f 7 j := fun j _ jg => ⟨n5 j jg 5 (by decide), n5 j jg 7 (by decide)⟩
  have hq : q_ref n (f_b f g 1 (-1)) := by
    refine q_one h.2.2.2.1 hg (by simp [g3]) (by rw [fb5]; simp) (fun e => by rw [fb5] at e; exact absurd e (by decide)) (by rw [nr 4 (by decide) (by decide) (by decide)]) (by rw [nr 4 (by decide) (by decide) (by decide)]; exact h.2.2.2.1.2.2.2.1) (nr 3 (by decide) (by decide) (by decide)) (fun i hi ig => ⟨n5 i ig 5 (by decide), n5 i ig 7 (by decide), n5 i ig 9 (by decide), n5 i ig 12 (by decide), n5 i ig 13 (by decide), n5 i ig 27 (by decide)⟩) (fun i e hi he => ⟨by rw [nr 14 (by decide) (by decide) (by decide)], by rw [nr 15 (by decide) (by decide) (by decide)], by rw [nr 16 (by decide) (by decide) (by decide)]⟩)
  have hi' : ∀ x k, x ≠ G_ g → x ≠ Wd g → ¬ (x = ρ o ∧ k = 4) → h_i (bcm (h_si M (ρ o) 4 (h_i M (ρ o) 4 - 1)) g 1 0 (-1)) x k = h_i M x k := fun x k h1 h2 h3 => by
    rw [b_i (fun q => h1 q.1) (fun q => h2 q.1), I_si, f_s_ne (by omega)]
  have hr' : ∀ x k, x ≠ G_ g → h_r (bcm (h_si M (ρ o) 4 (h_i M (ρ o) 4 - 1)) g 1 0 (-1)) x k = h_r M x k := fun x k h1 => by
    rw [b_r (fun q => h1 q.1), Q_si]
  have cX : ∀ i, i < n → i ≠ o → ∀ w : Int32, w ≠ 1 → cn n (f_b f g 1 (-1)) w i = cn n f w i := fun i hi hio w hw => cn_off hj (fun q => hio (nI_inj (by omega) (by omega) (by rw [← q.2, g7]))) (fun q => hw (by rw [← q.1, fb5]))
  have c3 : cn n f 3 o = cn n (f_b f g 1 (-1)) 3 o + 1 := cn_more hg (fun q => by rw [fb5] at q; exact absurd q.1 (by decide)) ⟨g3, g7⟩ (fun j hj' jg => ⟨(hj j hj' jg).1.symm, (hj j hj' jg).2.symm⟩)
  have cO : ∀ w : Int32, w ≠ 1 → w ≠ 3 → cn n (f_b f g 1 (-1)) w o = cn n f w o := fun w h1 h2 => cn_off hj (fun q => h2 (by rw [← q.1, g3])) (fun q => h1 (by rw [← q.1, fb5]))
  obtain ⟨d1, d2, d3, d4, d5, d6, d7, d8, d9, d10⟩ := h.2.2.2.2.2.2.1 o ho o2
  have cle := cnt_le (fun j => decide (f 5 j = 3 ∧ f 7 j = nI o)) n 0
  have dr : h_i M (ρ o) 4 - 1 = nI (cn n (f_b f g 1 (-1)) 3 o) := by
    rw [d6, c3, show (1 : Int32) = nI 1 from rfl, pk_sub (by omega), Nat.add_sub_cancel]
  refine Rel_tr h (fun i => i = g ∨ i = o) ?_ ?_ hq ?_ (fun _ _ => rfl) (fun y k hy => ?_) (fun _ _ _ _ => rfl) (fun _ _ _ _ => rfl) (fun _ _ _ _ => rfl) (fun b i hi hs h5 h27 h6 _ _ _ _ _ _ => n5 i (by omega) b h6) (fun i k hi hs hk => fbn (by omega) (by omega) (by omega)) (fun i k hi hs hk => by rw [nr 11 (by decide) (by decide) (by decide)]) (fun b i e hi hs he h1 h2 => by rw [nr b (by omega) (by omega) (by omega)]) (fun i k hi hs hk => by rw [nr 19 (by decide) (by decide) (by decide)]) (fun i hi hs h2 => ?_) (fun i hi hs => ?_)
  · exact BX_r h.1 h.2.1 rfl rfl rfl (fun x k _ h2 _ => by
      by_cases q : x = G_ g
      · subst q
        have : k = 1 := by
          by_cases k1 : k = 1
          · exact k1
          · exact absurd ⟨(h.1.2.2.2.2.1 g hg).2.1, k1⟩ h2
        subst this
        rw [b_r (by omega), Q_si]
      · exact hr' x k q)
  · exact ⟨fun i hi => (hi' 1 i (by unfold G_; omega) (by unfold Wd; omega) (by omega)).trans (h.2.2.1.1 i hi), fun i hi => (hi' 2 i (by unfold G_; omega) (by unfold Wd; omega) (by omega)).trans (h.2.2.1.2 i hi)⟩
  · exact zh_keep h (fun k => hi' 4 k (by unfold G_; omega) (by unfold Wd; omega) (by omega)) (hr' 4 3 (by unfold G_; omega)) (nr 4 (by decide) (by decide) (by decide)) (fun r hr1 r3 r4 => ⟨by rw [n5 r (fun q => hr (by rw [← q]; exact r4)) 5 (by decide)]; exact r3, rfl, by rw [nr 26 (by decide) (by decide) (by decide)], hr' _ 9 (by have := (at_c h hr1 r3).1; unfold G_; omega)⟩)
  · have t1 := ntc_i hy hg (Or.inl rfl)
    have t2 := ntc_i hy ho (Or.inr rfl)
    have t3 := t2.2.2.1 o2
    exact ⟨hi' y k t1.1 t1.2.1 (by omega), hr' y k t1.1⟩
  · exact ⟨cX i hi (by omega) 3 (by decide), cX i hi (by omega) 4 (by decide), cX i hi (by omega) 5 (by decide)⟩
  · rcases hs with rfl | rfl
    · exact z_free ((b_i (by omega) (by unfold G_ Wd; omega)).trans (by rw [I_si, f_s_ne (by unfold G_; omega)]; exact (h.2.2.2.2.2.1 i hi).1)) (by rw [b_i2, fb5]) (by rw [fb5]; simp) b_i4 b_r3 b_r5 b_r6 (fun k hk => by rw [b_iw hk, fb6 hk])
    · have gne : G_ i ≠ G_ g := fun q => og (G_inj q)
      have z1 := zg_keep (M' := bcm (h_si M (ρ i) 4 (h_i M (ρ i) 4 - 1)) g 1 0 (-1)) (f' := f_b f g 1 (-1)) (ρ' := ρ) (τ' := τ) (κ' := κ) (h.2.2.2.2.2.1 i hi) (fun k _ => hi' _ k gne (by unfold G_ Wd; omega) (by unfold G_; omega)) (fun k => hr' _ k gne) (fun k _ => hi' _ k (by unfold G_ Wd; omega) (by unfold Wd; omega) (by unfold Wd; omega)) (n5 i og 5 (by decide)) (fun k hk => fbn (by omega) (by omega) (by omega)) (n5 i og 7 (by decide)) (n5 i og 12 (by decide)) (n5 i og 17 (by decide)) (n5 i og 27 (by decide)) (fun _ => rfl) (fun _ => rfl) (fun _ => rfl) (fun _ => rfl)
      have z5 : f_b f g 1 (-1) 5 i = 2 := (n5 i og 5 (by decide)).trans o2
      refine ⟨z1, fun _ => zd_keep (h.2.2.2.2.2.2.1 i hi o2) rfl rfl (fun k => hr' _ k (by unfold G_; omega)) (hi' _ 3 (by unfold G_; omega) (by unfold Wd; omega) (by omega)) (fun q k _ _ => hi' _ k (by unfold G_; omega) (by unfold Wd; omega) (by omega)) rfl (n5 i og 8 (by decide)) (n5 i og 9 (by decide)) (fun k _ => by rw [nr 11 (by decide) (by decide) (by decide)]) ?_ ?_ ?_ ?_, fun e => by rw [z5] at e; exact absurd e (by decide), fun e => by rw [z5] at e; exact absurd e (by decide)⟩
      · rw [b_i (by unfold G_; omega) (by unfold Wd; omega), I_si, f_s_eq]; exact dr
      · rw [hi' _ 5 (by unfold G_; omega) (by unfold Wd; omega) (by omega), n5 i og 10 (by decide)]; exact d7
      · rw [hi' _ 6 (by unfold G_; omega) (by unfold Wd; omega) (by omega), cO 4 (by decide) (by decide)]; exact d8
      · rw [hi' _ 7 (by unfold G_; omega) (by unfold Wd; omega) (by omega), cO 5 (by decide) (by decide)]; exact d9
theorem op_end (h : Rel n M f ρ τ κ) (x : Int32) : OK2 n M (ev 42 0 [some (.inr 4), some (.inl x), none, none] [] M) (ev 138 0 [some (.inr 4), some (.inl x)] [] (mkR f)) := by
  have hB := h.1
  have s1 := h.1.2.1.1
  have hn := h.2.2.2.1.1
  have hN := h.2.2.2.1.2.2.1
  rcases ix2 x (show n < 2 ^ 31 by omega) with hx | ⟨g, hg, rfl⟩
  · exact OK2.of (v := 0) (by simp only [e_42_0, c_I, c_R, c_V, if_true, if_false, true_and, and_true, true_or, or_true, List.length_nil, List.length_cons, Nat.zero_le, k_si, l_si, r_si, k_sr, l_sr, i_sr, n_si, ar_si, ar_sr, ar_0, rc7 s1, s1, C_no, C_none, C_yes, C_done, C_bit0, C_bit1, C_fault, z10, z20, z30, z40, z50, z01, zm0, zm1, C_at0 hB hx, R_isG0 hn hx]; try rfl) (by simp only [e_138_0, kR1, kR2, kR3, kR4, kR5, kR6, kR7, kR8, kR9, kR10, kR11, kR12, kR13, kR14, kR15, kR16, kR17, kR18, kR19, kR20, kR21, kR22, kR23, kR24, kR25, kR26, kR27, kR28, kR29, kR30, lR1, lR2, lR3, lR4, lR5, lR6, lR7, lR8, lR9, lR10, lR11, lR12, lR13, lR14, lR15, lR16, lR17, lR18, lR19, lR20, lR21, lR22, lR23, lR24, lR25, lR26, lR27, lR28, lR29, lR30, rR5, rR6, rR7, rR8, rR9, rR10, rR11, rR12, rR13, rR14, rR15, rR16, rR17, rR18, rR19, rR20, rR21, rR22, rR23, rR24, rR25, rR26, rR27, rR28, rR29, rR30, R_i, R_si, R_rec, if_true, if_false, true_and, and_true, true_or, or_true, List.length_nil, List.length_cons, Nat.zero_le, c_I, c_R, c_V, R_no, R_refuse, R_fault, f_s_row, f4c, f4k, f4n, ne_eq, not_false_eq_true, not_true_eq_false, Nat.reduceEqDiff, reduceCtorEq, Nat.succ_ne_zero, Nat.reduceAdd, ar_0, z10, z20, z30, z40, z50, z01, zm0, zm1, C_at0 hB hx, R_isG0 hn hx]; try rfl) (U_status h 1) rfl rfl
  · obtain ⟨g1, g2, g3, g4, g5⟩ := hB.2.2.2.2.1 g hg
    have hrec := rec_ h hg
    by_cases hs : f 5 g = 3
    · rw [if_pos hs] at hrec
      have k0 := κ_ne h hg hs
      obtain ⟨o1, o2, o3⟩ := h.2.2.2.1.2.2.2.2.2.2.2.1 g hg hs
      obtain ⟨a1, a2, a3, -⟩ := h.2.2.2.2.2.2.2.2 g hg hs
      generalize ow f g = o at a3 o1 o2 o3
      have r4 := (at_d h o1 o3).2
      have k14 : ¬ h_k M (κ g) = 14 := by rw [a1]; decide
      have k15 : ¬ h_k M (h_r M 4 3) = 14 := by
        rcases h.2.2.2.2.1.2.2.2 with ⟨-, e⟩ | ⟨r, -, e1, -, -, e2, e, -⟩
        · rw [e, hB.2.2.2.2.2.2.2]; decide
        · rw [e, (at_c h e1 e2).2]; decide
      by_cases hr : f 4 2 = nI g
      · have hr2 : h_r M 4 3 = κ g := by
          rcases h.2.2.2.2.1.2.2.2 with ⟨e, -⟩ | ⟨r, -, e1, -, e0, e2, e, -⟩
          · rw [hr] at e; exact absurd e (nI_m1 (by omega))
          · rw [hr] at e0; rw [e, nI_inj (by omega) (by omega) e0]
        rw [hr2] at k15
        exact OK2.of (v := 0) (by simp only [e_42_0, c_I, c_R, c_V, if_true, if_false, true_and, and_true, true_or, or_true, List.length_nil, List.length_cons, Nat.zero_le, k_si, l_si, r_si, k_sr, l_sr, i_sr, n_si, ar_si, ar_sr, ar_0, rc7 s1, s1, C_no, C_none, C_yes, C_done, C_bit0, C_bit1, C_fault, z10, z20, z30, z40, z50, z01, zm0, zm1, C_at1 hB hN hg, R_isG1 hn hg (by omega), G_ne, R_is (show g < 96 by omega), g2, hs, hrec, k0, k14, k15, hr, hr2]; try rfl) (by simp only [e_138_0, kR1, kR2, kR3, kR4, kR5, kR6, kR7, kR8, kR9, kR10, kR11, kR12, kR13, kR14, kR15, kR16, kR17, kR18, kR19, kR20, kR21, kR22, kR23, kR24, kR25, kR26, kR27, kR28, kR29, kR30, lR1, lR2, lR3, lR4, lR5, lR6, lR7, lR8, lR9, lR10, lR11, lR12, lR13, lR14, lR15, lR16, lR17, lR18, lR19, lR20, lR21, lR22, lR23, lR24, lR25, lR26, lR27, lR28, lR29, lR30, rR5, rR6, rR7, rR8, rR9, rR10, rR11, rR12, rR13, rR14, rR15, rR16, rR17, rR18, rR19, rR20, rR21, rR22, rR23, rR24, rR25, rR26, rR27, rR28, rR29, rR30, R_i, R_si, R_rec, if_true, if_false, true_and, and_true, true_or, or_true, List.length_nil, List.length_cons, Nat.zero_le, c_I, c_R, c_V, R_no, R_refuse, R_fault, f_s_row, f4c, f4k, f4n, ne_eq, not_false_eq_true, not_true_eq_false, Nat.reduceEqDiff, reduceCtorEq, Nat.succ_ne_zero, Nat.reduceAdd, ar_0, z10, z20, z30, z40, z50, z01, zm0, zm1, C_at1 hB hN hg, R_isG1 hn hg (by omega), G_ne, R_is (show g < 96 by omega), g2, hs, hrec, k0, k14, k15, hr, hr2]; try rfl) (U_status h 4) rfl rfl
      · have hr2 : ¬ κ g = h_r M 4 3 := fun q => by
          rcases h.2.2.2.2.1.2.2.2 with ⟨-, e⟩ | ⟨r, -, e1, -, e0, e2, e, -⟩
          · rw [e] at q; exact k0 q
          · have := rr_cc h hg e1 hs e2
            rw [e] at q
            have : g = r := by omega
            rw [this] at hr; exact hr e0
        have h1 := W_end h hg hs o1 o3 o2 hr
        have kb : h_k (bcm (h_si M (ρ o) 4 (h_i M (ρ o) 4 - 1)) g 1 0 (-1)) 4 = 7 := s1
        exact OK2.of (v := 1) (by simp only [e_42_0, c_I, c_R, c_V, if_true, if_false, true_and, and_true, true_or, or_true, List.length_nil, List.length_cons, Nat.zero_le, k_si, l_si, r_si, k_sr, l_sr, i_sr, n_si, ar_si, ar_sr, ar_0, rc7 s1, s1, C_no, C_none, C_yes, C_done, C_bit0, C_bit1, C_fault, z10, z20, z30, z40, z50, z01, zm0, zm1, C_at1 hB hN hg, G_ne, g2, hrec, k0, k14, k15, hr2, a1, a3, r4, Nat.reduceEqDiff, not_false_eq_true, and_self, rc3 g2, C_become (M := h_si M (ρ o) 4 (h_i M (ρ o) 4 - 1)) g2 g3 g4 g5, rc7 kb, C_yes kb]) (by simp only [e_138_0, kR1, kR2, kR3, kR4, kR5, kR6, kR7, kR8, kR9, kR10, kR11, kR12, kR13, kR14, kR15, kR16, kR17, kR18, kR19, kR20, kR21, kR22, kR23, kR24, kR25, kR26, kR27, kR28, kR29, kR30, lR1, lR2, lR3, lR4, lR5, lR6, lR7, lR8, lR9, lR10, lR11, lR12, lR13, lR14, lR15, lR16, lR17, lR18, lR19, lR20, lR21, lR22, lR23, lR24, lR25, lR26, lR27, lR28, lR29, lR30, rR5, rR6, rR7, rR8, rR9, rR10, rR11, rR12, rR13, rR14, rR15, rR16, rR17, rR18, rR19, rR20, rR21, rR22, rR23, rR24, rR25, rR26, rR27, rR28, rR29, rR30, R_i, R_si, R_rec, if_true, if_false, true_and, and_true, true_or, or_true, List.length_nil, List.length_cons, Nat.zero_le, c_I, c_R, c_V, R_no, R_refuse, R_fault, f_s_row, f4c, f4k, f4n, ne_eq, not_false_eq_true, not_true_eq_false, Nat.reduceEqDiff, reduceCtorEq, Nat.succ_ne_zero, Nat.reduceAdd, ar_0, z10, z20, z30, z40, z50, z01, zm0, zm1, R_isG1 hn hg (show n < 2 ^ 31 by omega), R_is (show g < 96 by omega), hs, hr, R_become (show g < 96 by omega)]) (W_status h1 0) rfl rfl
    · rw [if_neg hs] at hrec
      exact OK2.of (v := 0) (by simp only [e_42_0, c_I, c_R, c_V, if_true, if_false, true_and, and_true, true_or, or_true, List.length_nil, List.length_cons, Nat.zero_le, k_si, l_si, r_si, k_sr, l_sr, i_sr, n_si, ar_si, ar_sr, ar_0, rc7 s1, s1, C_no, C_none, C_yes, C_done, C_bit0, C_bit1, C_fault, z10, z20, z30, z40, z50, z01, zm0, zm1, C_at1 hB hN hg, R_isG1 hn hg (by omega), G_ne, R_is (show g < 96 by omega), g2, hs, hrec]; try rfl) (by simp only [e_138_0, kR1, kR2, kR3, kR4, kR5, kR6, kR7, kR8, kR9, kR10, kR11, kR12, kR13, kR14, kR15, kR16, kR17, kR18, kR19, kR20, kR21, kR22, kR23, kR24, kR25, kR26, kR27, kR28, kR29, kR30, lR1, lR2, lR3, lR4, lR5, lR6, lR7, lR8, lR9, lR10, lR11, lR12, lR13, lR14, lR15, lR16, lR17, lR18, lR19, lR20, lR21, lR22, lR23, lR24, lR25, lR26, lR27, lR28, lR29, lR30, rR5, rR6, rR7, rR8, rR9, rR10, rR11, rR12, rR13, rR14, rR15, rR16, rR17, rR18, rR19, rR20, rR21, rR22, rR23, rR24, rR25, rR26, rR27, rR28, rR29, rR30, R_i, R_si, R_rec, if_true, if_false, true_and, and_true, true_or, or_true, List.length_nil, List.length_cons, Nat.zero_le, c_I, c_R, c_V, R_no, R_refuse, R_fault, f_s_row, f4c, f4k, f4n, ne_eq, not_false_eq_true, not_true_eq_false, Nat.reduceEqDiff, reduceCtorEq, Nat.succ_ne_zero, Nat.reduceAdd, ar_0, z10, z20, z30, z40, z50, z01, zm0, zm1, C_at1 hB hN hg, R_isG1 hn hg (by omega), G_ne, R_is (show g < 96 by omega), g2, hs, hrec]; try rfl) (U_status h 2) rfl rfl
end E
