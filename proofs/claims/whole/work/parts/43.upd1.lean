/-! changes of ints on both sides that keep the relation -/
theorem lk {c f : Nat → Nat → Int32} {A K B J a k b j : Nat} {x : Int32} (hi : (a = A ∧ k = K) ↔ (b = B ∧ j = J)) (h : c a k = f b j) : f_s c A K x a k = f_s f B J x b j := by
  unfold f_s
  by_cases e : a = A ∧ k = K
  · rw [if_pos e, if_pos (hi.mp e)]
  · rw [if_neg e, if_neg (fun q => e (hi.mpr q))]; exact h
section UP
variable {n : Nat} {M : mM} {f : Nat → Nat → Int32} {ρ τ κ : Nat → Nat}
theorem rr_dd (h : Rel n M f ρ τ κ) {i o : Nat} (hi : i < n) (ho : o < n) (h1 : f 5 i = 2) (h2 : f 5 o = 2) : (i = o ∧ ρ i = ρ o) ∨ (i ≠ o ∧ (ρ i + 7 ≤ ρ o ∨ ρ o + 7 ≤ ρ i)) := by
  by_cases e : i = o
  · exact Or.inl ⟨e, by rw [e]⟩
  · exact Or.inr ⟨e, dj_dd h hi ho h1 h2 e⟩
theorem rr_tt (h : Rel n M f ρ τ κ) {i o : Nat} (hi : i < n) (ho : o < n) (h1 : f 5 i = 4) (h2 : f 5 o = 4) : (i = o ∧ τ i = τ o) ∨ (i ≠ o ∧ (τ i + 10 ≤ τ o ∨ τ o + 10 ≤ τ i)) := by
  by_cases e : i = o
  · exact Or.inl ⟨e, by rw [e]⟩
  · exact Or.inr ⟨e, dj_tt h hi ho h1 h2 e⟩
theorem rr_cc (h : Rel n M f ρ τ κ) {i o : Nat} (hi : i < n) (ho : o < n) (h1 : f 5 i = 3) (h2 : f 5 o = 3) : (i = o ∧ κ i = κ o) ∨ (i ≠ o ∧ (κ i + 2 ≤ κ o ∨ κ o + 2 ≤ κ i)) := by
  by_cases e : i = o
  · exact Or.inl ⟨e, by rw [e]⟩
  · exact Or.inr ⟨e, dj_cc h hi ho h1 h2 e⟩
/-- ints alone change: what must hold of them -/
theorem Rel_i {c f' : Nat → Nat → Int32} (h : Rel n M f ρ τ κ) (r3 : f' 3 = f 3) (r5 : f' 5 = f 5) (r7 : f' 7 = f 7) (r9 : f' 9 = f 9) (r12 : f' 12 = f 12) (r13 : f' 13 = f 13) (r14 : f' 14 = f 14) (r15 : f' 15 = f 15) (r17 : f' 17 = f 17) (r26 : f' 26 = f 26) (r27 : f' 27 = f 27) (k0 : f' 4 0 = f 4 0) (k2 : f' 4 2 = f 4 2) (k31 : f' 4 31 = 0)
    (cs1 : ∀ k, c 1 k = h_i M 1 k) (cs2 : ∀ k, c 2 k = h_i M 2 k) (hh1 : c 4 4 = f' 4 1) (hh2 : c 4 5 = f' 4 3) (hh3 : c 4 6 = f' 4 4)
    (hG : ∀ i, i < n → c (G_ i) 0 = h_i M (G_ i) 0 ∧ c (G_ i) 2 = h_i M (G_ i) 2 ∧ c (G_ i) 4 = h_i M (G_ i) 4) (hW : ∀ i k, i < n → k < 32 → c (Wd i) k = f' 6 (32 * i + k))
    (hd : ∀ i, i < n → f 5 i = 2 → c (ρ i) 3 = f' 8 i ∧ (f' 8 i = 0 ∨ f' 8 i = 1 ∨ f' 8 i = 2) ∧ c (ρ i) 4 = h_i M (ρ i) 4 ∧ c (ρ i) 5 = f' 10 i ∧ c (ρ i) 6 = h_i M (ρ i) 6 ∧ c (ρ i) 7 = h_i M (ρ i) 7 ∧ ∀ q k, q < 5 → k < 8 → c (ρ i + 2 + q) k = f' 11 (40 * i + 8 * q + k))
    (ht : ∀ i, i < n → f 5 i = 4 → c (τ i) 1 = h_i M (τ i) 1 ∧ ∀ e, e < 8 → c (τ i + 2 + e) 0 = h_i M (τ i + 2 + e) 0 ∧ c (τ i + 2 + e) 1 = h_i M (τ i + 2 + e) 1 ∧ c (τ i + 2 + e) 2 = f' 16 (8 * i + e))
    (hrp : ∀ i e, i < n → f 5 i = 4 → e < 8 → q_rip f' i e ∧ (f 14 (8 * i + e) = 2 → f' 16 (8 * i + e) = 0))
    (hc : ∀ i, i < n → f 5 i = 3 → c (κ i) 2 = f' 18 i ∧ (f' 18 i = 0 ∨ f' 18 i = 1) ∧ (∀ k, k < 8 → c (κ i + 1) k = f' 19 (8 * i + k)) ∧ c (κ i) 4 = f' 20 i ∧ (f' 20 i = 0 ∨ f' 20 i = 1 ∨ f' 20 i = 2) ∧ (f' 20 i = 1 → c (κ i) 5 = f' 21 i ∧ ∃ P, P < 2048 ∧ f' 21 i = nI P) ∧ (f' 20 i = 2 → c (κ i) 6 = f' 24 i ∧ c (κ i) 7 = f' 22 i ∧ c (κ i) 8 = f' 23 i ∧ ∃ a b, a ≤ b ∧ b ≤ 2048 ∧ f' 24 i = nI a ∧ f' 22 i = nI b ∧ (f' 23 i = 0 ∨ f' 23 i = 1)) ∧ c (κ i) 10 = f' 25 i) : Rel n (mkU M c) f' ρ τ κ := by
  obtain ⟨hB, hX, hst, hq, hh, zg, zd, zt, zc⟩ := h
  refine ⟨hB, hX, ⟨fun i hi => by rw [U_i, cs1]; exact hst.1 i hi, fun i hi => by rw [U_i, cs2]; exact hst.2 i hi⟩, ?_, ?_, fun i hi => ?_, fun i hi h2 => ?_, fun i hi h2 => ?_, fun i hi h2 => ?_⟩
  · obtain ⟨q1, q2, q3, q4, q5, ⟨t1, t2, t3⟩, q7, q8, q9⟩ := hq
    refine ⟨by rw [k0]; exact q1, q2, q3, k31, by rw [r3]; exact q5, ⟨t1, fun g hg h4 => ?_, ?_⟩, ?_, ?_, ?_⟩
    · rw [r5] at h4
      obtain ⟨a1, a2, a3⟩ := t2 g hg h4
      refine ⟨?_, ?_, fun e he => ⟨?_, (hrp g e hg h4 he).1⟩⟩
      · simp only [q_own, ow, r5, r7]; exact a1
      · simp only [q_T1, lv, bs, ow, r5, r7, r9, r12, r13, r14, r15]; exact a2
      · have hx := (a3 e he).1
        have hy := (hrp g e hg h4 he).2
        simp only [q_T2, lv, bs, tg, r5, r7, r12, r13, r14, r15, r27] at hx ⊢
        rcases hx with hx | hx | ⟨x1, x2, x3, x4, x5, x6, x7, x8, x9⟩
        · exact Or.inl hx
        · exact Or.inr (Or.inl hx)
        · exact Or.inr (Or.inr ⟨x1, x2, x3, x4, x5, x6, x7, x8, hy x1⟩)
    · simp only [q_root, lv, r5, r7, r9, r12]; exact t3
    · simp only [q_own, q_T3, lv, bs, ow, r5, r7, r12, r13, r14, r15]; exact q7
    · simp only [q_own, ow, r5, r7]; exact q8
    · rw [r5, r7]; exact q9
  · unfold z_h at hh ⊢
    rw [U_i, U_i, U_i, k2, r5, r26]
    exact ⟨hh1, hh2, hh3, hh.2.2.2⟩
  · have z := zg i hi
    obtain ⟨g1, g2, g3⟩ := hG i hi
    simp only [z_g, U_i, U_r, ow, r5, r7, r12, r17, r27, g1, g2, g3] at z ⊢
    exact ⟨z.1, z.2.1, fun k hk => hW i k hi hk, z.2.2.2⟩
  · rw [r5] at h2
    obtain ⟨a1, a2, a3, a4, a5, a6, a7, a8, a9, a10⟩ := zd i hi h2
    obtain ⟨b1, b2, b3, b4, b5, b6, b7⟩ := hd i hi h2
    simp only [z_d, U_i, U_r, U_k, rt, cn, r5, r7, r9]
    exact ⟨a1, a2, a3, b1, b2, by rw [b3]; exact a6, b4, by rw [b5]; exact a8, by rw [b6]; exact a9, b7⟩
  · rw [r5] at h2
    obtain ⟨a1, a2, a3, a4⟩ := zt i hi h2
    obtain ⟨b1, b2⟩ := ht i hi h2
    refine ⟨a1, a2, by rw [U_i, b1, r12]; exact a3, fun e he => ?_⟩
    obtain ⟨c1, c2, c3, c4, c5⟩ := a4 e he
    obtain ⟨d1, d2, d3⟩ := b2 e he
    simp only [z_e, U_i, U_r, lv, bs, tg, r12, r13, r14, r15]
    exact ⟨by rw [d1]; exact c1, by rw [d2]; exact c2, d3, c4, c5⟩
  · rw [r5] at h2
    obtain ⟨a1, a2, a3, -⟩ := zc i hi h2
    obtain ⟨b1, b2, b3, b4, b5, b6, b7, b8⟩ := hc i hi h2
    simp only [z_c, U_i, U_r, U_k, ow, r7]
    exact ⟨a1, a2, a3, b1, b2, b3, b4, b5, b6, b7, b8⟩
theorem U_status (h : Rel n M f ρ τ κ) (x : Int32) : Rel n (mkU M (f_s (h_i M) 4 4 x)) (f_s f 4 1 x) ρ τ κ := by
  have hh := h.2.2.2.2.1
  have hN := h.2.2.2.1.2.2.1
  refine Rel_i h (f_s_row (show 3 ≠ 4 by decide)) (f_s_row (show 5 ≠ 4 by decide)) (f_s_row (show 7 ≠ 4 by decide)) (f_s_row (show 9 ≠ 4 by decide)) (f_s_row (show 12 ≠ 4 by decide)) (f_s_row (show 13 ≠ 4 by decide)) (f_s_row (show 14 ≠ 4 by decide)) (f_s_row (show 15 ≠ 4 by decide)) (f_s_row (show 17 ≠ 4 by decide)) (f_s_row (show 26 ≠ 4 by decide)) (f_s_row (show 27 ≠ 4 by decide)) (f_s_ne (by omega)) (f_s_ne (by omega)) (by rw [f_s_ne (by omega)]; exact h.2.2.2.1.2.2.2.1) (fun k => f_s_ne (by (try unfold Wd); omega)) (fun k => f_s_ne (by (try unfold Wd); omega)) ?_ ?_ ?_ (fun i hi => ?_) (fun i k hi hk => ?_) (fun i hi h2 => ?_) (fun i hi h2 => ?_) (fun i e hi h2 he => ?_) (fun i hi h2 => ?_)
  · exact lk (by (try unfold Wd); omega) hh.1
  · exact lk (by (try unfold Wd); omega) hh.2.1
  · exact lk (by (try unfold Wd); omega) hh.2.2.1
  · exact ⟨f_s_ne (by unfold G_; (try unfold Wd); omega), f_s_ne (by unfold G_; (try unfold Wd); omega), f_s_ne (by unfold G_; (try unfold Wd); omega)⟩
  · exact lk (by unfold Wd; omega) ((h.2.2.2.2.2.1 i hi).2.2.1 k hk)
  · obtain ⟨b1, b2⟩ := at_d h hi h2
    obtain ⟨a1, a2, a3, a4, a5, a6, a7, a8, a9, a10⟩ := h.2.2.2.2.2.2.1 i hi h2
    refine ⟨lk (by (try unfold Wd); omega) a4, by rw [f_s_row (show 8 ≠ 4 by decide)]; exact a5, f_s_ne (by (try unfold Wd); omega), lk (by (try unfold Wd); omega) a7, f_s_ne (by (try unfold Wd); omega), f_s_ne (by (try unfold Wd); omega), fun q k hq hk => lk (by (try unfold Wd); omega) (a10 q k hq hk)⟩
  · obtain ⟨b1, b2⟩ := at_t h hi h2
    obtain ⟨a1, a2, a3, a4⟩ := h.2.2.2.2.2.2.2.1 i hi h2
    refine ⟨f_s_ne (by (try unfold Wd); omega), fun e he => ?_⟩
    obtain ⟨c1, c2, c3, c4, c5⟩ := a4 e he
    exact ⟨f_s_ne (by (try unfold Wd); omega), f_s_ne (by (try unfold Wd); omega), lk (by (try unfold Wd); omega) c3⟩
  · have a3 := (h.2.2.2.1.2.2.2.2.2.1.2.1 i hi h2).2.2 e he
    simp only [q_rip, lv, bs, f_s_row (show 12 ≠ 4 by decide), f_s_row (show 13 ≠ 4 by decide), f_s_row (show 16 ≠ 4 by decide)]
    refine ⟨a3.2, fun h14 => ?_⟩
    rcases a3.1 with ⟨w, -⟩ | ⟨w, -⟩ | ⟨-, -, -, -, -, -, -, -, w⟩
    · rw [h14] at w; exact absurd w (by decide)
    · rw [h14] at w; exact absurd w (by decide)
    · exact w
  · obtain ⟨b1, b2⟩ := at_c h hi h2
    obtain ⟨a1, a2, a3, a4, a5, a6, a7, a8, a9, a10, a11⟩ := h.2.2.2.2.2.2.2.2 i hi h2
    simp only [f_s_row (show 18 ≠ 4 by decide), f_s_row (show 20 ≠ 4 by decide), f_s_row (show 21 ≠ 4 by decide), f_s_row (show 22 ≠ 4 by decide), f_s_row (show 23 ≠ 4 by decide), f_s_row (show 24 ≠ 4 by decide), f_s_row (show 25 ≠ 4 by decide)]
    exact ⟨(fun (hne : _ ≠ _ ∨ _ ≠ _) (q : _) => (f_s_ne hne).trans q) (by (try unfold Wd); omega) a4, a5, fun k hk => lk (by (try unfold Wd); omega) (a6 k hk), (fun (hne : _ ≠ _ ∨ _ ≠ _) (q : _) => (f_s_ne hne).trans q) (by (try unfold Wd); omega) a7, a8, fun h3 => ⟨(fun (hne : _ ≠ _ ∨ _ ≠ _) (q : _) => (f_s_ne hne).trans q) (by (try unfold Wd); omega) (a9 h3).1, (a9 h3).2⟩, fun h3 => ⟨(fun (hne : _ ≠ _ ∨ _ ≠ _) (q : _) => (f_s_ne hne).trans q) (by (try unfold Wd); omega) (a10 h3).1, (fun (hne : _ ≠ _ ∨ _ ≠ _) (q : _) => (f_s_ne hne).trans q) (by (try unfold Wd); omega) (a10 h3).2.1, (fun (hne : _ ≠ _ ∨ _ ≠ _) (q : _) => (f_s_ne hne).trans q) (by (try unfold Wd); omega) (a10 h3).2.2.1, (a10 h3).2.2.2⟩, (fun (hne : _ ≠ _ ∨ _ ≠ _) (q : _) => (f_s_ne hne).trans q) (by (try unfold Wd); omega) a11⟩
theorem U_exits (h : Rel n M f ρ τ κ) (x : Int32) : Rel n (mkU M (f_s (h_i M) 4 5 x)) (f_s f 4 3 x) ρ τ κ := by
  have hh := h.2.2.2.2.1
  have hN := h.2.2.2.1.2.2.1
  refine Rel_i h (f_s_row (show 3 ≠ 4 by decide)) (f_s_row (show 5 ≠ 4 by decide)) (f_s_row (show 7 ≠ 4 by decide)) (f_s_row (show 9 ≠ 4 by decide)) (f_s_row (show 12 ≠ 4 by decide)) (f_s_row (show 13 ≠ 4 by decide)) (f_s_row (show 14 ≠ 4 by decide)) (f_s_row (show 15 ≠ 4 by decide)) (f_s_row (show 17 ≠ 4 by decide)) (f_s_row (show 26 ≠ 4 by decide)) (f_s_row (show 27 ≠ 4 by decide)) (f_s_ne (by omega)) (f_s_ne (by omega)) (by rw [f_s_ne (by omega)]; exact h.2.2.2.1.2.2.2.1) (fun k => f_s_ne (by (try unfold Wd); omega)) (fun k => f_s_ne (by (try unfold Wd); omega)) ?_ ?_ ?_ (fun i hi => ?_) (fun i k hi hk => ?_) (fun i hi h2 => ?_) (fun i hi h2 => ?_) (fun i e hi h2 he => ?_) (fun i hi h2 => ?_)
  · exact lk (by (try unfold Wd); omega) hh.1
  · exact lk (by (try unfold Wd); omega) hh.2.1
  · exact lk (by (try unfold Wd); omega) hh.2.2.1
  · exact ⟨f_s_ne (by unfold G_; (try unfold Wd); omega), f_s_ne (by unfold G_; (try unfold Wd); omega), f_s_ne (by unfold G_; (try unfold Wd); omega)⟩
  · exact lk (by unfold Wd; omega) ((h.2.2.2.2.2.1 i hi).2.2.1 k hk)
  · obtain ⟨b1, b2⟩ := at_d h hi h2
    obtain ⟨a1, a2, a3, a4, a5, a6, a7, a8, a9, a10⟩ := h.2.2.2.2.2.2.1 i hi h2
    refine ⟨lk (by (try unfold Wd); omega) a4, by rw [f_s_row (show 8 ≠ 4 by decide)]; exact a5, f_s_ne (by (try unfold Wd); omega), lk (by (try unfold Wd); omega) a7, f_s_ne (by (try unfold Wd); omega), f_s_ne (by (try unfold Wd); omega), fun q k hq hk => lk (by (try unfold Wd); omega) (a10 q k hq hk)⟩
  · obtain ⟨b1, b2⟩ := at_t h hi h2
    obtain ⟨a1, a2, a3, a4⟩ := h.2.2.2.2.2.2.2.1 i hi h2
    refine ⟨f_s_ne (by (try unfold Wd); omega), fun e he => ?_⟩
    obtain ⟨c1, c2, c3, c4, c5⟩ := a4 e he
    exact ⟨f_s_ne (by (try unfold Wd); omega), f_s_ne (by (try unfold Wd); omega), lk (by (try unfold Wd); omega) c3⟩
  · have a3 := (h.2.2.2.1.2.2.2.2.2.1.2.1 i hi h2).2.2 e he
    simp only [q_rip, lv, bs, f_s_row (show 12 ≠ 4 by decide), f_s_row (show 13 ≠ 4 by decide), f_s_row (show 16 ≠ 4 by decide)]
    refine ⟨a3.2, fun h14 => ?_⟩
    rcases a3.1 with ⟨w, -⟩ | ⟨w, -⟩ | ⟨-, -, -, -, -, -, -, -, w⟩
    · rw [h14] at w; exact absurd w (by decide)
    · rw [h14] at w; exact absurd w (by decide)
    · exact w
  · obtain ⟨b1, b2⟩ := at_c h hi h2
    obtain ⟨a1, a2, a3, a4, a5, a6, a7, a8, a9, a10, a11⟩ := h.2.2.2.2.2.2.2.2 i hi h2
    simp only [f_s_row (show 18 ≠ 4 by decide), f_s_row (show 20 ≠ 4 by decide), f_s_row (show 21 ≠ 4 by decide), f_s_row (show 22 ≠ 4 by decide), f_s_row (show 23 ≠ 4 by decide), f_s_row (show 24 ≠ 4 by decide), f_s_row (show 25 ≠ 4 by decide)]
    exact ⟨(fun (hne : _ ≠ _ ∨ _ ≠ _) (q : _) => (f_s_ne hne).trans q) (by (try unfold Wd); omega) a4, a5, fun k hk => lk (by (try unfold Wd); omega) (a6 k hk), (fun (hne : _ ≠ _ ∨ _ ≠ _) (q : _) => (f_s_ne hne).trans q) (by (try unfold Wd); omega) a7, a8, fun h3 => ⟨(fun (hne : _ ≠ _ ∨ _ ≠ _) (q : _) => (f_s_ne hne).trans q) (by (try unfold Wd); omega) (a9 h3).1, (a9 h3).2⟩, fun h3 => ⟨(fun (hne : _ ≠ _ ∨ _ ≠ _) (q : _) => (f_s_ne hne).trans q) (by (try unfold Wd); omega) (a10 h3).1, (fun (hne : _ ≠ _ ∨ _ ≠ _) (q : _) => (f_s_ne hne).trans q) (by (try unfold Wd); omega) (a10 h3).2.1, (fun (hne : _ ≠ _ ∨ _ ≠ _) (q : _) => (f_s_ne hne).trans q) (by (try unfold Wd); omega) (a10 h3).2.2.1, (a10 h3).2.2.2⟩, (fun (hne : _ ≠ _ ∨ _ ≠ _) (q : _) => (f_s_ne hne).trans q) (by (try unfold Wd); omega) a11⟩
theorem U_faults (h : Rel n M f ρ τ κ) (x : Int32) : Rel n (mkU M (f_s (h_i M) 4 6 x)) (f_s f 4 4 x) ρ τ κ := by
  have hh := h.2.2.2.2.1
  have hN := h.2.2.2.1.2.2.1
  refine Rel_i h (f_s_row (show 3 ≠ 4 by decide)) (f_s_row (show 5 ≠ 4 by decide)) (f_s_row (show 7 ≠ 4 by decide)) (f_s_row (show 9 ≠ 4 by decide)) (f_s_row (show 12 ≠ 4 by decide)) (f_s_row (show 13 ≠ 4 by decide)) (f_s_row (show 14 ≠ 4 by decide)) (f_s_row (show 15 ≠ 4 by decide)) (f_s_row (show 17 ≠ 4 by decide)) (f_s_row (show 26 ≠ 4 by decide)) (f_s_row (show 27 ≠ 4 by decide)) (f_s_ne (by omega)) (f_s_ne (by omega)) (by rw [f_s_ne (by omega)]; exact h.2.2.2.1.2.2.2.1) (fun k => f_s_ne (by (try unfold Wd); omega)) (fun k => f_s_ne (by (try unfold Wd); omega)) ?_ ?_ ?_ (fun i hi => ?_) (fun i k hi hk => ?_) (fun i hi h2 => ?_) (fun i hi h2 => ?_) (fun i e hi h2 he => ?_) (fun i hi h2 => ?_)
  · exact lk (by (try unfold Wd); omega) hh.1
  · exact lk (by (try unfold Wd); omega) hh.2.1
  · exact lk (by (try unfold Wd); omega) hh.2.2.1
  · exact ⟨f_s_ne (by unfold G_; (try unfold Wd); omega), f_s_ne (by unfold G_; (try unfold Wd); omega), f_s_ne (by unfold G_; (try unfold Wd); omega)⟩
  · exact lk (by unfold Wd; omega) ((h.2.2.2.2.2.1 i hi).2.2.1 k hk)
  · obtain ⟨b1, b2⟩ := at_d h hi h2
    obtain ⟨a1, a2, a3, a4, a5, a6, a7, a8, a9, a10⟩ := h.2.2.2.2.2.2.1 i hi h2
    refine ⟨lk (by (try unfold Wd); omega) a4, by rw [f_s_row (show 8 ≠ 4 by decide)]; exact a5, f_s_ne (by (try unfold Wd); omega), lk (by (try unfold Wd); omega) a7, f_s_ne (by (try unfold Wd); omega), f_s_ne (by (try unfold Wd); omega), fun q k hq hk => lk (by (try unfold Wd); omega) (a10 q k hq hk)⟩
  · obtain ⟨b1, b2⟩ := at_t h hi h2
    obtain ⟨a1, a2, a3, a4⟩ := h.2.2.2.2.2.2.2.1 i hi h2
    refine ⟨f_s_ne (by (try unfold Wd); omega), fun e he => ?_⟩
    obtain ⟨c1, c2, c3, c4, c5⟩ := a4 e he
    exact ⟨f_s_ne (by (try unfold Wd); omega), f_s_ne (by (try unfold Wd); omega), lk (by (try unfold Wd); omega) c3⟩
  · have a3 := (h.2.2.2.1.2.2.2.2.2.1.2.1 i hi h2).2.2 e he
    simp only [q_rip, lv, bs, f_s_row (show 12 ≠ 4 by decide), f_s_row (show 13 ≠ 4 by decide), f_s_row (show 16 ≠ 4 by decide)]
    refine ⟨a3.2, fun h14 => ?_⟩
    rcases a3.1 with ⟨w, -⟩ | ⟨w, -⟩ | ⟨-, -, -, -, -, -, -, -, w⟩
    · rw [h14] at w; exact absurd w (by decide)
    · rw [h14] at w; exact absurd w (by decide)
    · exact w
  · obtain ⟨b1, b2⟩ := at_c h hi h2
    obtain ⟨a1, a2, a3, a4, a5, a6, a7, a8, a9, a10, a11⟩ := h.2.2.2.2.2.2.2.2 i hi h2
    simp only [f_s_row (show 18 ≠ 4 by decide), f_s_row (show 20 ≠ 4 by decide), f_s_row (show 21 ≠ 4 by decide), f_s_row (show 22 ≠ 4 by decide), f_s_row (show 23 ≠ 4 by decide), f_s_row (show 24 ≠ 4 by decide), f_s_row (show 25 ≠ 4 by decide)]
    exact ⟨(fun (hne : _ ≠ _ ∨ _ ≠ _) (q : _) => (f_s_ne hne).trans q) (by (try unfold Wd); omega) a4, a5, fun k hk => lk (by (try unfold Wd); omega) (a6 k hk), (fun (hne : _ ≠ _ ∨ _ ≠ _) (q : _) => (f_s_ne hne).trans q) (by (try unfold Wd); omega) a7, a8, fun h3 => ⟨(fun (hne : _ ≠ _ ∨ _ ≠ _) (q : _) => (f_s_ne hne).trans q) (by (try unfold Wd); omega) (a9 h3).1, (a9 h3).2⟩, fun h3 => ⟨(fun (hne : _ ≠ _ ∨ _ ≠ _) (q : _) => (f_s_ne hne).trans q) (by (try unfold Wd); omega) (a10 h3).1, (fun (hne : _ ≠ _ ∨ _ ≠ _) (q : _) => (f_s_ne hne).trans q) (by (try unfold Wd); omega) (a10 h3).2.1, (fun (hne : _ ≠ _ ∨ _ ≠ _) (q : _) => (f_s_ne hne).trans q) (by (try unfold Wd); omega) (a10 h3).2.2.1, (a10 h3).2.2.2⟩, (fun (hne : _ ≠ _ ∨ _ ≠ _) (q : _) => (f_s_ne hne).trans q) (by (try unfold Wd); omega) a11⟩
theorem U_word (h : Rel n M f ρ τ κ) {g w : Nat} (x : Int32) (hg : g < n) (hw : w < 32) : Rel n (mkU M (f_s (h_i M) (Wd g) w x)) (f_s f 6 (32 * g + w) x) ρ τ κ := by
  have hh := h.2.2.2.2.1
  have hN := h.2.2.2.1.2.2.1
  refine Rel_i h (f_s_row (show 3 ≠ 6 by decide)) (f_s_row (show 5 ≠ 6 by decide)) (f_s_row (show 7 ≠ 6 by decide)) (f_s_row (show 9 ≠ 6 by decide)) (f_s_row (show 12 ≠ 6 by decide)) (f_s_row (show 13 ≠ 6 by decide)) (f_s_row (show 14 ≠ 6 by decide)) (f_s_row (show 15 ≠ 6 by decide)) (f_s_row (show 17 ≠ 6 by decide)) (f_s_row (show 26 ≠ 6 by decide)) (f_s_row (show 27 ≠ 6 by decide)) (congrFun (f_s_row (show 4 ≠ 6 by decide)) 0) (congrFun (f_s_row (show 4 ≠ 6 by decide)) 2) (by rw [f_s_ne (by omega)]; exact h.2.2.2.1.2.2.2.1) (fun k => f_s_ne (by (try unfold Wd); omega)) (fun k => f_s_ne (by (try unfold Wd); omega)) ?_ ?_ ?_ (fun i hi => ?_) (fun i k hi hk => ?_) (fun i hi h2 => ?_) (fun i hi h2 => ?_) (fun i e hi h2 he => ?_) (fun i hi h2 => ?_)
  · exact lk (by (try unfold Wd); omega) hh.1
  · exact lk (by (try unfold Wd); omega) hh.2.1
  · exact lk (by (try unfold Wd); omega) hh.2.2.1
  · exact ⟨f_s_ne (by unfold G_; (try unfold Wd); omega), f_s_ne (by unfold G_; (try unfold Wd); omega), f_s_ne (by unfold G_; (try unfold Wd); omega)⟩
  · exact lk (by unfold Wd; omega) ((h.2.2.2.2.2.1 i hi).2.2.1 k hk)
  · obtain ⟨b1, b2⟩ := at_d h hi h2
    obtain ⟨a1, a2, a3, a4, a5, a6, a7, a8, a9, a10⟩ := h.2.2.2.2.2.2.1 i hi h2
    refine ⟨lk (by (try unfold Wd); omega) a4, by rw [f_s_row (show 8 ≠ 6 by decide)]; exact a5, f_s_ne (by (try unfold Wd); omega), lk (by (try unfold Wd); omega) a7, f_s_ne (by (try unfold Wd); omega), f_s_ne (by (try unfold Wd); omega), fun q k hq hk => lk (by (try unfold Wd); omega) (a10 q k hq hk)⟩
  · obtain ⟨b1, b2⟩ := at_t h hi h2
    obtain ⟨a1, a2, a3, a4⟩ := h.2.2.2.2.2.2.2.1 i hi h2
    refine ⟨f_s_ne (by (try unfold Wd); omega), fun e he => ?_⟩
    obtain ⟨c1, c2, c3, c4, c5⟩ := a4 e he
    exact ⟨f_s_ne (by (try unfold Wd); omega), f_s_ne (by (try unfold Wd); omega), lk (by (try unfold Wd); omega) c3⟩
  · have a3 := (h.2.2.2.1.2.2.2.2.2.1.2.1 i hi h2).2.2 e he
    simp only [q_rip, lv, bs, f_s_row (show 12 ≠ 6 by decide), f_s_row (show 13 ≠ 6 by decide), f_s_row (show 16 ≠ 6 by decide)]
    refine ⟨a3.2, fun h14 => ?_⟩
    rcases a3.1 with ⟨w, -⟩ | ⟨w, -⟩ | ⟨-, -, -, -, -, -, -, -, w⟩
    · rw [h14] at w; exact absurd w (by decide)
    · rw [h14] at w; exact absurd w (by decide)
    · exact w
  · obtain ⟨b1, b2⟩ := at_c h hi h2
    obtain ⟨a1, a2, a3, a4, a5, a6, a7, a8, a9, a10, a11⟩ := h.2.2.2.2.2.2.2.2 i hi h2
    simp only [f_s_row (show 18 ≠ 6 by decide), f_s_row (show 20 ≠ 6 by decide), f_s_row (show 21 ≠ 6 by decide), f_s_row (show 22 ≠ 6 by decide), f_s_row (show 23 ≠ 6 by decide), f_s_row (show 24 ≠ 6 by decide), f_s_row (show 25 ≠ 6 by decide)]
    exact ⟨(fun (hne : _ ≠ _ ∨ _ ≠ _) (q : _) => (f_s_ne hne).trans q) (by (try unfold Wd); omega) a4, a5, fun k hk => lk (by (try unfold Wd); omega) (a6 k hk), (fun (hne : _ ≠ _ ∨ _ ≠ _) (q : _) => (f_s_ne hne).trans q) (by (try unfold Wd); omega) a7, a8, fun h3 => ⟨(fun (hne : _ ≠ _ ∨ _ ≠ _) (q : _) => (f_s_ne hne).trans q) (by (try unfold Wd); omega) (a9 h3).1, (a9 h3).2⟩, fun h3 => ⟨(fun (hne : _ ≠ _ ∨ _ ≠ _) (q : _) => (f_s_ne hne).trans q) (by (try unfold Wd); omega) (a10 h3).1, (fun (hne : _ ≠ _ ∨ _ ≠ _) (q : _) => (f_s_ne hne).trans q) (by (try unfold Wd); omega) (a10 h3).2.1, (fun (hne : _ ≠ _ ∨ _ ≠ _) (q : _) => (f_s_ne hne).trans q) (by (try unfold Wd); omega) (a10 h3).2.2.1, (a10 h3).2.2.2⟩, (fun (hne : _ ≠ _ ∨ _ ≠ _) (q : _) => (f_s_ne hne).trans q) (by (try unfold Wd); omega) a11⟩
theorem U_how (h : Rel n M f ρ τ κ) {o : Nat} (x : Int32) (ho : o < n) (ho2 : f 5 o = 2) (hx : x = 0 ∨ x = 1 ∨ x = 2) : Rel n (mkU M (f_s (h_i M) (ρ o) 3 x)) (f_s f 8 o x) ρ τ κ := by
  have hh := h.2.2.2.2.1
  have hN := h.2.2.2.1.2.2.1
  have ⟨bo, bk⟩ := at_d h ho ho2
  refine Rel_i h (f_s_row (show 3 ≠ 8 by decide)) (f_s_row (show 5 ≠ 8 by decide)) (f_s_row (show 7 ≠ 8 by decide)) (f_s_row (show 9 ≠ 8 by decide)) (f_s_row (show 12 ≠ 8 by decide)) (f_s_row (show 13 ≠ 8 by decide)) (f_s_row (show 14 ≠ 8 by decide)) (f_s_row (show 15 ≠ 8 by decide)) (f_s_row (show 17 ≠ 8 by decide)) (f_s_row (show 26 ≠ 8 by decide)) (f_s_row (show 27 ≠ 8 by decide)) (congrFun (f_s_row (show 4 ≠ 8 by decide)) 0) (congrFun (f_s_row (show 4 ≠ 8 by decide)) 2) (by rw [f_s_ne (by omega)]; exact h.2.2.2.1.2.2.2.1) (fun k => f_s_ne (by (try unfold Wd); omega)) (fun k => f_s_ne (by (try unfold Wd); omega)) ?_ ?_ ?_ (fun i hi => ?_) (fun i k hi hk => ?_) (fun i hi h2 => ?_) (fun i hi h2 => ?_) (fun i e hi h2 he => ?_) (fun i hi h2 => ?_)
  · exact lk (by (try unfold Wd); omega) hh.1
  · exact lk (by (try unfold Wd); omega) hh.2.1
  · exact lk (by (try unfold Wd); omega) hh.2.2.1
  · exact ⟨f_s_ne (by unfold G_; (try unfold Wd); omega), f_s_ne (by unfold G_; (try unfold Wd); omega), f_s_ne (by unfold G_; (try unfold Wd); omega)⟩
  · exact lk (by unfold Wd; omega) ((h.2.2.2.2.2.1 i hi).2.2.1 k hk)
  · obtain ⟨b1, b2⟩ := at_d h hi h2
    obtain ⟨a1, a2, a3, a4, a5, a6, a7, a8, a9, a10⟩ := h.2.2.2.2.2.2.1 i hi h2
    have r := rr_dd h hi ho h2 ho2
    refine ⟨lk (by (try unfold Wd); omega) a4, by unfold f_s; split <;> assumption, f_s_ne (by (try unfold Wd); omega), lk (by (try unfold Wd); omega) a7, f_s_ne (by (try unfold Wd); omega), f_s_ne (by (try unfold Wd); omega), fun q k hq hk => lk (by (try unfold Wd); omega) (a10 q k hq hk)⟩
  · obtain ⟨b1, b2⟩ := at_t h hi h2
    obtain ⟨a1, a2, a3, a4⟩ := h.2.2.2.2.2.2.2.1 i hi h2
    have r := dj_td h hi ho h2 ho2
    refine ⟨f_s_ne (by (try unfold Wd); omega), fun e he => ?_⟩
    obtain ⟨c1, c2, c3, c4, c5⟩ := a4 e he
    exact ⟨f_s_ne (by (try unfold Wd); omega), f_s_ne (by (try unfold Wd); omega), lk (by (try unfold Wd); omega) c3⟩
  · have a3 := (h.2.2.2.1.2.2.2.2.2.1.2.1 i hi h2).2.2 e he
    simp only [q_rip, lv, bs, f_s_row (show 12 ≠ 8 by decide), f_s_row (show 13 ≠ 8 by decide), f_s_row (show 16 ≠ 8 by decide)]
    refine ⟨a3.2, fun h14 => ?_⟩
    rcases a3.1 with ⟨w, -⟩ | ⟨w, -⟩ | ⟨-, -, -, -, -, -, -, -, w⟩
    · rw [h14] at w; exact absurd w (by decide)
    · rw [h14] at w; exact absurd w (by decide)
    · exact w
  · obtain ⟨b1, b2⟩ := at_c h hi h2
    obtain ⟨a1, a2, a3, a4, a5, a6, a7, a8, a9, a10, a11⟩ := h.2.2.2.2.2.2.2.2 i hi h2
    have r := dj_dc h ho hi ho2 h2
    simp only [f_s_row (show 18 ≠ 8 by decide), f_s_row (show 20 ≠ 8 by decide), f_s_row (show 21 ≠ 8 by decide), f_s_row (show 22 ≠ 8 by decide), f_s_row (show 23 ≠ 8 by decide), f_s_row (show 24 ≠ 8 by decide), f_s_row (show 25 ≠ 8 by decide)]
    exact ⟨(fun (hne : _ ≠ _ ∨ _ ≠ _) (q : _) => (f_s_ne hne).trans q) (by (try unfold Wd); omega) a4, a5, fun k hk => lk (by (try unfold Wd); omega) (a6 k hk), (fun (hne : _ ≠ _ ∨ _ ≠ _) (q : _) => (f_s_ne hne).trans q) (by (try unfold Wd); omega) a7, a8, fun h3 => ⟨(fun (hne : _ ≠ _ ∨ _ ≠ _) (q : _) => (f_s_ne hne).trans q) (by (try unfold Wd); omega) (a9 h3).1, (a9 h3).2⟩, fun h3 => ⟨(fun (hne : _ ≠ _ ∨ _ ≠ _) (q : _) => (f_s_ne hne).trans q) (by (try unfold Wd); omega) (a10 h3).1, (fun (hne : _ ≠ _ ∨ _ ≠ _) (q : _) => (f_s_ne hne).trans q) (by (try unfold Wd); omega) (a10 h3).2.1, (fun (hne : _ ≠ _ ∨ _ ≠ _) (q : _) => (f_s_ne hne).trans q) (by (try unfold Wd); omega) (a10 h3).2.2.1, (a10 h3).2.2.2⟩, (fun (hne : _ ≠ _ ∨ _ ≠ _) (q : _) => (f_s_ne hne).trans q) (by (try unfold Wd); omega) a11⟩
theorem U_row (h : Rel n M f ρ τ κ) {o q w : Nat} (x : Int32) (ho : o < n) (ho2 : f 5 o = 2) (hq : q < 5) (hw : w < 8) : Rel n (mkU M (f_s (h_i M) (ρ o + 2 + q) w x)) (f_s f 11 (40 * o + 8 * q + w) x) ρ τ κ := by
  have hh := h.2.2.2.2.1
  have hN := h.2.2.2.1.2.2.1
  have ⟨bo, bk⟩ := at_d h ho ho2
  refine Rel_i h (f_s_row (show 3 ≠ 11 by decide)) (f_s_row (show 5 ≠ 11 by decide)) (f_s_row (show 7 ≠ 11 by decide)) (f_s_row (show 9 ≠ 11 by decide)) (f_s_row (show 12 ≠ 11 by decide)) (f_s_row (show 13 ≠ 11 by decide)) (f_s_row (show 14 ≠ 11 by decide)) (f_s_row (show 15 ≠ 11 by decide)) (f_s_row (show 17 ≠ 11 by decide)) (f_s_row (show 26 ≠ 11 by decide)) (f_s_row (show 27 ≠ 11 by decide)) (congrFun (f_s_row (show 4 ≠ 11 by decide)) 0) (congrFun (f_s_row (show 4 ≠ 11 by decide)) 2) (by rw [f_s_ne (by omega)]; exact h.2.2.2.1.2.2.2.1) (fun k => f_s_ne (by (try unfold Wd); omega)) (fun k => f_s_ne (by (try unfold Wd); omega)) ?_ ?_ ?_ (fun i hi => ?_) (fun i k hi hk => ?_) (fun i hi h2 => ?_) (fun i hi h2 => ?_) (fun i e hi h2 he => ?_) (fun i hi h2 => ?_)
  · exact lk (by (try unfold Wd); omega) hh.1
  · exact lk (by (try unfold Wd); omega) hh.2.1
  · exact lk (by (try unfold Wd); omega) hh.2.2.1
  · exact ⟨f_s_ne (by unfold G_; (try unfold Wd); omega), f_s_ne (by unfold G_; (try unfold Wd); omega), f_s_ne (by unfold G_; (try unfold Wd); omega)⟩
  · exact lk (by unfold Wd; omega) ((h.2.2.2.2.2.1 i hi).2.2.1 k hk)
  · obtain ⟨b1, b2⟩ := at_d h hi h2
    obtain ⟨a1, a2, a3, a4, a5, a6, a7, a8, a9, a10⟩ := h.2.2.2.2.2.2.1 i hi h2
    have r := rr_dd h hi ho h2 ho2
    refine ⟨lk (by (try unfold Wd); omega) a4, by rw [f_s_row (show 8 ≠ 11 by decide)]; exact a5, f_s_ne (by (try unfold Wd); omega), lk (by (try unfold Wd); omega) a7, f_s_ne (by (try unfold Wd); omega), f_s_ne (by (try unfold Wd); omega), fun q k hq hk => lk (by (try unfold Wd); omega) (a10 q k hq hk)⟩
  · obtain ⟨b1, b2⟩ := at_t h hi h2
    obtain ⟨a1, a2, a3, a4⟩ := h.2.2.2.2.2.2.2.1 i hi h2
    have r := dj_td h hi ho h2 ho2
    refine ⟨f_s_ne (by (try unfold Wd); omega), fun e he => ?_⟩
    obtain ⟨c1, c2, c3, c4, c5⟩ := a4 e he
    exact ⟨f_s_ne (by (try unfold Wd); omega), f_s_ne (by (try unfold Wd); omega), lk (by (try unfold Wd); omega) c3⟩
  · have a3 := (h.2.2.2.1.2.2.2.2.2.1.2.1 i hi h2).2.2 e he
    simp only [q_rip, lv, bs, f_s_row (show 12 ≠ 11 by decide), f_s_row (show 13 ≠ 11 by decide), f_s_row (show 16 ≠ 11 by decide)]
    refine ⟨a3.2, fun h14 => ?_⟩
    rcases a3.1 with ⟨w, -⟩ | ⟨w, -⟩ | ⟨-, -, -, -, -, -, -, -, w⟩
    · rw [h14] at w; exact absurd w (by decide)
    · rw [h14] at w; exact absurd w (by decide)
    · exact w
  · obtain ⟨b1, b2⟩ := at_c h hi h2
    obtain ⟨a1, a2, a3, a4, a5, a6, a7, a8, a9, a10, a11⟩ := h.2.2.2.2.2.2.2.2 i hi h2
    have r := dj_dc h ho hi ho2 h2
    simp only [f_s_row (show 18 ≠ 11 by decide), f_s_row (show 20 ≠ 11 by decide), f_s_row (show 21 ≠ 11 by decide), f_s_row (show 22 ≠ 11 by decide), f_s_row (show 23 ≠ 11 by decide), f_s_row (show 24 ≠ 11 by decide), f_s_row (show 25 ≠ 11 by decide)]
    exact ⟨(fun (hne : _ ≠ _ ∨ _ ≠ _) (q : _) => (f_s_ne hne).trans q) (by (try unfold Wd); omega) a4, a5, fun k hk => lk (by (try unfold Wd); omega) (a6 k hk), (fun (hne : _ ≠ _ ∨ _ ≠ _) (q : _) => (f_s_ne hne).trans q) (by (try unfold Wd); omega) a7, a8, fun h3 => ⟨(fun (hne : _ ≠ _ ∨ _ ≠ _) (q : _) => (f_s_ne hne).trans q) (by (try unfold Wd); omega) (a9 h3).1, (a9 h3).2⟩, fun h3 => ⟨(fun (hne : _ ≠ _ ∨ _ ≠ _) (q : _) => (f_s_ne hne).trans q) (by (try unfold Wd); omega) (a10 h3).1, (fun (hne : _ ≠ _ ∨ _ ≠ _) (q : _) => (f_s_ne hne).trans q) (by (try unfold Wd); omega) (a10 h3).2.1, (fun (hne : _ ≠ _ ∨ _ ≠ _) (q : _) => (f_s_ne hne).trans q) (by (try unfold Wd); omega) (a10 h3).2.2.1, (a10 h3).2.2.2⟩, (fun (hne : _ ≠ _ ∨ _ ≠ _) (q : _) => (f_s_ne hne).trans q) (by (try unfold Wd); omega) a11⟩
theorem U_reg (h : Rel n M f ρ τ κ) {o w : Nat} (x : Int32) (ho : o < n) (ho2 : f 5 o = 3) (hw : w < 8) : Rel n (mkU M (f_s (h_i M) (κ o + 1) w x)) (f_s f 19 (8 * o + w) x) ρ τ κ := by
  have hh := h.2.2.2.2.1
  have hN := h.2.2.2.1.2.2.1
  have ⟨bo, bk⟩ := at_c h ho ho2
  refine Rel_i h (f_s_row (show 3 ≠ 19 by decide)) (f_s_row (show 5 ≠ 19 by decide)) (f_s_row (show 7 ≠ 19 by decide)) (f_s_row (show 9 ≠ 19 by decide)) (f_s_row (show 12 ≠ 19 by decide)) (f_s_row (show 13 ≠ 19 by decide)) (f_s_row (show 14 ≠ 19 by decide)) (f_s_row (show 15 ≠ 19 by decide)) (f_s_row (show 17 ≠ 19 by decide)) (f_s_row (show 26 ≠ 19 by decide)) (f_s_row (show 27 ≠ 19 by decide)) (congrFun (f_s_row (show 4 ≠ 19 by decide)) 0) (congrFun (f_s_row (show 4 ≠ 19 by decide)) 2) (by rw [f_s_ne (by omega)]; exact h.2.2.2.1.2.2.2.1) (fun k => f_s_ne (by (try unfold Wd); omega)) (fun k => f_s_ne (by (try unfold Wd); omega)) ?_ ?_ ?_ (fun i hi => ?_) (fun i k hi hk => ?_) (fun i hi h2 => ?_) (fun i hi h2 => ?_) (fun i e hi h2 he => ?_) (fun i hi h2 => ?_)
  · exact lk (by (try unfold Wd); omega) hh.1
  · exact lk (by (try unfold Wd); omega) hh.2.1
  · exact lk (by (try unfold Wd); omega) hh.2.2.1
  · exact ⟨f_s_ne (by unfold G_; (try unfold Wd); omega), f_s_ne (by unfold G_; (try unfold Wd); omega), f_s_ne (by unfold G_; (try unfold Wd); omega)⟩
  · exact lk (by unfold Wd; omega) ((h.2.2.2.2.2.1 i hi).2.2.1 k hk)
  · obtain ⟨b1, b2⟩ := at_d h hi h2
    obtain ⟨a1, a2, a3, a4, a5, a6, a7, a8, a9, a10⟩ := h.2.2.2.2.2.2.1 i hi h2
    have r := dj_dc h hi ho h2 ho2
    refine ⟨lk (by (try unfold Wd); omega) a4, by rw [f_s_row (show 8 ≠ 19 by decide)]; exact a5, f_s_ne (by (try unfold Wd); omega), lk (by (try unfold Wd); omega) a7, f_s_ne (by (try unfold Wd); omega), f_s_ne (by (try unfold Wd); omega), fun q k hq hk => lk (by (try unfold Wd); omega) (a10 q k hq hk)⟩
  · obtain ⟨b1, b2⟩ := at_t h hi h2
    obtain ⟨a1, a2, a3, a4⟩ := h.2.2.2.2.2.2.2.1 i hi h2
    have r := dj_tc h hi ho h2 ho2
    refine ⟨f_s_ne (by (try unfold Wd); omega), fun e he => ?_⟩
    obtain ⟨c1, c2, c3, c4, c5⟩ := a4 e he
    exact ⟨f_s_ne (by (try unfold Wd); omega), f_s_ne (by (try unfold Wd); omega), lk (by (try unfold Wd); omega) c3⟩
  · have a3 := (h.2.2.2.1.2.2.2.2.2.1.2.1 i hi h2).2.2 e he
    simp only [q_rip, lv, bs, f_s_row (show 12 ≠ 19 by decide), f_s_row (show 13 ≠ 19 by decide), f_s_row (show 16 ≠ 19 by decide)]
    refine ⟨a3.2, fun h14 => ?_⟩
    rcases a3.1 with ⟨w, -⟩ | ⟨w, -⟩ | ⟨-, -, -, -, -, -, -, -, w⟩
    · rw [h14] at w; exact absurd w (by decide)
    · rw [h14] at w; exact absurd w (by decide)
    · exact w
  · obtain ⟨b1, b2⟩ := at_c h hi h2
    obtain ⟨a1, a2, a3, a4, a5, a6, a7, a8, a9, a10, a11⟩ := h.2.2.2.2.2.2.2.2 i hi h2
    have r := rr_cc h hi ho h2 ho2
    simp only [f_s_row (show 18 ≠ 19 by decide), f_s_row (show 20 ≠ 19 by decide), f_s_row (show 21 ≠ 19 by decide), f_s_row (show 22 ≠ 19 by decide), f_s_row (show 23 ≠ 19 by decide), f_s_row (show 24 ≠ 19 by decide), f_s_row (show 25 ≠ 19 by decide)]
    exact ⟨(fun (hne : _ ≠ _ ∨ _ ≠ _) (q : _) => (f_s_ne hne).trans q) (by (try unfold Wd); omega) a4, a5, fun k hk => lk (by (try unfold Wd); omega) (a6 k hk), (fun (hne : _ ≠ _ ∨ _ ≠ _) (q : _) => (f_s_ne hne).trans q) (by (try unfold Wd); omega) a7, a8, fun h3 => ⟨(fun (hne : _ ≠ _ ∨ _ ≠ _) (q : _) => (f_s_ne hne).trans q) (by (try unfold Wd); omega) (a9 h3).1, (a9 h3).2⟩, fun h3 => ⟨(fun (hne : _ ≠ _ ∨ _ ≠ _) (q : _) => (f_s_ne hne).trans q) (by (try unfold Wd); omega) (a10 h3).1, (fun (hne : _ ≠ _ ∨ _ ≠ _) (q : _) => (f_s_ne hne).trans q) (by (try unfold Wd); omega) (a10 h3).2.1, (fun (hne : _ ≠ _ ∨ _ ≠ _) (q : _) => (f_s_ne hne).trans q) (by (try unfold Wd); omega) (a10 h3).2.2.1, (a10 h3).2.2.2⟩, (fun (hne : _ ≠ _ ∨ _ ≠ _) (q : _) => (f_s_ne hne).trans q) (by (try unfold Wd); omega) a11⟩
end UP
