/-! changes of ranges of ints on both sides that keep the relation -/
theorem f_r_ne {f : Nat → Nat → Int32} {a lo hi b j : Nat} {w : Nat → Int32} (h : b ≠ a ∨ j < lo ∨ hi ≤ j) : f_r f a lo hi w b j = f b j := by unfold f_r; rw [if_neg (by omega)]
theorem f_r_in {f : Nat → Nat → Int32} {a lo hi j : Nat} {w : Nat → Int32} (h1 : lo ≤ j) (h2 : j < hi) : f_r f a lo hi w a j = w j := by unfold f_r; rw [if_pos ⟨rfl, h1, h2⟩]
theorem f_r_row {f : Nat → Nat → Int32} {a lo hi b : Nat} {w : Nat → Int32} (h : b ≠ a) : f_r f a lo hi w b = f b := by funext j; exact f_r_ne (Or.inl h)
theorem lkr {c f : Nat → Nat → Int32} {A lo hi B L H a k b j : Nat} {w w2 : Nat → Int32} (hi1 : (a = A ∧ lo ≤ k ∧ k < hi) ↔ (b = B ∧ L ≤ j ∧ j < H)) (hv : (a = A ∧ lo ≤ k ∧ k < hi) → (b = B ∧ L ≤ j ∧ j < H) → w k = w2 j) (h : c a k = f b j) : f_r c A lo hi w a k = f_r f B L H w2 b j := by
  unfold f_r
  by_cases e : a = A ∧ lo ≤ k ∧ k < hi
  · rw [if_pos e, if_pos (hi1.mp e)]; exact hv e (hi1.mp e)
  · rw [if_neg e, if_neg (fun q => e (hi1.mpr q))]; exact h
section UP
variable {n : Nat} {M : mM} {f : Nat → Nat → Int32} {ρ τ κ : Nat → Nat}
theorem U_words (h : Rel n M f ρ τ κ) {g lo hi : Nat} (hg : g < n) (hh0 : hi ≤ 32) (w w2 : Nat → Int32) (hv : ∀ k, lo ≤ k → k < hi → ∀ j, j = 32 * g + k → w k = w2 j) : Rel n (mkU M (f_r (h_i M) (Wd g) lo hi w)) (f_r f 6 (32 * g + lo) (32 * g + hi) w2) ρ τ κ := by
  have hh := h.2.2.2.2.1
  have hN := h.2.2.2.1.2.2.1
  refine Rel_i h (f_r_row (show 3 ≠ 6 by decide)) (f_r_row (show 5 ≠ 6 by decide)) (f_r_row (show 7 ≠ 6 by decide)) (f_r_row (show 9 ≠ 6 by decide)) (f_r_row (show 12 ≠ 6 by decide)) (f_r_row (show 13 ≠ 6 by decide)) (f_r_row (show 14 ≠ 6 by decide)) (f_r_row (show 15 ≠ 6 by decide)) (f_r_row (show 17 ≠ 6 by decide)) (f_r_row (show 26 ≠ 6 by decide)) (f_r_row (show 27 ≠ 6 by decide)) (congrFun (f_r_row (show 4 ≠ 6 by decide)) 0) (congrFun (f_r_row (show 4 ≠ 6 by decide)) 2) (by rw [f_r_ne (by omega)]; exact h.2.2.2.1.2.2.2.1) (fun k => f_r_ne (by (try unfold Wd); omega)) (fun k => f_r_ne (by (try unfold Wd); omega)) ?_ ?_ ?_ (fun i hi => ?_) (fun i k hi hk => ?_) (fun i hi h2 => ?_) (fun i hi h2 => ?_) (fun i e hi h2 he => ?_) (fun i hi h2 => ?_)
  · exact lkr (by (try unfold Wd); omega) (fun h1 h2 => by (try unfold Wd at h1); first | (exfalso; omega) | (exact hv _ h1.2.1 h1.2.2 _ (by omega))) hh.1
  · exact lkr (by (try unfold Wd); omega) (fun h1 h2 => by (try unfold Wd at h1); first | (exfalso; omega) | (exact hv _ h1.2.1 h1.2.2 _ (by omega))) hh.2.1
  · exact lkr (by (try unfold Wd); omega) (fun h1 h2 => by (try unfold Wd at h1); first | (exfalso; omega) | (exact hv _ h1.2.1 h1.2.2 _ (by omega))) hh.2.2.1
  · exact ⟨f_r_ne (by unfold G_; (try unfold Wd); omega), f_r_ne (by unfold G_; (try unfold Wd); omega), f_r_ne (by unfold G_; (try unfold Wd); omega)⟩
  · exact lkr (by unfold Wd; omega) (fun h1 h2 => by (try unfold Wd at h1); first | (exfalso; omega) | (exact hv _ h1.2.1 h1.2.2 _ (by omega))) ((h.2.2.2.2.2.1 i hi).2.2.1 k hk)
  · obtain ⟨b1, b2⟩ := at_d h hi h2
    obtain ⟨a1, a2, a3, a4, a5, a6, a7, a8, a9, a10⟩ := h.2.2.2.2.2.2.1 i hi h2
    refine ⟨lkr (by (try unfold Wd); omega) (fun h1 h2 => by (try unfold Wd at h1); first | (exfalso; omega) | (exact hv _ h1.2.1 h1.2.2 _ (by omega))) a4, by rw [f_r_row (show 8 ≠ 6 by decide)]; exact a5, f_r_ne (by (try unfold Wd); omega), lkr (by (try unfold Wd); omega) (fun h1 h2 => by (try unfold Wd at h1); first | (exfalso; omega) | (exact hv _ h1.2.1 h1.2.2 _ (by omega))) a7, f_r_ne (by (try unfold Wd); omega), f_r_ne (by (try unfold Wd); omega), fun q k hq hk => lkr (by (try unfold Wd); omega) (fun h1 h2 => by (try unfold Wd at h1); first | (exfalso; omega) | (exact hv _ h1.2.1 h1.2.2 _ (by omega))) (a10 q k hq hk)⟩
  · obtain ⟨b1, b2⟩ := at_t h hi h2
    obtain ⟨a1, a2, a3, a4⟩ := h.2.2.2.2.2.2.2.1 i hi h2
    refine ⟨f_r_ne (by (try unfold Wd); omega), fun e he => ?_⟩
    obtain ⟨c1, c2, c3, c4, c5⟩ := a4 e he
    exact ⟨f_r_ne (by (try unfold Wd); omega), f_r_ne (by (try unfold Wd); omega), lkr (by (try unfold Wd); omega) (fun h1 h2 => by (try unfold Wd at h1); first | (exfalso; omega) | (exact hv _ h1.2.1 h1.2.2 _ (by omega))) c3⟩
  · have a3 := (h.2.2.2.1.2.2.2.2.2.1.2.1 i hi h2).2.2 e he
    simp only [q_rip, lv, bs, f_r_row (show 12 ≠ 6 by decide), f_r_row (show 13 ≠ 6 by decide), f_r_row (show 16 ≠ 6 by decide)]
    refine ⟨a3.2, fun h14 => ?_⟩
    rcases a3.1 with ⟨w, -⟩ | ⟨w, -⟩ | ⟨-, -, -, -, -, -, -, -, w⟩
    · rw [h14] at w; exact absurd w (by decide)
    · rw [h14] at w; exact absurd w (by decide)
    · exact w
  · obtain ⟨b1, b2⟩ := at_c h hi h2
    obtain ⟨a1, a2, a3, a4, a5, a6, a7, a8, a9, a10, a11⟩ := h.2.2.2.2.2.2.2.2 i hi h2
    simp only [f_r_row (show 18 ≠ 6 by decide), f_r_row (show 20 ≠ 6 by decide), f_r_row (show 21 ≠ 6 by decide), f_r_row (show 22 ≠ 6 by decide), f_r_row (show 23 ≠ 6 by decide), f_r_row (show 24 ≠ 6 by decide), f_r_row (show 25 ≠ 6 by decide)]
    exact ⟨(fun (hne : _ ≠ _ ∨ _ < _ ∨ _ ≤ _) (q : _) => (f_r_ne hne).trans q) (by (try unfold Wd); omega) a4, a5, fun k hk => lkr (by (try unfold Wd); omega) (fun h1 h2 => by (try unfold Wd at h1); first | (exfalso; omega) | (exact hv _ h1.2.1 h1.2.2 _ (by omega))) (a6 k hk), (fun (hne : _ ≠ _ ∨ _ < _ ∨ _ ≤ _) (q : _) => (f_r_ne hne).trans q) (by (try unfold Wd); omega) a7, a8, fun h3 => ⟨(fun (hne : _ ≠ _ ∨ _ < _ ∨ _ ≤ _) (q : _) => (f_r_ne hne).trans q) (by (try unfold Wd); omega) (a9 h3).1, (a9 h3).2⟩, fun h3 => ⟨(fun (hne : _ ≠ _ ∨ _ < _ ∨ _ ≤ _) (q : _) => (f_r_ne hne).trans q) (by (try unfold Wd); omega) (a10 h3).1, (fun (hne : _ ≠ _ ∨ _ < _ ∨ _ ≤ _) (q : _) => (f_r_ne hne).trans q) (by (try unfold Wd); omega) (a10 h3).2.1, (fun (hne : _ ≠ _ ∨ _ < _ ∨ _ ≤ _) (q : _) => (f_r_ne hne).trans q) (by (try unfold Wd); omega) (a10 h3).2.2.1, (a10 h3).2.2.2⟩, (fun (hne : _ ≠ _ ∨ _ < _ ∨ _ ≤ _) (q : _) => (f_r_ne hne).trans q) (by (try unfold Wd); omega) a11⟩
theorem U_regs (h : Rel n M f ρ τ κ) {o lo hi : Nat} (ho : o < n) (ho2 : f 5 o = 3) (hh0 : hi ≤ 8) (w w2 : Nat → Int32) (hv : ∀ k, lo ≤ k → k < hi → ∀ j, j = 8 * o + k → w k = w2 j) : Rel n (mkU M (f_r (h_i M) (κ o + 1) lo hi w)) (f_r f 19 (8 * o + lo) (8 * o + hi) w2) ρ τ κ := by
  have hh := h.2.2.2.2.1
  have hN := h.2.2.2.1.2.2.1
  have ⟨bo, bk⟩ := at_c h ho ho2
  refine Rel_i h (f_r_row (show 3 ≠ 19 by decide)) (f_r_row (show 5 ≠ 19 by decide)) (f_r_row (show 7 ≠ 19 by decide)) (f_r_row (show 9 ≠ 19 by decide)) (f_r_row (show 12 ≠ 19 by decide)) (f_r_row (show 13 ≠ 19 by decide)) (f_r_row (show 14 ≠ 19 by decide)) (f_r_row (show 15 ≠ 19 by decide)) (f_r_row (show 17 ≠ 19 by decide)) (f_r_row (show 26 ≠ 19 by decide)) (f_r_row (show 27 ≠ 19 by decide)) (congrFun (f_r_row (show 4 ≠ 19 by decide)) 0) (congrFun (f_r_row (show 4 ≠ 19 by decide)) 2) (by rw [f_r_ne (by omega)]; exact h.2.2.2.1.2.2.2.1) (fun k => f_r_ne (by (try unfold Wd); omega)) (fun k => f_r_ne (by (try unfold Wd); omega)) ?_ ?_ ?_ (fun i hi => ?_) (fun i k hi hk => ?_) (fun i hi h2 => ?_) (fun i hi h2 => ?_) (fun i e hi h2 he => ?_) (fun i hi h2 => ?_)
  · exact lkr (by (try unfold Wd); omega) (fun h1 h2 => by (try unfold Wd at h1); first | (exfalso; omega) | (exact hv _ h1.2.1 h1.2.2 _ (by omega))) hh.1
  · exact lkr (by (try unfold Wd); omega) (fun h1 h2 => by (try unfold Wd at h1); first | (exfalso; omega) | (exact hv _ h1.2.1 h1.2.2 _ (by omega))) hh.2.1
  · exact lkr (by (try unfold Wd); omega) (fun h1 h2 => by (try unfold Wd at h1); first | (exfalso; omega) | (exact hv _ h1.2.1 h1.2.2 _ (by omega))) hh.2.2.1
  · exact ⟨f_r_ne (by unfold G_; (try unfold Wd); omega), f_r_ne (by unfold G_; (try unfold Wd); omega), f_r_ne (by unfold G_; (try unfold Wd); omega)⟩
  · exact lkr (by unfold Wd; omega) (fun h1 h2 => by (try unfold Wd at h1); first | (exfalso; omega) | (exact hv _ h1.2.1 h1.2.2 _ (by omega))) ((h.2.2.2.2.2.1 i hi).2.2.1 k hk)
  · obtain ⟨b1, b2⟩ := at_d h hi h2
    obtain ⟨a1, a2, a3, a4, a5, a6, a7, a8, a9, a10⟩ := h.2.2.2.2.2.2.1 i hi h2
    have r := dj_dc h hi ho h2 ho2
    refine ⟨lkr (by (try unfold Wd); omega) (fun h1 h2 => by (try unfold Wd at h1); first | (exfalso; omega) | (exact hv _ h1.2.1 h1.2.2 _ (by omega))) a4, by rw [f_r_row (show 8 ≠ 19 by decide)]; exact a5, f_r_ne (by (try unfold Wd); omega), lkr (by (try unfold Wd); omega) (fun h1 h2 => by (try unfold Wd at h1); first | (exfalso; omega) | (exact hv _ h1.2.1 h1.2.2 _ (by omega))) a7, f_r_ne (by (try unfold Wd); omega), f_r_ne (by (try unfold Wd); omega), fun q k hq hk => lkr (by (try unfold Wd); omega) (fun h1 h2 => by (try unfold Wd at h1); first | (exfalso; omega) | (exact hv _ h1.2.1 h1.2.2 _ (by omega))) (a10 q k hq hk)⟩
  · obtain ⟨b1, b2⟩ := at_t h hi h2
    obtain ⟨a1, a2, a3, a4⟩ := h.2.2.2.2.2.2.2.1 i hi h2
    have r := dj_tc h hi ho h2 ho2
    refine ⟨f_r_ne (by (try unfold Wd); omega), fun e he => ?_⟩
    obtain ⟨c1, c2, c3, c4, c5⟩ := a4 e he
    exact ⟨f_r_ne (by (try unfold Wd); omega), f_r_ne (by (try unfold Wd); omega), lkr (by (try unfold Wd); omega) (fun h1 h2 => by (try unfold Wd at h1); first | (exfalso; omega) | (exact hv _ h1.2.1 h1.2.2 _ (by omega))) c3⟩
  · have a3 := (h.2.2.2.1.2.2.2.2.2.1.2.1 i hi h2).2.2 e he
    simp only [q_rip, lv, bs, f_r_row (show 12 ≠ 19 by decide), f_r_row (show 13 ≠ 19 by decide), f_r_row (show 16 ≠ 19 by decide)]
    refine ⟨a3.2, fun h14 => ?_⟩
    rcases a3.1 with ⟨w, -⟩ | ⟨w, -⟩ | ⟨-, -, -, -, -, -, -, -, w⟩
    · rw [h14] at w; exact absurd w (by decide)
    · rw [h14] at w; exact absurd w (by decide)
    · exact w
  · obtain ⟨b1, b2⟩ := at_c h hi h2
    obtain ⟨a1, a2, a3, a4, a5, a6, a7, a8, a9, a10, a11⟩ := h.2.2.2.2.2.2.2.2 i hi h2
    have r := rr_cc h hi ho h2 ho2
    simp only [f_r_row (show 18 ≠ 19 by decide), f_r_row (show 20 ≠ 19 by decide), f_r_row (show 21 ≠ 19 by decide), f_r_row (show 22 ≠ 19 by decide), f_r_row (show 23 ≠ 19 by decide), f_r_row (show 24 ≠ 19 by decide), f_r_row (show 25 ≠ 19 by decide)]
    exact ⟨(fun (hne : _ ≠ _ ∨ _ < _ ∨ _ ≤ _) (q : _) => (f_r_ne hne).trans q) (by (try unfold Wd); omega) a4, a5, fun k hk => lkr (by (try unfold Wd); omega) (fun h1 h2 => by (try unfold Wd at h1); first | (exfalso; omega) | (exact hv _ h1.2.1 h1.2.2 _ (by omega))) (a6 k hk), (fun (hne : _ ≠ _ ∨ _ < _ ∨ _ ≤ _) (q : _) => (f_r_ne hne).trans q) (by (try unfold Wd); omega) a7, a8, fun h3 => ⟨(fun (hne : _ ≠ _ ∨ _ < _ ∨ _ ≤ _) (q : _) => (f_r_ne hne).trans q) (by (try unfold Wd); omega) (a9 h3).1, (a9 h3).2⟩, fun h3 => ⟨(fun (hne : _ ≠ _ ∨ _ < _ ∨ _ ≤ _) (q : _) => (f_r_ne hne).trans q) (by (try unfold Wd); omega) (a10 h3).1, (fun (hne : _ ≠ _ ∨ _ < _ ∨ _ ≤ _) (q : _) => (f_r_ne hne).trans q) (by (try unfold Wd); omega) (a10 h3).2.1, (fun (hne : _ ≠ _ ∨ _ < _ ∨ _ ≤ _) (q : _) => (f_r_ne hne).trans q) (by (try unfold Wd); omega) (a10 h3).2.2.1, (a10 h3).2.2.2⟩, (fun (hne : _ ≠ _ ∨ _ < _ ∨ _ ≤ _) (q : _) => (f_r_ne hne).trans q) (by (try unfold Wd); omega) a11⟩
theorem U_rows (h : Rel n M f ρ τ κ) {o q lo hi : Nat} (ho : o < n) (ho2 : f 5 o = 2) (hq : q < 5) (hh0 : hi ≤ 8) (w w2 : Nat → Int32) (hv : ∀ k, lo ≤ k → k < hi → ∀ j, j = 40 * o + 8 * q + k → w k = w2 j) : Rel n (mkU M (f_r (h_i M) (ρ o + 2 + q) lo hi w)) (f_r f 11 (40 * o + 8 * q + lo) (40 * o + 8 * q + hi) w2) ρ τ κ := by
  have hh := h.2.2.2.2.1
  have hN := h.2.2.2.1.2.2.1
  have ⟨bo, bk⟩ := at_d h ho ho2
  refine Rel_i h (f_r_row (show 3 ≠ 11 by decide)) (f_r_row (show 5 ≠ 11 by decide)) (f_r_row (show 7 ≠ 11 by decide)) (f_r_row (show 9 ≠ 11 by decide)) (f_r_row (show 12 ≠ 11 by decide)) (f_r_row (show 13 ≠ 11 by decide)) (f_r_row (show 14 ≠ 11 by decide)) (f_r_row (show 15 ≠ 11 by decide)) (f_r_row (show 17 ≠ 11 by decide)) (f_r_row (show 26 ≠ 11 by decide)) (f_r_row (show 27 ≠ 11 by decide)) (congrFun (f_r_row (show 4 ≠ 11 by decide)) 0) (congrFun (f_r_row (show 4 ≠ 11 by decide)) 2) (by rw [f_r_ne (by omega)]; exact h.2.2.2.1.2.2.2.1) (fun k => f_r_ne (by (try unfold Wd); omega)) (fun k => f_r_ne (by (try unfold Wd); omega)) ?_ ?_ ?_ (fun i hi => ?_) (fun i k hi hk => ?_) (fun i hi h2 => ?_) (fun i hi h2 => ?_) (fun i e hi h2 he => ?_) (fun i hi h2 => ?_)
  · exact lkr (by (try unfold Wd); omega) (fun h1 h2 => by (try unfold Wd at h1); first | (exfalso; omega) | (exact hv _ h1.2.1 h1.2.2 _ (by omega))) hh.1
  · exact lkr (by (try unfold Wd); omega) (fun h1 h2 => by (try unfold Wd at h1); first | (exfalso; omega) | (exact hv _ h1.2.1 h1.2.2 _ (by omega))) hh.2.1
  · exact lkr (by (try unfold Wd); omega) (fun h1 h2 => by (try unfold Wd at h1); first | (exfalso; omega) | (exact hv _ h1.2.1 h1.2.2 _ (by omega))) hh.2.2.1
  · exact ⟨f_r_ne (by unfold G_; (try unfold Wd); omega), f_r_ne (by unfold G_; (try unfold Wd); omega), f_r_ne (by unfold G_; (try unfold Wd); omega)⟩
  · exact lkr (by unfold Wd; omega) (fun h1 h2 => by (try unfold Wd at h1); first | (exfalso; omega) | (exact hv _ h1.2.1 h1.2.2 _ (by omega))) ((h.2.2.2.2.2.1 i hi).2.2.1 k hk)
  · obtain ⟨b1, b2⟩ := at_d h hi h2
    obtain ⟨a1, a2, a3, a4, a5, a6, a7, a8, a9, a10⟩ := h.2.2.2.2.2.2.1 i hi h2
    have r := rr_dd h hi ho h2 ho2
    refine ⟨lkr (by (try unfold Wd); omega) (fun h1 h2 => by (try unfold Wd at h1); first | (exfalso; omega) | (exact hv _ h1.2.1 h1.2.2 _ (by omega))) a4, by rw [f_r_row (show 8 ≠ 11 by decide)]; exact a5, f_r_ne (by (try unfold Wd); omega), lkr (by (try unfold Wd); omega) (fun h1 h2 => by (try unfold Wd at h1); first | (exfalso; omega) | (exact hv _ h1.2.1 h1.2.2 _ (by omega))) a7, f_r_ne (by (try unfold Wd); omega), f_r_ne (by (try unfold Wd); omega), fun q k hq hk => lkr (by (try unfold Wd); omega) (fun h1 h2 => by (try unfold Wd at h1); first | (exfalso; omega) | (exact hv _ h1.2.1 h1.2.2 _ (by omega))) (a10 q k hq hk)⟩
  · obtain ⟨b1, b2⟩ := at_t h hi h2
    obtain ⟨a1, a2, a3, a4⟩ := h.2.2.2.2.2.2.2.1 i hi h2
    have r := dj_td h hi ho h2 ho2
    refine ⟨f_r_ne (by (try unfold Wd); omega), fun e he => ?_⟩
    obtain ⟨c1, c2, c3, c4, c5⟩ := a4 e he
    exact ⟨f_r_ne (by (try unfold Wd); omega), f_r_ne (by (try unfold Wd); omega), lkr (by (try unfold Wd); omega) (fun h1 h2 => by (try unfold Wd at h1); first | (exfalso; omega) | (exact hv _ h1.2.1 h1.2.2 _ (by omega))) c3⟩
  · have a3 := (h.2.2.2.1.2.2.2.2.2.1.2.1 i hi h2).2.2 e he
    simp only [q_rip, lv, bs, f_r_row (show 12 ≠ 11 by decide), f_r_row (show 13 ≠ 11 by decide), f_r_row (show 16 ≠ 11 by decide)]
    refine ⟨a3.2, fun h14 => ?_⟩
    rcases a3.1 with ⟨w, -⟩ | ⟨w, -⟩ | ⟨-, -, -, -, -, -, -, -, w⟩
    · rw [h14] at w; exact absurd w (by decide)
    · rw [h14] at w; exact absurd w (by decide)
    · exact w
  · obtain ⟨b1, b2⟩ := at_c h hi h2
    obtain ⟨a1, a2, a3, a4, a5, a6, a7, a8, a9, a10, a11⟩ := h.2.2.2.2.2.2.2.2 i hi h2
    have r := dj_dc h ho hi ho2 h2
    simp only [f_r_row (show 18 ≠ 11 by decide), f_r_row (show 20 ≠ 11 by decide), f_r_row (show 21 ≠ 11 by decide), f_r_row (show 22 ≠ 11 by decide), f_r_row (show 23 ≠ 11 by decide), f_r_row (show 24 ≠ 11 by decide), f_r_row (show 25 ≠ 11 by decide)]
    exact ⟨(fun (hne : _ ≠ _ ∨ _ < _ ∨ _ ≤ _) (q : _) => (f_r_ne hne).trans q) (by (try unfold Wd); omega) a4, a5, fun k hk => lkr (by (try unfold Wd); omega) (fun h1 h2 => by (try unfold Wd at h1); first | (exfalso; omega) | (exact hv _ h1.2.1 h1.2.2 _ (by omega))) (a6 k hk), (fun (hne : _ ≠ _ ∨ _ < _ ∨ _ ≤ _) (q : _) => (f_r_ne hne).trans q) (by (try unfold Wd); omega) a7, a8, fun h3 => ⟨(fun (hne : _ ≠ _ ∨ _ < _ ∨ _ ≤ _) (q : _) => (f_r_ne hne).trans q) (by (try unfold Wd); omega) (a9 h3).1, (a9 h3).2⟩, fun h3 => ⟨(fun (hne : _ ≠ _ ∨ _ < _ ∨ _ ≤ _) (q : _) => (f_r_ne hne).trans q) (by (try unfold Wd); omega) (a10 h3).1, (fun (hne : _ ≠ _ ∨ _ < _ ∨ _ ≤ _) (q : _) => (f_r_ne hne).trans q) (by (try unfold Wd); omega) (a10 h3).2.1, (fun (hne : _ ≠ _ ∨ _ < _ ∨ _ ≤ _) (q : _) => (f_r_ne hne).trans q) (by (try unfold Wd); omega) (a10 h3).2.2.1, (a10 h3).2.2.2⟩, (fun (hne : _ ≠ _ ∨ _ < _ ∨ _ ≤ _) (q : _) => (f_r_ne hne).trans q) (by (try unfold Wd); omega) a11⟩
end UP
