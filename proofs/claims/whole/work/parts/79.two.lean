/-! a realm comes and goes -/
section E
variable {n : Nat} {M M' : mM} {f f' : Nat → Nat → Int32} {ρ τ κ : Nat → Nat}
theorem q_two (hq : q_ref n f) {a b : Nat} (k0 : f' 4 0 = f 4 0) (k31 : f' 4 31 = 0) (r3 : f' 3 = f 3) (hK : ∀ i, i < n → i ≠ a ∧ i ≠ b → f' 5 i = f 5 i ∧ f' 7 i = f 7 i ∧ f' 9 i = f 9 i ∧ f' 12 i = f 12 i ∧ f' 13 i = f 13 i ∧ f' 27 i = f 27 i) (hE : ∀ i e, i < n → i ≠ a ∧ i ≠ b → e < 8 → f' 14 (8 * i + e) = f 14 (8 * i + e) ∧ f' 15 (8 * i + e) = f 15 (8 * i + e) ∧ f' 16 (8 * i + e) = f 16 (8 * i + e))
    (hto : ∀ i, i < n → i ≠ a ∧ i ≠ b → f 5 i = 3 ∨ f 5 i = 4 ∨ f 5 i = 5 → ow f i ≠ a ∧ ow f i ≠ b)
    (htg : ∀ p e, p < n → e < 8 → f 5 p = 4 → p ≠ a ∧ p ≠ b → (f 14 (8 * p + e) = 2 ∨ (f 14 (8 * p + e) = 1 ∧ bs f p + e < 2048)) → tg f (8 * p + e) ≠ a ∧ tg f (8 * p + e) ≠ b)
    (hfr : ∀ p e, p < n → e < 8 → f 5 p = 4 → (f 14 (8 * p + e) = 2 ∨ (f 14 (8 * p + e) = 1 ∧ bs f p + e < 2048)) → p ≠ a ∧ p ≠ b)
    (hrt : ∀ o t, o < n → o ≠ a ∧ o ≠ b → f 5 o = 2 → t < n → f 5 t = 4 → f 7 t = nI o → t ≠ a ∧ t ≠ b)
    (hnew : ∀ x, x = a ∨ x = b → (f' 5 x = 4 → q_tab n f' x) ∧ (f' 5 x = 2 → q_root n f' x ∧ f' 7 x = nI x) ∧ ¬ f' 5 x = 5 ∧ ¬ f' 5 x = 3) : q_ref n f' := by
  obtain ⟨q1, q2, q3, q4, q5, q6, q7, q8, q9⟩ := hq
  have hE' : ∀ i e, i < n → i ≠ a ∧ i ≠ b → e < 8 → ¬ (i = n ∧ e = 0) → f' 14 (8 * i + e) = f 14 (8 * i + e) ∧ f' 15 (8 * i + e) = f 15 (8 * i + e) ∧ f' 16 (8 * i + e) = f 16 (8 * i + e) := fun i e hi hk he _ => hE i e hi hk he
  have dec : ∀ x, (x = a ∨ x = b) ∨ (x ≠ a ∧ x ≠ b) := fun x => by omega
  refine ⟨by rw [k0]; exact q1, q2, q3, k31, by rw [r3]; exact q5, ⟨q6.1, fun p hp p4 => ?_, fun o ho o2 => ?_⟩, fun i hi i5 => ?_, fun i hi i3 => ?_, fun i hi i2 => ?_⟩
  · rcases dec p with q | q
    · exact (hnew p q).1 p4
    · have p4' : f 5 p = 4 := by rw [← (hK p hp q).1]; exact p4
      have x := q_keep (fun i => i ≠ a ∧ i ≠ b) n 0 q6 hK hE' hp p4' q (hto p hp q (by simp [p4'])) (fun p' e h1 h2 h3 h4 h5 => ⟨hfr p' e h1 h2 h3 (Or.inl h4), by omega⟩) (fun e he _ h1 h2 => by
        rcases ((q6.2.1 p hp p4').2.2 e he).1 with ⟨w, -⟩ | ⟨w, -⟩ | ⟨w, -⟩
        · exact absurd w h1
        · exact htg p e hp he p4' q (h2.elim Or.inl (fun b => Or.inr ⟨w, b⟩))
        · exact htg p e hp he p4' q (Or.inl w))
      exact ⟨x.1, x.2.1, fun e he => x.2.2 e he (by omega)⟩
  · rcases dec o with q | q
    · exact ((hnew o q).2.1 o2).1
    · have o2' : f 5 o = 2 := by rw [← (hK o ho q).1]; exact o2
      exact q_rootk (fun i => i ≠ a ∧ i ≠ b) hK ho q (fun t ht _ t4 t7 => hrt o t ho q o2' ht t4 t7) (q6.2.2 o ho o2')
  · rcases dec i with q | q
    · exact absurd i5 (hnew i q).2.2.1
    · have i5' : f 5 i = 5 := by rw [← (hK i hi q).1]; exact i5
      exact q_datak (fun i => i ≠ a ∧ i ≠ b) n 0 hK hE' hi q (hto i hi q (by simp [i5'])) (fun p e h1 h2 h3 h4 h5 h6 => ⟨hfr p e h1 h2 h3 (Or.inr ⟨h4, h6⟩), by omega⟩) (q7 i hi i5')
  · rcases dec i with q | q
    · exact absurd i3 (hnew i q).2.2.2
    · have i3' : f 5 i = 3 := by rw [← (hK i hi q).1]; exact i3
      exact q_ownk (fun i => i ≠ a ∧ i ≠ b) hK hi q (hto i hi q (by simp [i3'])) (q8 i hi i3')
  · rcases dec i with q | q
    · exact ((hnew i q).2.1 i2).2
    · rw [(hK i hi q).2.1]
      exact q9 i hi (by rw [← (hK i hi q).1]; exact i2)
/-- a root that is bare is the realm's only table -/
theorem q_bare (hT : q_tree n f) {o t : Nat} (ho : o < n) (ht : t < n) (t9 : f 9 o = nI t) (hb : ∀ e, e < 8 → f 14 (8 * t + e) = 0) : ∀ (k g : Nat), g < n → f 5 g = 4 → f 7 g = nI o → lv f g = k → g = t := by
  have hN := hT.1
  intro k
  induction k with
  | zero =>
    intro g hg g4 g7 hl
    have a := (hT.2.1 g hg g4).2.1.2.2.1 hl
    have e : ow f g = o := by unfold ow; rw [g7]; exact i_c (by omega)
    rw [e, t9] at a
    exact (nI_inj (by omega) (by omega) a).symm
  | succ k ih =>
    intro g hg g4 g7 hl
    obtain ⟨p, e, p1, p2, p3, p4, p5, p6, -⟩ := (hT.2.1 g hg g4).2.1.2.2.2 (by omega)
    have := ih p p1 p3 (by rw [p4, g7]) (by omega)
    rw [this, hb e p2] at p6
    exact absurd p6 (by decide)
theorem cn_zero {w : Int32} {i : Nat} (h : ∀ j, j < n → ¬ (f 5 j = w ∧ f 7 j = nI i)) : cn n f w i = 0 := by
  unfold cn
  have : ∀ (d g : Nat), g + d ≤ n → cnt (fun g => decide (f 5 g = w ∧ f 7 g = nI i)) g d = 0 := by
    intro d
    induction d with
    | zero => intro g _; rfl
    | succ d ih =>
      intro g hg
      rw [cnt, ih (g + 1) (by omega), decide_eq_false (h g (by omega))]
      rfl
  exact this n 0 (by omega)
theorem cn_pos {w : Int32} {i j : Nat} (hj : j < n) (h : f 5 j = w ∧ f 7 j = nI i) : 0 < cn n f w i := by
  unfold cn
  have : ∀ (d g : Nat), g ≤ j → j < g + d → 0 < cnt (fun g => decide (f 5 g = w ∧ f 7 g = nI i)) g d := by
    intro d
    induction d with
    | zero => intro g _ _; omega
    | succ d ih =>
      intro g h1 h2
      rw [cnt]
      by_cases q : g = j
      · subst q; rw [decide_eq_true h]; simp; omega
      · have := ih (g + 1) (by omega) (by omega); omega
  exact this n 0 (Nat.zero_le _) (by omega)
/-- a realm goes -/
theorem W_destroy (h : Rel n M f ρ τ κ) {o t : Nat} (ho : o < n) (o2 : f 5 o = 2) (ht : t < n) (t4 : f 5 t = 4) (t7 : f 7 t = nI o) (t9 : f 9 o = nI t) (hb : ∀ e, e < 8 → f 14 (8 * t + e) = 0) (hr : cn n f 3 o = 0) : Rel n (bcm (bcm M t 1 0 (-1)) o 1 0 (-1)) (f_b (f_b f t 1 (-1)) o 1 (-1)) ρ τ κ := by
  have hN := h.2.2.2.1.2.2.1
  have hT := h.2.2.2.1.2.2.2.2.2.1
  have hq0 := h.2.2.2.1
  have ot : o ≠ t := fun q => by rw [q, t4] at o2; exact absurd o2 (by decide)
  have lt0 : lv f t = 0 := by
    obtain ⟨t', u1, u2, u3, u4, u5⟩ := hT.2.2 o ho o2
    rw [t9] at u2
    rw [nI_inj (by omega) (by omega) u2]; exact u5
  have only := fun g hg g4 g7 => q_bare hT ho ht t9 hb (lv f g) g hg g4 g7 rfl
  have no3 : ∀ j, j < n → f 5 j = 3 → ¬ f 7 j = nI o := fun j hj a b => by have := cn_pos hj ⟨a, b⟩; omega
  have no5 : ∀ j, j < n → f 5 j = 5 → ¬ f 7 j = nI o := fun j hj a b => by
    obtain ⟨p, e, p1, p2, p3, p4, p5, p6, -⟩ := (hq0.2.2.2.2.2.2.1 j hj a).2
    have := only p p1 p3 (by rw [p4, b])
    rw [this, lt0] at p5
    exact absurd p5 (by decide)
  have ownn : ∀ i, i < n → (f 5 i = 3 ∨ f 5 i = 4 ∨ f 5 i = 5) → q_own n f i := fun i hi a => by
    rcases a with a | a | a
    · exact hq0.2.2.2.2.2.2.2.1 i hi a
    · exact (hT.2.1 i hi a).1
    · exact (hq0.2.2.2.2.2.2.1 i hi a).1
  have n5 : ∀ i, i ≠ o → i ≠ t → ∀ b, b ≠ 6 → f_b (f_b f t 1 (-1)) o 1 (-1) b i = f b i := fun i h1 h2 b hb => by rw [fbn (by omega) (by omega) (by omega), fbn (by omega) (by omega) (by omega)]
  have nr : ∀ b, b ≠ 5 → b ≠ 6 → b ≠ 7 → f_b (f_b f t 1 (-1)) o 1 (-1) b = f b := fun b h1 h2 h3 => by rw [fbr h1 h2 h3, fbr h1 h2 h3]
  have F5o : f_b (f_b f t 1 (-1)) o 1 (-1) 5 o = 1 := fb5
  have F5t : f_b (f_b f t 1 (-1)) o 1 (-1) 5 t = 1 := by rw [fbn (by omega) (by omega) (by omega), fb5]
  have F6 : ∀ i k, i = o ∨ i = t → k < 32 → f_b (f_b f t 1 (-1)) o 1 (-1) 6 (32 * i + k) = 0 := fun i k hi hk => by
    rcases hi with rfl | rfl
    · exact fb6 hk
    · rw [fbn (by omega) (by omega) (by omega), fb6 hk]
  have F6n : ∀ i k, i ≠ o → i ≠ t → k < 32 → f_b (f_b f t 1 (-1)) o 1 (-1) 6 (32 * i + k) = f 6 (32 * i + k) := fun i k h1 h2 h3 => by rw [fbn (by omega) (by omega) (by omega), fbn (by omega) (by omega) (by omega)]
  generalize f_b (f_b f t 1 (-1)) o 1 (-1) = F at n5 nr F5o F5t F6 F6n ⊢
  have hq : q_ref n F := by
    refine q_two hq0 (a := o) (b := t) (by rw [nr 4 (by decide) (by decide) (by decide)]) (by rw [nr 4 (by decide) (by decide) (by decide)]; exact hq0.2.2.2.1) (nr 3 (by decide) (by decide) (by decide)) (fun i _ hk => ⟨n5 i hk.1 hk.2 5 (by decide), n5 i hk.1 hk.2 7 (by decide), n5 i hk.1 hk.2 9 (by decide), n5 i hk.1 hk.2 12 (by decide), n5 i hk.1 hk.2 13 (by decide), n5 i hk.1 hk.2 27 (by decide)⟩) (fun i e _ _ _ => ⟨by rw [nr 14 (by decide) (by decide) (by decide)], by rw [nr 15 (by decide) (by decide) (by decide)], by rw [nr 16 (by decide) (by decide) (by decide)]⟩) (fun i hi hk a => ⟨fun q => ?_, fun q => ?_⟩) (fun p e hp he p4 hk kk => ?_) (fun p e hp he p4 kk => ⟨fun q => ?_, fun q => ?_⟩) (fun o' t' ho' hk _ ht' t4' t7' => ⟨fun q => ?_, fun q => ?_⟩) (fun x hx => ?_)
    · obtain ⟨u1, u2, u3⟩ := ownn i hi a
      rw [q] at u2
      rcases a with a | a | a
      · exact no3 i hi a u2
      · exact hk.2 (only i hi a u2)
      · exact no5 i hi a u2
    · obtain ⟨u1, u2, u3⟩ := ownn i hi a
      rw [q, t4] at u3; exact absurd u3 (by decide)
    · rcases ((hT.2.1 p hp p4).2.2 e he).1 with ⟨v, -⟩ | ⟨v1, v2, v3, v4, v5⟩ | ⟨v1, v2, v3, v4, v5, v6, v7, -⟩
      · rw [v] at kk; exact absurd kk (by simp)
      · rcases kk with kk | kk
        · rw [v1] at kk; exact absurd kk (by decide)
        · have := (v5 kk.2).1
          exact ⟨fun q => by rw [q, o2] at this; exact absurd this (by decide), fun q => by rw [q, t4] at this; exact absurd this (by decide)⟩
      · exact ⟨fun q => by rw [q, o2] at v5; exact absurd v5 (by decide), fun q => by rw [q] at v7; omega⟩
    · rw [q, o2] at p4; exact absurd p4 (by decide)
    · rw [q, hb e he] at kk; exact absurd kk (by simp)
    · rw [q, o2] at t4'; exact absurd t4' (by decide)
    · rw [q, t7] at t7'; exact hk.1 (nI_inj (by omega) (by omega) t7').symm
    · have : F 5 x = 1 := by rcases hx with rfl | rfl; exact F5o; exact F5t
      rw [this]
      exact ⟨fun q => absurd q (by decide), fun q => absurd q (by decide), by decide, by decide⟩
  have gne : G_ o ≠ G_ t := fun q => ot (G_inj q)
  have GA : (G_ o ≤ 10 + 2 * n ∧ Wd o ≤ 10 + 2 * n) ∧ (G_ t ≤ 10 + 2 * n ∧ Wd t ≤ 10 + 2 * n) := by unfold G_ Wd; omega
  have GW : G_ o ≠ Wd t ∧ G_ t ≠ Wd o ∧ Wd o ≠ Wd t := by unfold G_ Wd; omega
  have hI : ∀ x k, x ≠ G_ o → x ≠ Wd o → x ≠ G_ t → x ≠ Wd t → h_i (bcm (bcm M t 1 0 (-1)) o 1 0 (-1)) x k = h_i M x k := fun x k h1 h2 h3 h4 => by rw [b_i (fun q => h1 q.1) (fun q => h2 q.1), b_i (fun q => h3 q.1) (fun q => h4 q.1)]
  have hR : ∀ x k, ¬ (x = G_ o ∧ (k = 3 ∨ k = 5 ∨ k = 6)) → ¬ (x = G_ t ∧ (k = 3 ∨ k = 5 ∨ k = 6)) → h_r (bcm (bcm M t 1 0 (-1)) o 1 0 (-1)) x k = h_r M x k := fun x k h1 h2 => by rw [b_r h1, b_r h2]
  have zo : z_g (bcm (bcm M t 1 0 (-1)) o 1 0 (-1)) F ρ τ κ o ∧ (F 5 o = 2 → z_d n (bcm (bcm M t 1 0 (-1)) o 1 0 (-1)) F ρ τ o) ∧ (F 5 o = 4 → z_t (bcm (bcm M t 1 0 (-1)) o 1 0 (-1)) F τ o) ∧ (F 5 o = 3 → z_c (bcm (bcm M t 1 0 (-1)) o 1 0 (-1)) F ρ κ o) :=
    z_free (((b_i (by omega) (by unfold G_ Wd; omega)).trans (b_i (by omega) (by omega))).trans (h.2.2.2.2.2.1 o ho).1) (by rw [b_i2, F5o]) (by rw [F5o]; simp) b_i4 b_r3 b_r5 b_r6 (fun k hk => by rw [b_iw hk, F6 o k (Or.inl rfl) hk])
  have zt : z_g (bcm (bcm M t 1 0 (-1)) o 1 0 (-1)) F ρ τ κ t ∧ (F 5 t = 2 → z_d n (bcm (bcm M t 1 0 (-1)) o 1 0 (-1)) F ρ τ t) ∧ (F 5 t = 4 → z_t (bcm (bcm M t 1 0 (-1)) o 1 0 (-1)) F τ t) ∧ (F 5 t = 3 → z_c (bcm (bcm M t 1 0 (-1)) o 1 0 (-1)) F ρ κ t) :=
    z_free (((b_i (by omega) (by omega)).trans (b_i (by omega) (by unfold G_ Wd; omega))).trans (h.2.2.2.2.2.1 t ht).1) (by rw [b_i (by omega) (by omega), b_i2, F5t]) (by rw [F5t]; simp) (by rw [b_i (by omega) (by omega), b_i4]) (by rw [b_r (by omega), b_r3]) (by rw [b_r (by omega), b_r5]) (by rw [b_r (by omega), b_r6]) (fun k hk => by rw [b_i (by omega) (by omega), b_iw hk, F6 t k (Or.inr rfl) hk])
  have hkk : h_k (bcm (bcm M t 1 0 (-1)) o 1 0 (-1)) = h_k M := by rw [bK, bK]
  have hll : h_l (bcm (bcm M t 1 0 (-1)) o 1 0 (-1)) = h_l M := by rw [bL, bL]
  have hnn : h_n (bcm (bcm M t 1 0 (-1)) o 1 0 (-1)) = h_n M := by rw [bN, bN]
  generalize bcm (bcm M t 1 0 (-1)) o 1 0 (-1) = M' at hI hR zo zt hkk hll hnn ⊢
  refine Rel_tr h (fun i => i = o ∨ i = t) ?_ ?_ hq ?_ (fun x _ => by rw [hkk]) (fun y k hy => ?_) (fun _ _ _ _ => rfl) (fun _ _ _ _ => rfl) (fun _ _ _ _ => rfl) (fun b i hi hs h5 h27 h6 _ _ _ _ _ _ => n5 i (by omega) (by omega) b h6) (fun i k hi hs hk => F6n i k (by omega) (by omega) hk) (fun i k hi hs hk => by rw [nr 11 (by decide) (by decide) (by decide)]) (fun b i e hi hs he h1 h2 => by rw [nr b (by omega) (by omega) (by omega)]) (fun i k hi hs hk => by rw [nr 19 (by decide) (by decide) (by decide)]) (fun i hi hs h2 => ?_) (fun i hi hs => ?_)
  · exact BX_r h.1 h.2.1 hkk hll hnn (fun x k _ h2 _ => hR x k (fun q => h2 ⟨by rw [q.1]; exact (h.1.2.2.2.2.1 o ho).2.1, by omega⟩) (fun q => h2 ⟨by rw [q.1]; exact (h.1.2.2.2.2.1 t ht).2.1, by omega⟩))
  · exact ⟨fun i hi => (hI 1 i (by unfold G_; omega) (by unfold Wd; omega) (by unfold G_; omega) (by unfold Wd; omega)).trans (h.2.2.1.1 i hi), fun i hi => (hI 2 i (by unfold G_; omega) (by unfold Wd; omega) (by unfold G_; omega) (by unfold Wd; omega)).trans (h.2.2.1.2 i hi)⟩
  · refine zh_keep h (fun k => hI 4 k (by unfold G_; omega) (by unfold Wd; omega) (by unfold G_; omega) (by unfold Wd; omega)) (hR 4 3 (by unfold G_; omega) (by unfold G_; omega)) (nr 4 (by decide) (by decide) (by decide)) (fun r hr1 r3 r4 => ?_)
    have ro : r ≠ o := fun q => by rw [q, o2] at r3; exact absurd r3 (by decide)
    have rt : r ≠ t := fun q => by rw [q, t4] at r3; exact absurd r3 (by decide)
    have := (at_c h hr1 r3).1
    exact ⟨by rw [n5 r ro rt 5 (by decide)]; exact r3, rfl, by rw [nr 26 (by decide) (by decide) (by decide)], hR _ 9 (by omega) (by omega)⟩
  · have t1 := ntc_i hy ho (Or.inl rfl)
    have t2 := ntc_i hy ht (Or.inr rfl)
    exact ⟨hI y k t1.1 t1.2.1 t2.1 t2.2.1, hR y k (fun q => t1.1 q.1) (fun q => t2.1 q.1)⟩
  · have e : ∀ w : Int32, (w = 3 ∨ w = 4 ∨ w = 5) → cn n F w i = cn n f w i := fun w hw => cn_same (fun j hj => by
      by_cases jo : j = o
      · subst jo
        rw [F5o, o2]
        exact ⟨fun q => by rcases hw with rfl | rfl | rfl <;> exact absurd q.1 (by decide), fun q => by rcases hw with rfl | rfl | rfl <;> exact absurd q.1 (by decide)⟩
      · by_cases jt : j = t
        · subst jt
          rw [F5t]
          exact ⟨fun q => by rw [t7] at q; exact absurd (nI_inj (by omega) (by omega) q.2) (by omega), fun q => by rcases hw with rfl | rfl | rfl <;> exact absurd q.1 (by decide)⟩
        · rw [n5 j jo jt 5 (by decide), n5 j jo jt 7 (by decide)])
    exact ⟨e 3 (by simp), e 4 (by simp), e 5 (by simp)⟩
  · rcases hs with rfl | rfl
    · exact zo
    · exact zt
theorem op_destroy (h : Rel n M f ρ τ κ) (x : Int32) : OK2 n M (ev 40 0 [some (.inr 4), some (.inl x), none, none] [] M) (ev 136 0 [some (.inr 4), some (.inl x), none] [] (mkR f)) := by
  have hB := h.1
  have s1 := h.1.2.1.1
  have hn := h.2.2.2.1.1
  have hN := h.2.2.2.1.2.2.1
  have hT := h.2.2.2.1.2.2.2.2.2.1
  have l10 : ((1 : Int32) ≤ 0) = False := eq_false (by decide)
  have l20 : ((2 : Int32) ≤ 0) = False := eq_false (by decide)
  have l00 : ((0 : Int32) ≤ 0) = True := eq_true (by decide)
  have l0 : ((0 : Int32) < 0) = False := eq_false (by decide)
  rcases ix2 x (show n < 2 ^ 31 by omega) with hx | ⟨o, ho, rfl⟩
  · exact OK2.of (v := 0) (by simp only [e_40_0, e_40_26, c_I, c_R, c_V, if_true, if_false, true_and, and_true, true_or, or_true, List.length_nil, List.length_cons, Nat.zero_le, k_si, l_si, r_si, k_sr, l_sr, i_sr, n_si, ar_si, ar_sr, ar_0, rc7 s1, s1, C_no, C_none, C_yes, C_done, C_bit0, C_bit1, C_fault, z10, z20, z30, z40, z50, z01, zm0, zm1, C_at0 hB hx, R_isG0 hn hx, l10]; try rfl) (by simp only [e_136_0, e_133_0, e_133_14, kR1, kR2, kR3, kR4, kR5, kR6, kR7, kR8, kR9, kR10, kR11, kR12, kR13, kR14, kR15, kR16, kR17, kR18, kR19, kR20, kR21, kR22, kR23, kR24, kR25, kR26, kR27, kR28, kR29, kR30, lR1, lR2, lR3, lR4, lR5, lR6, lR7, lR8, lR9, lR10, lR11, lR12, lR13, lR14, lR15, lR16, lR17, lR18, lR19, lR20, lR21, lR22, lR23, lR24, lR25, lR26, lR27, lR28, lR29, lR30, rR5, rR6, rR7, rR8, rR9, rR10, rR11, rR12, rR13, rR14, rR15, rR16, rR17, rR18, rR19, rR20, rR21, rR22, rR23, rR24, rR25, rR26, rR27, rR28, rR29, rR30, R_i, R_si, R_rec, if_true, if_false, true_and, and_true, true_or, or_true, List.length_nil, List.length_cons, Nat.zero_le, c_I, c_R, c_V, R_no, R_refuse, R_fault, f_s_row, f4c, f4k, f4n, ne_eq, not_false_eq_true, not_true_eq_false, Nat.reduceEqDiff, reduceCtorEq, Nat.succ_ne_zero, Nat.reduceAdd, ar_0, z10, z20, z30, z40, z50, z01, zm0, zm1, C_at0 hB hx, R_isG0 hn hx, l10]; try rfl) (U_status h 1) rfl rfl
  obtain ⟨g1, g2, g3, g4, g5⟩ := hB.2.2.2.2.1 o ho
  by_cases o2 : f 5 o = 2
  case neg => exact OK2.of (v := 0) (by simp only [e_40_0, e_40_26, c_I, c_R, c_V, if_true, if_false, true_and, and_true, true_or, or_true, List.length_nil, List.length_cons, Nat.zero_le, k_si, l_si, r_si, k_sr, l_sr, i_sr, n_si, ar_si, ar_sr, ar_0, rc7 s1, s1, C_no, C_none, C_yes, C_done, C_bit0, C_bit1, C_fault, z10, z20, z30, z40, z50, z01, zm0, zm1, C_at1 hB hN ho, R_isG1 hn ho (by omega), G_ne, rc3 g2, C_own0 h ho o2, R_is (show o < 96 by omega), o2, l20]; try rfl) (by simp only [e_136_0, e_133_0, e_133_14, kR1, kR2, kR3, kR4, kR5, kR6, kR7, kR8, kR9, kR10, kR11, kR12, kR13, kR14, kR15, kR16, kR17, kR18, kR19, kR20, kR21, kR22, kR23, kR24, kR25, kR26, kR27, kR28, kR29, kR30, lR1, lR2, lR3, lR4, lR5, lR6, lR7, lR8, lR9, lR10, lR11, lR12, lR13, lR14, lR15, lR16, lR17, lR18, lR19, lR20, lR21, lR22, lR23, lR24, lR25, lR26, lR27, lR28, lR29, lR30, rR5, rR6, rR7, rR8, rR9, rR10, rR11, rR12, rR13, rR14, rR15, rR16, rR17, rR18, rR19, rR20, rR21, rR22, rR23, rR24, rR25, rR26, rR27, rR28, rR29, rR30, R_i, R_si, R_rec, if_true, if_false, true_and, and_true, true_or, or_true, List.length_nil, List.length_cons, Nat.zero_le, c_I, c_R, c_V, R_no, R_refuse, R_fault, f_s_row, f4c, f4k, f4n, ne_eq, not_false_eq_true, not_true_eq_false, Nat.reduceEqDiff, reduceCtorEq, Nat.succ_ne_zero, Nat.reduceAdd, ar_0, z10, z20, z30, z40, z50, z01, zm0, zm1, C_at1 hB hN ho, R_isG1 hn ho (by omega), G_ne, rc3 g2, C_own0 h ho o2, R_is (show o < 96 by omega), o2, l20]; try rfl) (U_status h 2) rfl rfl
  obtain ⟨d1, d2, d3, d4, d5, d6, d7, d8, d9, d10⟩ := h.2.2.2.2.2.2.1 o ho o2
  obtain ⟨t, t1, t2, t3, t4, t5⟩ := hT.2.2 o ho o2
  have e9 : rt f o = t := by unfold rt; rw [t2]; exact i_c (by omega)
  rw [e9] at d3
  have rm := R_manyOf hn hN (nI o) 3
  have cl := cnt_le (fun j => decide (f 5 j = 3 ∧ f 7 j = nI o)) n 0
  change ev 135 0 [some (.inr 4), some (.inl (nI o)), some (.inl 3), none, none] [] (mkR f) = some (some (.inl (nI (cn n f 3 o))), mkR f) at rm
  change cn n f 3 o ≤ n at cl
  have bt := at_t h t1 t3
  have zt := h.2.2.2.2.2.2.2.1 t t1 t3
  by_cases c : cn n f 3 o = 0
  case neg =>
    have pos : (0 : Int32) < nI (cn n f 3 o) := nI_lt (a := 0) (by omega) (by omega)
    exact OK2.of (v := 0) (by simp only [e_40_0, e_40_26, c_I, c_R, c_V, if_true, if_false, true_and, and_true, true_or, or_true, List.length_nil, List.length_cons, Nat.zero_le, k_si, l_si, r_si, k_sr, l_sr, i_sr, n_si, ar_si, ar_sr, ar_0, rc7 s1, s1, C_no, C_none, C_yes, C_done, C_bit0, C_bit1, C_fault, z10, z20, z30, z40, z50, z01, zm0, zm1, C_at1 hB hN ho, R_isG1 hn ho (by omega), G_ne, rc3 g2, C_own1 h ho o2, ρ_ne h ho o2, R_is (show o < 96 by omega), o2, l00, d1, d6, rm, pos]; try rfl) (by simp only [e_136_0, e_136_22, e_133_0, e_133_14, kR1, kR2, kR3, kR4, kR5, kR6, kR7, kR8, kR9, kR10, kR11, kR12, kR13, kR14, kR15, kR16, kR17, kR18, kR19, kR20, kR21, kR22, kR23, kR24, kR25, kR26, kR27, kR28, kR29, kR30, lR1, lR2, lR3, lR4, lR5, lR6, lR7, lR8, lR9, lR10, lR11, lR12, lR13, lR14, lR15, lR16, lR17, lR18, lR19, lR20, lR21, lR22, lR23, lR24, lR25, lR26, lR27, lR28, lR29, lR30, rR5, rR6, rR7, rR8, rR9, rR10, rR11, rR12, rR13, rR14, rR15, rR16, rR17, rR18, rR19, rR20, rR21, rR22, rR23, rR24, rR25, rR26, rR27, rR28, rR29, rR30, R_i, R_si, R_rec, if_true, if_false, true_and, and_true, true_or, or_true, List.length_nil, List.length_cons, Nat.zero_le, c_I, c_R, c_V, R_no, R_refuse, R_fault, f_s_row, f4c, f4k, f4n, ne_eq, not_false_eq_true, not_true_eq_false, Nat.reduceEqDiff, reduceCtorEq, Nat.succ_ne_zero, Nat.reduceAdd, ar_0, z10, z20, z30, z40, z50, z01, zm0, zm1, C_at1 hB hN ho, R_isG1 hn ho (by omega), G_ne, rc3 g2, C_own1 h ho o2, ρ_ne h ho o2, R_is (show o < 96 by omega), o2, l00, d1, d6, rm, pos]; try rfl) (U_status h 3) rfl rfl
  rw [c] at d6 rm
  rw [show nI 0 = 0 from rfl] at d6 rm
  have un := C_isUn h t1 t3
  have bare := R_isBare (f := f) (g := t) (by omega)
  by_cases hU : all_ (fun i => decide (f 14 (8 * t + i) = 0)) 0 8 = true
  case neg =>
    rw [if_neg hU] at un bare
    exact OK2.of (v := 0) (by simp only [e_40_0, e_40_26, c_I, c_R, c_V, if_true, if_false, true_and, and_true, true_or, or_true, List.length_nil, List.length_cons, Nat.zero_le, k_si, l_si, r_si, k_sr, l_sr, i_sr, n_si, ar_si, ar_sr, ar_0, rc7 s1, s1, C_no, C_none, C_yes, C_done, C_bit0, C_bit1, C_fault, z10, z20, z30, z40, z50, z01, zm0, zm1, C_at1 hB hN ho, R_isG1 hn ho (by omega), G_ne, rc3 g2, C_own1 h ho o2, ρ_ne h ho o2, R_is (show o < 96 by omega), o2, l00, d1, d3, d6, rm, l0, rc6 bt.2, un, bare, t2, i_t (show o < 96 by omega) (show 96 < 2 ^ 31 by decide), i_c (show o < 2 ^ 31 by omega)]; try rfl) (by simp only [e_136_0, e_136_22, e_133_0, e_133_14, kR1, kR2, kR3, kR4, kR5, kR6, kR7, kR8, kR9, kR10, kR11, kR12, kR13, kR14, kR15, kR16, kR17, kR18, kR19, kR20, kR21, kR22, kR23, kR24, kR25, kR26, kR27, kR28, kR29, kR30, lR1, lR2, lR3, lR4, lR5, lR6, lR7, lR8, lR9, lR10, lR11, lR12, lR13, lR14, lR15, lR16, lR17, lR18, lR19, lR20, lR21, lR22, lR23, lR24, lR25, lR26, lR27, lR28, lR29, lR30, rR5, rR6, rR7, rR8, rR9, rR10, rR11, rR12, rR13, rR14, rR15, rR16, rR17, rR18, rR19, rR20, rR21, rR22, rR23, rR24, rR25, rR26, rR27, rR28, rR29, rR30, R_i, R_si, R_rec, if_true, if_false, true_and, and_true, true_or, or_true, List.length_nil, List.length_cons, Nat.zero_le, c_I, c_R, c_V, R_no, R_refuse, R_fault, f_s_row, f4c, f4k, f4n, ne_eq, not_false_eq_true, not_true_eq_false, Nat.reduceEqDiff, reduceCtorEq, Nat.succ_ne_zero, Nat.reduceAdd, ar_0, z10, z20, z30, z40, z50, z01, zm0, zm1, C_at1 hB hN ho, R_isG1 hn ho (by omega), G_ne, rc3 g2, C_own1 h ho o2, ρ_ne h ho o2, R_is (show o < 96 by omega), o2, l00, d1, d3, d6, rm, l0, rc6 bt.2, un, bare, t2, i_t (show o < 96 by omega) (show 96 < 2 ^ 31 by decide), i_c (show o < 2 ^ 31 by omega)]; try rfl) (U_status h 3) rfl rfl
  rw [if_pos hU] at un bare
  have allU : ∀ e', e' < 8 → f 14 (8 * t + e') = 0 := fun e' he' => of_decide_eq_true ((all_iff _ 8 0).mp hU e' (Nat.zero_le _) (by omega))
  have h1 := W_destroy h ho o2 t1 t3 t4 t2 allU c
  obtain ⟨b1, b2, b3, b4, b5⟩ := hB.2.2.2.2.1 t t1
  have ot : o ≠ t := fun q => by rw [q, t3] at o2; exact absurd o2 (by decide)
  have gne : G_ o ≠ G_ t := fun q => ot (G_inj q)
  have cb1 := C_become (M := M) b2 b3 b4 b5 1 0 (-1)
  have cb2 := C_become (M := bcm M t 1 0 (-1)) (g := o) (by rw [bK]; exact g2) ((b_r (by omega)).trans g3) (by rw [bK]; exact g4) (by rw [bL]; exact g5) 1 0 (-1)
  have kb : h_k (bcm (bcm M t 1 0 (-1)) o 1 0 (-1)) 4 = 7 := by rw [bK, bK]; exact s1
  have kg : h_k (bcm M t 1 0 (-1)) (G_ o) = 3 := by rw [bK]; exact g2
  have f9 : f_b f t 1 (-1) 9 o = nI t := by rw [fbr (by decide) (by decide) (by decide)]; exact t2
  exact OK2.of (v := 1) (by simp only [e_40_0, e_40_26, c_I, c_R, c_V, if_true, if_false, true_and, and_true, true_or, or_true, List.length_nil, List.length_cons, Nat.zero_le, k_si, l_si, r_si, k_sr, l_sr, i_sr, n_si, ar_si, ar_sr, ar_0, rc7 s1, s1, C_no, C_none, C_yes, C_done, C_bit0, C_bit1, C_fault, z10, z20, z30, z40, z50, z01, zm0, zm1, C_at1 hB hN ho, G_ne, rc3 g2, C_own1 h ho o2, ρ_ne h ho o2, d1, d3, d6, l0, rc6 bt.2, un, bt.2, zt.2.1, rc3 b2, cb1, rc3 kg, cb2, rc7 kb, C_yes kb]) (by simp only [e_136_0, e_133_0, e_133_14, kR1, kR2, kR3, kR4, kR5, kR6, kR7, kR8, kR9, kR10, kR11, kR12, kR13, kR14, kR15, kR16, kR17, kR18, kR19, kR20, kR21, kR22, kR23, kR24, kR25, kR26, kR27, kR28, kR29, kR30, lR1, lR2, lR3, lR4, lR5, lR6, lR7, lR8, lR9, lR10, lR11, lR12, lR13, lR14, lR15, lR16, lR17, lR18, lR19, lR20, lR21, lR22, lR23, lR24, lR25, lR26, lR27, lR28, lR29, lR30, rR5, rR6, rR7, rR8, rR9, rR10, rR11, rR12, rR13, rR14, rR15, rR16, rR17, rR18, rR19, rR20, rR21, rR22, rR23, rR24, rR25, rR26, rR27, rR28, rR29, rR30, R_i, R_si, R_rec, if_true, if_false, true_and, and_true, true_or, or_true, List.length_nil, List.length_cons, Nat.zero_le, c_I, c_R, c_V, R_no, R_refuse, R_fault, f_s_row, f4c, f4k, f4n, ne_eq, not_false_eq_true, not_true_eq_false, Nat.reduceEqDiff, reduceCtorEq, Nat.succ_ne_zero, Nat.reduceAdd, ar_0, z10, z20, z30, z40, z50, z01, zm0, zm1, R_isG1 hn ho (show n < 2 ^ 31 by omega), R_is (show o < 96 by omega), o2, l00, rm, l0, bare, t2, R_become (show t < 96 by omega), R_become (show o < 96 by omega), i_t (show o < 96 by omega) (show 96 < 2 ^ 31 by decide), i_c (show o < 2 ^ 31 by omega)]) (W_status h1 0) (by rw [n_si, bN, bN]) (by rw [v_si, bV, bV])
end E
