/-! changes of what a granule is -/
theorem cnt_congr {p q : Nat → Bool} : ∀ (d g : Nat), (∀ j, g ≤ j → j < g + d → p j = q j) → cnt p g d = cnt q g d := by
  intro d
  induction d with
  | zero => intro g h; rfl
  | succ d ih => intro g h; rw [cnt, cnt, h g (Nat.le_refl _) (by omega), ih (g + 1) (fun j h1 h2 => h j (by omega) (by omega))]
theorem cnt_one {p q : Nat → Bool} {k : Nat} (hp : p k = false) (hq : q k = true) : ∀ (d g : Nat), g ≤ k → k < g + d → (∀ j, g ≤ j → j < g + d → j ≠ k → p j = q j) → cnt q g d = cnt p g d + 1 := by
  intro d
  induction d with
  | zero => intro g h1 h2; omega
  | succ d ih =>
    intro g h1 h2 h
    rw [cnt, cnt]
    by_cases e : g = k
    · subst e
      rw [hp, hq, cnt_congr d (g + 1) (fun j h3 h4 => (h j (by omega) (by omega) (by omega)).symm)]
      simp
      omega
    · rw [h g (Nat.le_refl _) (by omega) e, ih (g + 1) (by omega) (by omega) (fun j h3 h4 h5 => h j (by omega) (by omega) h5)]
      omega
theorem cn_same {n : Nat} {f f' : Nat → Nat → Int32} {w : Int32} {i : Nat} (h : ∀ j, j < n → ((f 5 j = w ∧ f 7 j = nI i) ↔ (f' 5 j = w ∧ f' 7 j = nI i))) : cn n f' w i = cn n f w i := by
  unfold cn
  exact cnt_congr n 0 (fun j _ h2 => by simp only [Nat.zero_add] at h2; exact decide_eq_decide.mpr (h j h2).symm)
theorem cn_more {n : Nat} {f f' : Nat → Nat → Int32} {w : Int32} {i k : Nat} (hk : k < n) (h1 : ¬ (f 5 k = w ∧ f 7 k = nI i)) (h2 : f' 5 k = w ∧ f' 7 k = nI i) (h : ∀ j, j < n → j ≠ k → f' 5 j = f 5 j ∧ f' 7 j = f 7 j) : cn n f' w i = cn n f w i + 1 := by
  unfold cn
  exact cnt_one (k := k) (decide_eq_false h1) (decide_eq_true h2) n 0 (Nat.zero_le _) (by omega) (fun j _ h3 h4 => by rw [(h j (by omega) h4).1, (h j (by omega) h4).2])
section TR
variable {n : Nat} {M M' : mM} {f f' : Nat → Nat → Int32} {ρ τ κ ρ' τ' κ' : Nat → Nat}
/-- a table that is kept -/
theorem q_keep (K : Nat → Prop) (p0 e0 : Nat) (hT : q_tree n f) (hK : ∀ i, i < n → K i → f' 5 i = f 5 i ∧ f' 7 i = f 7 i ∧ f' 9 i = f 9 i ∧ f' 12 i = f 12 i ∧ f' 13 i = f 13 i ∧ f' 27 i = f 27 i) (hE : ∀ i e, i < n → K i → e < 8 → ¬ (i = p0 ∧ e = e0) → f' 14 (8 * i + e) = f 14 (8 * i + e) ∧ f' 15 (8 * i + e) = f 15 (8 * i + e) ∧ f' 16 (8 * i + e) = f 16 (8 * i + e)) {g : Nat} (hg : g < n) (g4 : f 5 g = 4) (kg : K g) (ko : K (ow f g)) (kp : ∀ p e, p < n → e < 8 → f 5 p = 4 → f 14 (8 * p + e) = 2 → f 15 (8 * p + e) = nI g → K p ∧ ¬ (p = p0 ∧ e = e0)) (kt : ∀ e, e < 8 → ¬ (g = p0 ∧ e = e0) → ¬ f 14 (8 * g + e) = 0 → (f 14 (8 * g + e) = 2 ∨ bs f g + e < 2048) → K (tg f (8 * g + e))) : q_own n f' g ∧ q_T1 n f' g ∧ ∀ e, e < 8 → ¬ (g = p0 ∧ e = e0) → q_T2 n f' g e ∧ q_rip f' g e := by
  obtain ⟨o1, o2, o3⟩ := (hT.2.1 g hg g4).1
  obtain ⟨⟨a1, a2⟩, ⟨a3, a4, a5⟩, a6, a7⟩ := (hT.2.1 g hg g4).2.1
  have hT2 := (hT.2.1 g hg g4).2.2
  obtain ⟨k5, k7, k9, k12, k13, k27⟩ := hK g hg kg
  have lvg : lv f' g = lv f g := by unfold lv; rw [k12]
  have bsg : bs f' g = bs f g := by unfold bs; rw [k13]
  have owg : ow f' g = ow f g := by unfold ow; rw [k7]
  refine ⟨⟨by rw [owg]; exact o1, by rw [owg, k7]; exact o2, by rw [owg, (hK _ o1 ko).1]; exact o3⟩, ⟨⟨by rw [lvg, k12]; exact a1, by rw [lvg]; exact a2⟩, ⟨by rw [bsg, k13]; exact a3, by rw [bsg]; exact a4, by rw [bsg, lvg]; exact a5⟩, fun h0 => ?_, fun h0 => ?_⟩, fun e he hne => ⟨?_, ?_⟩⟩
  · rw [owg, (hK _ o1 ko).2.2.1]
    rw [lvg] at h0
    exact a6 h0
  · rw [lvg] at h0
    obtain ⟨p, e, p1, p2, p3, p4, p5, p6, p7, p8⟩ := a7 h0
    obtain ⟨q1, q2⟩ := kp p e p1 p2 p3 p6 p7
    obtain ⟨m5, m7, m9, m12, m13, m27⟩ := hK p p1 q1
    obtain ⟨n14, n15, n16⟩ := hE p e p1 q1 p2 q2
    have lvp : lv f' p = lv f p := by unfold lv; rw [m12]
    have bsp : bs f' p = bs f p := by unfold bs; rw [m13]
    exact ⟨p, e, p1, p2, by rw [m5]; exact p3, by rw [m7, k7]; exact p4, by rw [lvp, lvg]; exact p5, by rw [n14]; exact p6, by rw [n15]; exact p7, by rw [bsg, bsp, lvp]; exact p8⟩
  · obtain ⟨n14, n15, n16⟩ := hE g e hg kg he hne
    have tge : tg f' (8 * g + e) = tg f (8 * g + e) := by unfold tg; rw [n15]
    unfold q_T2
    rw [n14, n15, n16, lvg, bsg, tge, k7]
    rcases (hT2 e he).1 with t | ⟨t1, t2, t3, t4, t5⟩ | ⟨t1, t2, t3, t4, t5, t6, t7, t8, t9⟩
    · exact Or.inl t
    · refine Or.inr (Or.inl ⟨t1, t2, t3, t4, fun hb => ?_⟩)
      obtain ⟨m5, m7, m9, m12, m13, m27⟩ := hK _ t3 (kt e he hne (by rw [t1]; decide) (Or.inr hb))
      rw [m5, m7, m27]
      exact t5 hb
    · obtain ⟨m5, m7, m9, m12, m13, m27⟩ := hK _ t3 (kt e he hne (by rw [t1]; decide) (Or.inl t1))
      refine Or.inr (Or.inr ⟨t1, t2, t3, t4, by rw [m5]; exact t5, by rw [m7]; exact t6, ?_, ?_, t9⟩)
      · unfold lv at t7 ⊢; rw [m12]; exact t7
      · unfold bs at t8 ⊢; rw [m13]; exact t8
  · obtain ⟨n14, n15, n16⟩ := hE g e hg kg he hne
    unfold q_rip
    rw [n16, lvg, bsg]
    exact (hT2 e he).2
theorem q_rootk (K : Nat → Prop) (hK : ∀ i, i < n → K i → f' 5 i = f 5 i ∧ f' 7 i = f 7 i ∧ f' 9 i = f 9 i ∧ f' 12 i = f 12 i ∧ f' 13 i = f 13 i ∧ f' 27 i = f 27 i) {o : Nat} (ho : o < n) (ko : K o) (kt : ∀ t, t < n → f 9 o = nI t → f 5 t = 4 → f 7 t = nI o → K t) (h : q_root n f o) : q_root n f' o := by
  obtain ⟨t, t1, t2, t3, t4, t5⟩ := h
  obtain ⟨m5, m7, m9, m12, m13, m27⟩ := hK t t1 (kt t t1 t2 t3 t4)
  refine ⟨t, t1, by rw [(hK o ho ko).2.2.1]; exact t2, by rw [m5]; exact t3, by rw [m7]; exact t4, ?_⟩
  unfold lv at t5 ⊢
  rw [m12]; exact t5
theorem q_datak (K : Nat → Prop) (p0 e0 : Nat) (hK : ∀ i, i < n → K i → f' 5 i = f 5 i ∧ f' 7 i = f 7 i ∧ f' 9 i = f 9 i ∧ f' 12 i = f 12 i ∧ f' 13 i = f 13 i ∧ f' 27 i = f 27 i) (hE : ∀ i e, i < n → K i → e < 8 → ¬ (i = p0 ∧ e = e0) → f' 14 (8 * i + e) = f 14 (8 * i + e) ∧ f' 15 (8 * i + e) = f 15 (8 * i + e) ∧ f' 16 (8 * i + e) = f 16 (8 * i + e)) {i : Nat} (hi : i < n) (ki : K i) (ko : K (ow f i)) (kp : ∀ p e, p < n → e < 8 → f 5 p = 4 → f 14 (8 * p + e) = 1 → f 15 (8 * p + e) = nI i → bs f p + e < 2048 → K p ∧ ¬ (p = p0 ∧ e = e0)) (h : q_own n f i ∧ q_T3 n f i) : q_own n f' i ∧ q_T3 n f' i := by
  obtain ⟨⟨o1, o2, o3⟩, p, e, p1, p2, p3, p4, p5, p6, p7, p8⟩ := h
  obtain ⟨q1, q2⟩ := kp p e p1 p2 p3 p6 p7 p8
  obtain ⟨m5, m7, m9, m12, m13, m27⟩ := hK p p1 q1
  obtain ⟨n14, n15, n16⟩ := hE p e p1 q1 p2 q2
  have k7 := (hK i hi ki).2.1
  have owg : ow f' i = ow f i := by unfold ow; rw [k7]
  refine ⟨⟨by rw [owg]; exact o1, by rw [owg, k7]; exact o2, by rw [owg, (hK _ o1 ko).1]; exact o3⟩, p, e, p1, p2, by rw [m5]; exact p3, by rw [m7, k7]; exact p4, ?_, by rw [n14]; exact p6, by rw [n15]; exact p7, ?_⟩
  · unfold lv at p5 ⊢; rw [m12]; exact p5
  · unfold bs at p8 ⊢; rw [m13]; exact p8
theorem q_ownk (K : Nat → Prop) (hK : ∀ i, i < n → K i → f' 5 i = f 5 i ∧ f' 7 i = f 7 i ∧ f' 9 i = f 9 i ∧ f' 12 i = f 12 i ∧ f' 13 i = f 13 i ∧ f' 27 i = f 27 i) {i : Nat} (hi : i < n) (ki : K i) (ko : K (ow f i)) (h : q_own n f i) : q_own n f' i := by
  obtain ⟨o1, o2, o3⟩ := h
  have k7 := (hK i hi ki).2.1
  have owg : ow f' i = ow f i := by unfold ow; rw [k7]
  exact ⟨by rw [owg]; exact o1, by rw [owg, k7]; exact o2, by rw [owg, (hK _ o1 ko).1]; exact o3⟩
/-- the shape of the class's cells, when references of granules and entries alone change -/
theorem BX_r (hB : B_sh n M) (hX : X_sh n M) (hk : h_k M' = h_k M) (hl : h_l M' = h_l M) (hn : h_n M' = h_n M) (hR : ∀ x k, ¬ (x = 4 ∧ k = 3) → ¬ (h_k M x = 3 ∧ k ≠ 1) → ¬ h_k M x = 2 → h_r M' x k = h_r M x k) : B_sh n M' ∧ X_sh n M' := by
  have kp : ∀ x k, ¬ (x = 4 ∧ k = 3) → h_k M x ≠ 3 → h_k M x ≠ 2 → h_r M' x k = h_r M x k := fun x k h1 h2 h3 => hR x k h1 (fun q => h2 q.1) h3
  refine ⟨?_, fun a => ⟨fun ha => ?_, fun ha => ?_, fun ha => ?_⟩⟩
  · obtain ⟨⟨b1, b2, b3, b4, b5⟩, ⟨c1, c2, c3, c4⟩, c5, c6, c7, c8, c9, c10⟩ := hB
    unfold B_sh D_sh
    rw [hk, hl, hn]
    refine ⟨⟨b1, (kp 5 0 (by omega) (by omega) (by omega)).trans b2, (kp 5 1 (by omega) (by omega) (by omega)).trans b3, (kp 5 2 (by omega) (by omega) (by omega)).trans b4, b5⟩, ⟨c1, (kp 4 0 (by omega) (by omega) (by omega)).trans c2, (kp 4 1 (by omega) (by omega) (by omega)).trans c3, (kp 4 2 (by omega) (by omega) (by omega)).trans c4⟩, c5, c6, fun i hi => ?_, c8, c9, c10⟩
    obtain ⟨d1, d2, d3, d4⟩ := c7 i hi
    exact ⟨(kp 10 i (by omega) (by omega) (by omega)).trans d1, d2, (hR _ 1 (by omega) (by omega) (by omega)).trans d3, d4⟩
  · rw [hk] at ha
    obtain ⟨y1, y2, y3, y4, y5, y6⟩ := (hX a).1 ha
    unfold X_d
    rw [hk, hl, hn]
    exact ⟨y1, y2, (kp a 2 (by omega) (by omega) (by omega)).trans y3, y4, y5, fun q hq => ⟨(kp (a + 1) q (by omega) (by omega) (by omega)).trans (y6 q hq).1, (y6 q hq).2⟩⟩
  · rw [hk] at ha
    obtain ⟨y1, y2, y3, y4, y5, y6⟩ := (hX a).2.1 ha
    unfold X_t
    rw [hk, hl, hn]
    exact ⟨y1, y2, (kp a 2 (by omega) (by omega) (by omega)).trans y3, y4, y5, fun q hq => ⟨(kp (a + 1) q (by omega) (by omega) (by omega)).trans (y6 q hq).1, (y6 q hq).2⟩⟩
  · rw [hk] at ha
    obtain ⟨y1, y2, y3, y4, y5⟩ := (hX a).2.2 ha
    unfold X_c
    rw [hk, hl, hn]
    exact ⟨y1, y2, (kp a 3 (by omega) (by omega) (by omega)).trans y3, y4, y5⟩
/-- the cells of the granules that are touched -/
def tch (n : Nat) (M : mM) (f : Nat → Nat → Int32) (ρ τ κ : Nat → Nat) (S : Nat → Prop) (x : Nat) : Prop := (∃ j, j < n ∧ S j ∧ (x = G_ j ∨ x = Wd j ∨ (f 5 j = 2 ∧ ρ j ≤ x ∧ x ≤ ρ j + 6) ∨ (f 5 j = 4 ∧ τ j ≤ x ∧ x ≤ τ j + 9) ∨ (f 5 j = 3 ∧ κ j ≤ x ∧ x ≤ κ j + 1))) ∨ h_n M < x ∨ (4 ≤ x ∧ x ≤ 9)
theorem ntc_g {S : Nat → Prop} (h : Rel n M f ρ τ κ) {i : Nat} (hi : i < n) (hs : ¬ S i) : ¬ tch n M f ρ τ κ S (G_ i) ∧ ¬ tch n M f ρ τ κ S (Wd i) := by
  have hn := h.1.2.2.2.2.2.1
  constructor
  · rintro (⟨j, hj, sj, e | e | ⟨e, e2, -⟩ | ⟨e, e2, -⟩ | ⟨e, e2, -⟩⟩ | e | e)
    · rw [G_inj e] at hs; exact hs sj
    · unfold G_ Wd at e; omega
    · have := (at_d h hj e).1; unfold G_ at e2; omega
    · have := (at_t h hj e).1; unfold G_ at e2; omega
    · have := (at_c h hj e).1; unfold G_ at e2; omega
    · unfold G_ at e; omega
    · unfold G_ at e; omega
  · rintro (⟨j, hj, sj, e | e | ⟨e, e2, -⟩ | ⟨e, e2, -⟩ | ⟨e, e2, -⟩⟩ | e | e)
    · unfold G_ Wd at e; omega
    · rw [show i = j by unfold Wd at e; omega] at hs; exact hs sj
    · have := (at_d h hj e).1; unfold Wd at e2; omega
    · have := (at_t h hj e).1; unfold Wd at e2; omega
    · have := (at_c h hj e).1; unfold Wd at e2; omega
    · unfold Wd at e; omega
    · unfold Wd at e; omega
theorem ntc_d {S : Nat → Prop} (h : Rel n M f ρ τ κ) {i x : Nat} (hi : i < n) (hs : ¬ S i) (h2 : f 5 i = 2) (h3 : ρ i ≤ x) (h4 : x ≤ ρ i + 6) : ¬ tch n M f ρ τ κ S x := by
  have b := at_d h hi h2
  have hx := ((h.2.1 (ρ i)).1 b.2).2.1
  rintro (⟨j, hj, sj, e | e | ⟨e, e2, e3⟩ | ⟨e, e2, e3⟩ | ⟨e, e2, e3⟩⟩ | e | e)
  · unfold G_ at e; omega
  · unfold Wd at e; omega
  · have := dj_dd h hi hj h2 e (fun q => by rw [q] at hs; exact hs sj); omega
  · have := dj_td h hj hi e h2; omega
  · have := dj_dc h hi hj h2 e; omega
  · omega
  · omega
theorem ntc_t {S : Nat → Prop} (h : Rel n M f ρ τ κ) {i x : Nat} (hi : i < n) (hs : ¬ S i) (h2 : f 5 i = 4) (h3 : τ i ≤ x) (h4 : x ≤ τ i + 9) : ¬ tch n M f ρ τ κ S x := by
  have b := at_t h hi h2
  have hx := ((h.2.1 (τ i)).2.1 b.2).2.1
  rintro (⟨j, hj, sj, e | e | ⟨e, e2, e3⟩ | ⟨e, e2, e3⟩ | ⟨e, e2, e3⟩⟩ | e | e)
  · unfold G_ at e; omega
  · unfold Wd at e; omega
  · have := dj_td h hi hj h2 e; omega
  · have := dj_tt h hi hj h2 e (fun q => by rw [q] at hs; exact hs sj); omega
  · have := dj_tc h hi hj h2 e; omega
  · omega
  · omega
theorem ntc_c {S : Nat → Prop} (h : Rel n M f ρ τ κ) {i x : Nat} (hi : i < n) (hs : ¬ S i) (h2 : f 5 i = 3) (h3 : κ i ≤ x) (h4 : x ≤ κ i + 1) : ¬ tch n M f ρ τ κ S x := by
  have b := at_c h hi h2
  have hx := ((h.2.1 (κ i)).2.2 b.2).2.1
  rintro (⟨j, hj, sj, e | e | ⟨e, e2, e3⟩ | ⟨e, e2, e3⟩ | ⟨e, e2, e3⟩⟩ | e | e)
  · unfold G_ at e; omega
  · unfold Wd at e; omega
  · have := dj_dc h hj hi e h2; omega
  · have := dj_tc h hj hi e h2; omega
  · have := dj_cc h hi hj h2 e (fun q => by rw [q] at hs; exact hs sj); omega
  · omega
  · omega
/-- the relation behind a change of some granules -/
theorem Rel_tr (h : Rel n M f ρ τ κ) (S : Nat → Prop) (hBX : B_sh n M' ∧ X_sh n M') (hst : q_st M') (hq : q_ref n f') (hh : z_h n M' f' κ')
    (hk : ∀ x, x ≤ h_n M → h_k M' x = h_k M x) (hC : ∀ x k, ¬ tch n M f ρ τ κ S x → h_i M' x k = h_i M x k ∧ h_r M' x k = h_r M x k)
    (hρ : ∀ j, j < n → f 5 j = 2 → f' 5 j = 2 → ρ' j = ρ j) (hτ : ∀ j, j < n → f 5 j = 4 → f' 5 j = 4 → τ' j = τ j) (hκ : ∀ j, j < n → ¬ S j → f 5 j = 3 → κ' j = κ j)
    (h5 : ∀ b i, i < n → ¬ S i → 5 ≤ b → b ≤ 27 → b ≠ 6 → b ≠ 11 → b ≠ 14 → b ≠ 15 → b ≠ 16 → b ≠ 19 → b ≠ 26 → f' b i = f b i) (h6 : ∀ i k, i < n → ¬ S i → k < 32 → f' 6 (32 * i + k) = f 6 (32 * i + k)) (h11 : ∀ i k, i < n → ¬ S i → k < 40 → f' 11 (40 * i + k) = f 11 (40 * i + k)) (h14 : ∀ b i e, i < n → ¬ S i → e < 8 → 14 ≤ b → b ≤ 16 → f' b (8 * i + e) = f b (8 * i + e)) (h19 : ∀ i k, i < n → ¬ S i → k < 8 → f' 19 (8 * i + k) = f 19 (8 * i + k))
    (hcn : ∀ i, i < n → ¬ S i → f 5 i = 2 → cn n f' 3 i = cn n f 3 i ∧ cn n f' 4 i = cn n f 4 i ∧ cn n f' 5 i = cn n f 5 i)
    (hS : ∀ i, i < n → S i → z_g M' f' ρ' τ' κ' i ∧ (f' 5 i = 2 → z_d n M' f' ρ' τ' i) ∧ (f' 5 i = 4 → z_t M' f' τ' i) ∧ (f' 5 i = 3 → z_c M' f' ρ' κ' i)) : Rel n M' f' ρ' τ' κ' := by
  have hN := h.2.2.2.1.2.2.1
  have r5 : ∀ i, i < n → ¬ S i → f' 5 i = f 5 i := fun i hi hs => h5 5 i hi hs (by omega) (by omega) (by omega) (by omega) (by omega) (by omega) (by omega) (by omega) (by omega)
  have r7 : ∀ i, i < n → ¬ S i → f' 7 i = f 7 i := fun i hi hs => h5 7 i hi hs (by omega) (by omega) (by omega) (by omega) (by omega) (by omega) (by omega) (by omega) (by omega)
  have r12 : ∀ i, i < n → ¬ S i → f' 12 i = f 12 i := fun i hi hs => h5 12 i hi hs (by omega) (by omega) (by omega) (by omega) (by omega) (by omega) (by omega) (by omega) (by omega)
  have r13 : ∀ i, i < n → ¬ S i → f' 13 i = f 13 i := fun i hi hs => h5 13 i hi hs (by omega) (by omega) (by omega) (by omega) (by omega) (by omega) (by omega) (by omega) (by omega)
  have r17 : ∀ i, i < n → ¬ S i → f' 17 i = f 17 i := fun i hi hs => h5 17 i hi hs (by omega) (by omega) (by omega) (by omega) (by omega) (by omega) (by omega) (by omega) (by omega)
  have r27 : ∀ i, i < n → ¬ S i → f' 27 i = f 27 i := fun i hi hs => h5 27 i hi hs (by omega) (by omega) (by omega) (by omega) (by omega) (by omega) (by omega) (by omega) (by omega)
  have rx : ∀ b i, i < n → ¬ S i → (b = 8 ∨ b = 9 ∨ b = 10 ∨ b = 18 ∨ (20 ≤ b ∧ b ≤ 25)) → f' b i = f b i := fun b i hi hs hb => h5 b i hi hs (by omega) (by omega) (by omega) (by omega) (by omega) (by omega) (by omega) (by omega) (by omega)
  have oww : ∀ i, i < n → ¬ S i → ow f' i = ow f i := fun i hi hs => by unfold ow; rw [r7 i hi hs]
  have own' : ∀ i, i < n → ¬ S i → f 5 i = 3 ∨ f 5 i = 4 ∨ f 5 i = 5 → ρ' (ow f i) = ρ (ow f i) := fun i hi hs hx => by
    have a : q_own n f i ∧ q_own n f' i := by
      rcases hx with e | e | e
      · exact ⟨h.2.2.2.1.2.2.2.2.2.2.2.1 i hi e, hq.2.2.2.2.2.2.2.1 i hi ((r5 i hi hs).trans e)⟩
      · exact ⟨(h.2.2.2.1.2.2.2.2.2.1.2.1 i hi e).1, (hq.2.2.2.2.2.1.2.1 i hi ((r5 i hi hs).trans e)).1⟩
      · exact ⟨(h.2.2.2.1.2.2.2.2.2.2.1 i hi e).1, (hq.2.2.2.2.2.2.1 i hi ((r5 i hi hs).trans e)).1⟩
    obtain ⟨⟨a1, a2, a3⟩, ⟨b1, b2, b3⟩⟩ := a
    rw [oww i hi hs] at b3
    exact hρ _ a1 a3 b3
  refine ⟨hBX.1, hBX.2, hst, hq, hh, fun i hi => ?_, fun i hi h2 => ?_, fun i hi h2 => ?_, fun i hi h2 => ?_⟩
  · by_cases hs : S i
    · exact (hS i hi hs).1
    · obtain ⟨t1, t2⟩ := ntc_g h hi hs
      obtain ⟨z1, z2, z3, z4⟩ := h.2.2.2.2.2.1 i hi
      unfold z_g
      rw [(hC _ 0 t1).1, (hC _ 2 t1).1, (hC _ 4 t1).1, (hC _ 3 t1).2, (hC _ 5 t1).2, (hC _ 6 t1).2, r5 i hi hs, r12 i hi hs, r17 i hi hs, r27 i hi hs, oww i hi hs]
      refine ⟨z1, z2, fun k hk => by rw [(hC _ k t2).1, h6 i k hi hs hk]; exact z3 k hk, ?_⟩
      rcases z4 with w | ⟨w, w2⟩ | ⟨w, w2, w3, w4, w5⟩ | ⟨w, w2, w3, w4, w5⟩ | ⟨w, w2⟩
      · exact Or.inl w
      · refine Or.inr (Or.inl ⟨w, ?_⟩)
        rw [hρ i hi w ((r5 i hi hs).trans w)]; exact w2
      · refine Or.inr (Or.inr (Or.inl ⟨w, ?_⟩))
        rw [own' i hi hs (Or.inl w), hκ i hi hs w]; exact ⟨w2, w3, w4, w5⟩
      · refine Or.inr (Or.inr (Or.inr (Or.inl ⟨w, ?_⟩)))
        rw [own' i hi hs (Or.inr (Or.inl w)), hτ i hi w ((r5 i hi hs).trans w)]; exact ⟨w2, w3, w4, w5⟩
      · refine Or.inr (Or.inr (Or.inr (Or.inr ⟨w, ?_⟩)))
        rw [own' i hi hs (Or.inr (Or.inr w))]; exact w2
  · by_cases hs : S i
    · exact (hS i hi hs).2.1 h2
    · have h2' := h2
      rw [r5 i hi hs] at h2'
      obtain ⟨a1, a2, a3, a4, a5, a6, a7, a8, a9, a10⟩ := h.2.2.2.2.2.2.1 i hi h2'
      have hx := ((h.2.1 (ρ i)).1 a1).2.1
      have t := ntc_d h hi hs h2' (Nat.le_refl _) (by omega)
      obtain ⟨c3, c4, c5⟩ := hcn i hi hs h2'
      have hrt : rt f' i = rt f i := by unfold rt; rw [rx 9 i hi hs (by omega)]
      have hτr : τ' (rt f i) = τ (rt f i) := by
        obtain ⟨u, u1, u2, u3, -⟩ := h.2.2.2.1.2.2.2.2.2.1.2.2 i hi h2'
        obtain ⟨v, v1, v2, v3, -⟩ := hq.2.2.2.2.2.1.2.2 i hi h2
        rw [rx 9 i hi hs (by omega), u2] at v2
        have := nI_inj (by omega) (by omega) v2
        subst this
        rw [show rt f i = u from by unfold rt; rw [u2]; exact i_c (by omega)]
        exact hτ u u1 u3 v3
      unfold z_d
      rw [hρ i hi h2' h2, hrt, hτr, c3, c4, c5, rx 8 i hi hs (by omega), rx 10 i hi hs (by omega), (hC _ 0 t).2, (hC _ 1 t).2, (hC _ 3 t).1, (hC _ 4 t).1, (hC _ 5 t).1, (hC _ 6 t).1, (hC _ 7 t).1, hk _ (by omega)]
      refine ⟨a1, a2, a3, a4, a5, a6, a7, a8, a9, fun q k hq' hk' => ?_⟩
      rw [(hC _ k (ntc_d h hi hs h2' (by omega) (by omega))).1, show 40 * i + 8 * q + k = 40 * i + (8 * q + k) by omega, h11 i (8 * q + k) hi hs (by omega), ← Nat.add_assoc]
      exact a10 q k hq' hk'
  · by_cases hs : S i
    · exact (hS i hi hs).2.2.1 h2
    · have h2' := h2
      rw [r5 i hi hs] at h2'
      obtain ⟨a1, a2, a3, a4⟩ := h.2.2.2.2.2.2.2.1 i hi h2'
      have hx := ((h.2.1 (τ i)).2.1 a1).2.1
      have t := ntc_t h hi hs h2' (Nat.le_refl _) (by omega)
      unfold z_t
      rw [hτ i hi h2' h2, (hC _ 0 t).2, (hC _ 1 t).1, hk _ (by omega), r12 i hi hs]
      refine ⟨a1, a2, a3, fun e he => ?_⟩
      have te := ntc_t (x := τ i + 2 + e) h hi hs h2' (by omega) (by omega)
      obtain ⟨c1, c2, c3, c4, c5⟩ := a4 e he
      have e14 := h14 14 i e hi hs he (by omega) (by omega)
      have e15 := h14 15 i e hi hs he (by omega) (by omega)
      have e16 := h14 16 i e hi hs he (by omega) (by omega)
      have etg : tg f' (8 * i + e) = tg f (8 * i + e) := by unfold tg; rw [e15]
      have elv : lv f' i = lv f i := by unfold lv; rw [r12 i hi hs]
      have ebs : bs f' i = bs f i := by unfold bs; rw [r13 i hi hs]
      unfold z_e
      rw [hτ i hi h2' h2, (hC _ 0 te).1, (hC _ 1 te).1, (hC _ 2 te).1, (hC _ 3 te).2, (hC _ 4 te).2, r12 i hi hs, e14, e16, etg, elv, ebs]
      refine ⟨c1, c2, c3, c4, ?_⟩
      rw [c5]
      by_cases e2 : f 14 (8 * i + e) = 2
      · rw [if_pos e2, if_pos e2]
        have T := ((h.2.2.2.1.2.2.2.2.2.1.2.1 i hi h2').2.2 e he).1
        have T' := ((hq.2.2.2.2.2.1.2.1 i hi h2).2.2 e he).1
        rcases T with ⟨w, -⟩ | ⟨w, -⟩ | ⟨-, -, w3, -, w5, -⟩
        · rw [w] at e2; exact absurd e2 (by decide)
        · rw [w] at e2; exact absurd e2 (by decide)
        · rcases T' with ⟨v, -⟩ | ⟨v, -⟩ | ⟨-, -, v3, -, v5, -⟩
          · rw [e14, e2] at v; exact absurd v (by decide)
          · rw [e14, e2] at v; exact absurd v (by decide)
          · rw [etg] at v5
            exact (hτ _ w3 w5 v5).symm
      · rw [if_neg e2, if_neg e2]
  · by_cases hs : S i
    · exact (hS i hi hs).2.2.2 h2
    · have h2' := h2
      rw [r5 i hi hs] at h2'
      obtain ⟨a1, a2, a3, a4, a5, a6, a7, a8, a9, a10, a11⟩ := h.2.2.2.2.2.2.2.2 i hi h2'
      have hx := ((h.2.1 (κ i)).2.2 a1).2.1
      have t := ntc_c h hi hs h2' (Nat.le_refl _) (by omega)
      have t1 := ntc_c (x := κ i + 1) h hi hs h2' (by omega) (Nat.le_refl _)
      unfold z_c
      rw [hκ i hi hs h2', hk _ (by omega), oww i hi hs, own' i hi hs (Or.inl h2'), (hC _ 0 t).2, (hC _ 1 t).2, (hC _ 2 t).1, (hC _ 4 t).1, (hC _ 5 t).1, (hC _ 6 t).1, (hC _ 7 t).1, (hC _ 8 t).1, (hC _ 10 t).1, rx 18 i hi hs (by omega), rx 20 i hi hs (by omega), rx 21 i hi hs (by omega), rx 22 i hi hs (by omega), rx 23 i hi hs (by omega), rx 24 i hi hs (by omega), rx 25 i hi hs (by omega)]
      exact ⟨a1, a2, a3, a4, a5, fun k hk' => by rw [(hC _ k t1).1, h19 i k hi hs hk']; exact a6 k hk', a7, a8, a9, a10, a11⟩
end TR
