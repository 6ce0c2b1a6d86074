/-! where every granule stands -/
section E
variable {n : Nat} {M : mM} {f : Nat → Nat → Int32} {ρ τ κ : Nat → Nat}
theorem sm_zero {p : Nat → Nat} : ∀ (d g : Nat), (∀ j, g ≤ j → j < g + d → p j = 0) → sm p g d = 0 := by
  intro d
  induction d with
  | zero => intro g _; rfl
  | succ d ih => intro g h; rw [sm, h g (Nat.le_refl _) (by omega), ih (g + 1) (fun j h1 h2 => h j (by omega) (by omega))]
theorem sm_one {p : Nat → Nat} {k : Nat} (hk : p k = 1) : ∀ (d g : Nat), g ≤ k → k < g + d → (∀ j, g ≤ j → j < g + d → j ≠ k → p j = 0) → sm p g d = 1 := by
  intro d
  induction d with
  | zero => intro g h1 h2; omega
  | succ d ih =>
    intro g h1 h2 h
    rw [sm]
    by_cases e : g = k
    · subst e
      rw [hk, sm_zero d (g + 1) (fun j h3 h4 => h j (by omega) (by omega) (by omega))]
    · rw [h g (Nat.le_refl _) (by omega) e, ih (g + 1) (by omega) (by omega) (fun j h3 h4 h5 => h j (by omega) (by omega) h5)]
def evT (f : Nat → Nat → Int32) (i g e : Nat) : Nat := if f 14 (8 * g + e) = 2 ∧ tg f (8 * g + e) = i then 1 else 0
def evP (f : Nat → Nat → Int32) (i g e : Nat) : Nat := if f 14 (8 * g + e) = 1 ∧ bs f g + e * spn (lv f g) < 2048 ∧ tg f (8 * g + e) = i then 1 else 0
def gT (f : Nat → Nat → Int32) (i g : Nat) : Nat := (if f 5 g = 2 ∧ rt f g = i then 1 else 0) + (if f 5 g = 4 then sm (evT f i g) 0 8 else 0)
def gP (f : Nat → Nat → Int32) (i g : Nat) : Nat := if f 5 g = 4 then sm (evP f i g) 0 8 else 0
theorem rt_eq (hq : q_ref n f) {o : Nat} (ho : o < n) (o2 : f 5 o = 2) : rt f o < n ∧ f 9 o = nI (rt f o) ∧ f 5 (rt f o) = 4 ∧ f 7 (rt f o) = nI o ∧ lv f (rt f o) = 0 := by
  obtain ⟨t, t1, t2, t3, t4, t5⟩ := hq.2.2.2.2.2.1.2.2 o ho o2
  have e : rt f o = t := by unfold rt; rw [t2]; exact i_c (by have := hq.2.2.1; omega)
  rw [e]; exact ⟨t1, t2, t3, t4, t5⟩
theorem T_one (hq : q_ref n f) {i : Nat} (hi : i < n) (i4 : f 5 i = 4) : sm (gT f i) 0 n = 1 := by
  have hN := hq.2.2.1
  have hT := hq.2.2.2.2.2.1
  have hi4 := hT.2.1 i hi i4
  by_cases l0 : lv f i = 0
  · have z : ∀ g, g < n → f 5 g = 4 → sm (evT f i g) 0 8 = 0 := fun g hg g4 => sm_zero 8 0 (fun e _ he => if_neg (fun q => by
      rcases ((hT.2.1 g hg g4).2.2 e (by omega)).1 with ⟨w, -⟩ | ⟨w, -⟩ | ⟨-, -, -, -, -, -, w7, -⟩
      · rw [q.1] at w; exact absurd w (by decide)
      · rw [q.1] at w; exact absurd w (by decide)
      · rw [q.2] at w7; omega))
    have hr := hi4.2.1.2.2.1 l0
    obtain ⟨o1, o2, o3⟩ := hi4.1
    have er : rt f (ow f i) = i := by unfold rt; rw [hr]; exact i_c (by omega)
    refine sm_one (k := ow f i) ?_ n 0 (Nat.zero_le _) (by omega) (fun g _ hg ne => ?_)
    · unfold gT
      rw [if_pos ⟨o3, er⟩, if_neg (fun q => by rw [o3] at q; exact absurd q (by decide))]
    · unfold gT
      have e2 : (if f 5 g = 4 then sm (evT f i g) 0 8 else 0) = 0 := by
        by_cases g4 : f 5 g = 4
        · rw [if_pos g4, z g (by omega) g4]
        · rw [if_neg g4]
      rw [e2, if_neg (fun q => ne ?_)]
      obtain ⟨a1, a2, a3, a4, a5⟩ := rt_eq hq (show g < n by omega) q.1
      rw [q.2, o2] at a4
      exact (nI_inj (by omega) (by omega) a4).symm
  · obtain ⟨p, e, p1, p2, p3, p4, p5, p6, p7, p8⟩ := hi4.2.1.2.2.2 (by omega)
    have etg : tg f (8 * p + e) = i := by unfold tg; rw [p7]; exact i_c (by omega)
    have nr : ∀ g, g < n → ¬ (f 5 g = 2 ∧ rt f g = i) := fun g hg q => by
      have := (rt_eq hq hg q.1).2.2.2.2
      rw [q.2] at this; exact l0 this
    refine sm_one (k := p) ?_ n 0 (Nat.zero_le _) (by omega) (fun g _ hg ne => ?_)
    · unfold gT
      rw [if_neg (nr p p1), if_pos p3, Nat.zero_add]
      refine sm_one (p := evT f i p) (k := e) (if_pos ⟨p6, etg⟩) 8 0 (Nat.zero_le _) (by omega) (fun e' _ he' ne => if_neg (fun q => ne ?_))
      exact (q_at hT p1 p1 p3 p3 (show e' < 8 by omega) p2 (Or.inl q.1) (Or.inl p6) (q.2.trans etg.symm)).2
    · unfold gT
      rw [if_neg (nr g (by omega)), Nat.zero_add]
      by_cases g4 : f 5 g = 4
      · rw [if_pos g4]
        exact sm_zero 8 0 (fun e' _ he' => if_neg (fun q => ne (q_at hT (show g < n by omega) p1 g4 p3 (show e' < 8 by omega) p2 (Or.inl q.1) (Or.inl p6) (q.2.trans etg.symm)).1))
      · rw [if_neg g4]
theorem P_one (hq : q_ref n f) {i : Nat} (hi : i < n) (i5 : f 5 i = 5) : sm (gP f i) 0 n = 1 := by
  have hN := hq.2.2.1
  have hT := hq.2.2.2.2.2.1
  obtain ⟨p, e, p1, p2, p3, p4, p5, p6, p7, p8⟩ := (hq.2.2.2.2.2.2.1 i hi i5).2
  have etg : tg f (8 * p + e) = i := by unfold tg; rw [p7]; exact i_c (by omega)
  have l3 : ∀ g e', g < n → f 5 g = 4 → e' < 8 → f 14 (8 * g + e') = 1 → lv f g = 3 := fun g e' hg g4 he' q => by
    rcases ((hT.2.1 g hg g4).2.2 e' he').1 with ⟨w, -⟩ | ⟨w, w2, -⟩ | ⟨w, -⟩
    · rw [q] at w; exact absurd w (by decide)
    · exact w2
    · rw [q] at w; exact absurd w (by decide)
  have pr : ∀ g e', g < n → f 5 g = 4 → e' < 8 → f 14 (8 * g + e') = 1 → bs f g + e' * spn (lv f g) < 2048 → bs f g + e' < 2048 := fun g e' hg g4 he' q w => by
    rw [l3 g e' hg g4 he' q, show spn 3 = 1 from rfl] at w; omega
  refine sm_one (k := p) ?_ n 0 (Nat.zero_le _) (by omega) (fun g _ hg ne => ?_)
  · unfold gP
    rw [if_pos p3]
    refine sm_one (p := evP f i p) (k := e) (if_pos ⟨p6, by rw [p5, show spn 3 = 1 from rfl]; omega, etg⟩) 8 0 (Nat.zero_le _) (by omega) (fun e' _ he' ne => if_neg (fun q => ne ?_))
    exact (q_at hT p1 p1 p3 p3 (show e' < 8 by omega) p2 (Or.inr ⟨q.1, pr p e' p1 p3 (by omega) q.1 q.2.1⟩) (Or.inr ⟨p6, p8⟩) (q.2.2.trans etg.symm)).2
  · unfold gP
    by_cases g4 : f 5 g = 4
    · rw [if_pos g4]
      exact sm_zero 8 0 (fun e' _ he' => if_neg (fun q => ne (q_at hT (show g < n by omega) p1 g4 p3 (show e' < 8 by omega) p2 (Or.inr ⟨q.1, pr g e' (by omega) g4 (by omega) q.1 q.2.1⟩) (Or.inr ⟨p6, p8⟩) (q.2.2.trans etg.symm)).1))
    · rw [if_neg g4]
theorem P_zero (hq : q_ref n f) {i : Nat} (i5 : ¬ f 5 i = 5) : sm (gP f i) 0 n = 0 := by
  have hT := hq.2.2.2.2.2.1
  refine sm_zero n 0 (fun g _ hg => ?_)
  unfold gP
  by_cases g4 : f 5 g = 4
  · rw [if_pos g4]
    refine sm_zero 8 0 (fun e _ he => if_neg (fun q => ?_))
    rcases ((hT.2.1 g (by omega) g4).2.2 e (by omega)).1 with ⟨w, -⟩ | ⟨w, w2, w3, w4, w5⟩ | ⟨w, -⟩
    · rw [q.1] at w; exact absurd w (by decide)
    · have q1 := q.2.1
      rw [w2, show spn 3 = 1 from rfl] at q1
      have := (w5 (by omega)).1
      rw [q.2.2] at this; exact i5 this
    · rw [q.1] at w; exact absurd w (by decide)
  · rw [if_neg g4]
/-- the heap with what has been counted so far -/
def CT (n : Nat) (M : mM) (A B : Nat → Nat) (N : mM) : Prop := ∃ c, N = mkU M c ∧ (∀ a k, ¬ (∃ i, i < n ∧ a = G_ i ∧ (k = 7 ∨ k = 8)) → c a k = h_i M a k) ∧ ∀ i, i < n → c (G_ i) 7 = nI (A i) ∧ c (G_ i) 8 = nI (B i)
theorem CT_s {A B : Nat → Nat} {N : mM} (h : CT n M A B N) : h_k N = h_k M ∧ h_l N = h_l M ∧ h_r N = h_r M ∧ h_n N = h_n M ∧ h_v N = h_v M := by
  obtain ⟨c, rfl, -⟩ := h
  exact ⟨rfl, rfl, rfl, rfl, rfl⟩
theorem CT_i {A B : Nat → Nat} {N : mM} (h : CT n M A B N) {a k : Nat} (hk : ¬ (k = 7 ∨ k = 8)) : h_i N a k = h_i M a k := by
  obtain ⟨c, rfl, h1, -⟩ := h
  exact h1 a k (fun ⟨i, _, _, q⟩ => hk q)
theorem CT_rel {A B : Nat → Nat} {N : mM} (hR : Rel n M f ρ τ κ) (h : CT n M A B N) : Rel n N f ρ τ κ := by
  obtain ⟨c, rfl, h1, -⟩ := h
  exact Rel_c hR (fun a k hs => h1 a k (fun q => hs (Or.inr q)))
theorem CT_T {A B : Nat → Nat} {N : mM} (h : CT n M A B N) {i : Nat} (hi : i < n) : CT n M (fun j => A j + if i = j then 1 else 0) B (h_si N (G_ i) 7 (h_i N (G_ i) 7 + 1)) := by
  obtain ⟨c, rfl, h1, h2⟩ := h
  refine ⟨f_s c (G_ i) 7 (c (G_ i) 7 + 1), rfl, fun a k q => ?_, fun j hj => ⟨?_, ?_⟩⟩
  · rw [f_s_ne (by by_cases e : a = G_ i ∧ k = 7; exact absurd ⟨i, hi, e.1, Or.inl e.2⟩ q; omega)]; exact h1 a k q
  · by_cases e : i = j
    · subst e
      show f_s c (G_ i) 7 (c (G_ i) 7 + 1) (G_ i) 7 = nI (A i + if i = i then 1 else 0)
      rw [f_s_eq, if_pos rfl, (h2 i hi).1, nI_1]
    · show f_s c (G_ i) 7 (c (G_ i) 7 + 1) (G_ j) 7 = nI (A j + if i = j then 1 else 0)
      rw [f_s_ne (by unfold G_; omega), if_neg e, Nat.add_zero]; exact (h2 j hj).1
  · rw [f_s_ne (by omega)]; exact (h2 j hj).2
theorem CT_P {A B : Nat → Nat} {N : mM} (h : CT n M A B N) {i : Nat} (hi : i < n) : CT n M A (fun j => B j + if i = j then 1 else 0) (h_si N (G_ i) 8 (h_i N (G_ i) 8 + 1)) := by
  obtain ⟨c, rfl, h1, h2⟩ := h
  refine ⟨f_s c (G_ i) 8 (c (G_ i) 8 + 1), rfl, fun a k q => ?_, fun j hj => ⟨?_, ?_⟩⟩
  · rw [f_s_ne (by by_cases e : a = G_ i ∧ k = 8; exact absurd ⟨i, hi, e.1, Or.inr e.2⟩ q; omega)]; exact h1 a k q
  · rw [f_s_ne (by omega)]; exact (h2 j hj).1
  · by_cases e : i = j
    · subst e
      show f_s c (G_ i) 8 (c (G_ i) 8 + 1) (G_ i) 8 = nI (B i + if i = i then 1 else 0)
      rw [f_s_eq, if_pos rfl, (h2 i hi).2, nI_1]
    · show f_s c (G_ i) 8 (c (G_ i) 8 + 1) (G_ j) 8 = nI (B j + if i = j then 1 else 0)
      rw [f_s_ne (by unfold G_; omega), if_neg e, Nat.add_zero]; exact (h2 j hj).2
theorem CT_e {A B A' B' : Nat → Nat} {N : mM} (h : CT n M A B N) (hA : ∀ j, A j = A' j) (hB : ∀ j, B j = B' j) : CT n M A' B' N := by
  have e1 : A = A' := funext hA
  have e2 : B = B' := funext hB
  rw [← e1, ← e2]; exact h
/-- a table's places -/
theorem C_cpT (h : Rel n M f ρ τ κ) {A B : Nat → Nat} {N : mM} (hC : CT n M A B N) {d : Nat} (hd : d < n) (d4 : f 5 d = 4) : ∃ N', ev 32 0 [some (.inr (τ d)), none, none, none, none, none] [] N = some (none, N') ∧ CT n M (fun j => A j + sm (evT f j d) 0 8) (fun j => B j + sm (evP f j d) 0 8) N' := by
  obtain ⟨z1, z2, z3, z4⟩ := h.2.2.2.2.2.2.2.1 d hd d4
  obtain ⟨x1, x2, x3, x4, x5, x6⟩ := (h.2.1 (τ d)).2.1 z1
  have hT := h.2.2.2.1.2.2.2.2.2.1
  have hN := h.2.2.2.1.2.2.1
  have key : ∀ (m k : Nat) (u w : Option mV) (A B : Nat → Nat) (N : mM), k + m = 8 → CT n M A B N → ∃ N', ev 32 8 [some (.inr (τ d)), some (.inr (τ d + 1)), some (.inl (nI 8)), some (.inl (nI k)), u, w] [] N = some (none, N') ∧ CT n M (fun j => A j + sm (evT f j d) k m) (fun j => B j + sm (evP f j d) k m) N' := by
    intro m
    induction m with
    | zero =>
      intro k u w A B N hk hC
      exact ⟨N, by rw [show k = 8 by omega, e_32_8, if_pos (by decide)], CT_e hC (fun j => rfl) (fun j => rfl)⟩
    | succ m ih =>
      intro k u w A B N hk hC
      have c1 := n_l (N := 8) (k := k) (nI 8) rfl (by omega) (by decide)
      obtain ⟨y1, y2, y3, y4, y5⟩ := z4 k (by omega)
      obtain ⟨w1, w2⟩ := x6 k (by omega)
      obtain ⟨s1, s2, s3, -, -⟩ := CT_s hC
      have i1 : h_i N (τ d + 2 + k) 1 = nI (bs f d + k * spn (lv f d)) := (CT_i hC (by omega)).trans y2
      have bb := (hT.2.1 d hd d4).2.1.2.1.2.1
      have sp := (spn_pos (lv f d)).2
      have bnd : bs f d + k * spn (lv f d) < 2 ^ 31 := by
        have : k * spn (lv f d) ≤ 8 * 512 := Nat.mul_le_mul (by omega) sp
        omega
      rcases ((hT.2.1 d hd d4).2.2 k (by omega)).1 with ⟨t1, -⟩ | ⟨t1, t2, t3, t4, -⟩ | ⟨t1, t2, t3, t4, -⟩
      · rw [if_pos t1] at y4
        obtain ⟨N', e1, e2⟩ := ih (k + 1) (some (.inr (τ d + 2 + k))) (some (.inr 0)) A B N (by omega) hC
        refine ⟨N', ?_, CT_e e2 (fun j => ?_) (fun j => ?_)⟩
        · rw [e_32_8, ← e1]
          simp only [c_I, c_R, c_V, if_true, if_false, true_and, and_true, true_or, or_true, List.length_nil, List.length_cons, Nat.zero_le, k_si, l_si, r_si, k_sr, l_sr, i_sr, n_si, ar_si, ar_sr, ar_0, e_32_30, e_32_42, c1, s1, s2, s3, x4, x5, i_t (show k < 8 by omega) (show 8 < 2 ^ 31 by decide), i_c (show k < 2 ^ 31 by omega), w1, w2, y4, nI_1]
        · show _ = A j + sm (evT f j d) k (m + 1)
          rw [sm, show evT f j d k = 0 from if_neg (fun q => by rw [t1] at q; exact absurd q.1 (by decide)), Nat.zero_add]
        · show _ = B j + sm (evP f j d) k (m + 1)
          rw [sm, show evP f j d k = 0 from if_neg (fun q => by rw [t1] at q; exact absurd q.1 (by decide)), Nat.zero_add]
      · rw [if_neg (by rw [t1]; decide)] at y4
        rw [if_neg (by rw [t1]; decide)] at y5
        have gk := (h.1.2.2.2.2.1 _ t3).2.1
        have eT : ∀ j, evT f j d k = 0 := fun j => if_neg (fun q => by rw [t1] at q; exact absurd q.1 (by decide))
        rcases Nat.lt_or_ge (bs f d + k * spn (lv f d)) 2048 with q | q
        · obtain ⟨N', e1, e2⟩ := ih (k + 1) (some (.inr (τ d + 2 + k))) (some (.inr (G_ (tg f (8 * d + k))))) A _ _ (by omega) (CT_P hC t3)
          refine ⟨N', ?_, CT_e e2 (fun j => ?_) (fun j => ?_)⟩
          · rw [e_32_8, ← e1]
            simp only [c_I, c_R, c_V, if_true, if_false, true_and, and_true, true_or, or_true, List.length_nil, List.length_cons, Nat.zero_le, k_si, l_si, r_si, k_sr, l_sr, i_sr, n_si, ar_si, ar_sr, ar_0, e_32_30, e_32_42, c1, s1, s2, s3, x4, x5, i_t (show k < 8 by omega) (show 8 < 2 ^ 31 by decide), i_c (show k < 2 ^ 31 by omega), w1, w2, y4, y5, G_ne, i1, C_isProt1 q, z10, gk, nI_1]
          · show _ = A j + sm (evT f j d) k (m + 1)
            rw [sm, eT j, Nat.zero_add]
          · show B j + (if tg f (8 * d + k) = j then 1 else 0) + sm (evP f j d) (k + 1) m = B j + sm (evP f j d) k (m + 1)
            rw [sm]
            have : evP f j d k = if tg f (8 * d + k) = j then 1 else 0 := by
              unfold evP
              by_cases e : tg f (8 * d + k) = j
              · rw [if_pos ⟨t1, q, e⟩, if_pos e]
              · rw [if_neg (fun w => e w.2.2), if_neg e]
            rw [this, Nat.add_assoc]
        · obtain ⟨N', e1, e2⟩ := ih (k + 1) (some (.inr (τ d + 2 + k))) (some (.inr (G_ (tg f (8 * d + k))))) A B N (by omega) hC
          refine ⟨N', ?_, CT_e e2 (fun j => ?_) (fun j => ?_)⟩
          · rw [e_32_8, ← e1]
            simp only [c_I, c_R, c_V, if_true, if_false, true_and, and_true, true_or, or_true, List.length_nil, List.length_cons, Nat.zero_le, k_si, l_si, r_si, k_sr, l_sr, i_sr, n_si, ar_si, ar_sr, ar_0, e_32_30, e_32_42, c1, s1, s2, s3, x4, x5, i_t (show k < 8 by omega) (show 8 < 2 ^ 31 by decide), i_c (show k < 2 ^ 31 by omega), w1, w2, y4, y5, G_ne, i1, C_isProt0 (Or.inr (nI_le (b := bs f d + k * spn (lv f d)) q bnd)), gk, nI_1]
          · show _ = A j + sm (evT f j d) k (m + 1)
            rw [sm, eT j, Nat.zero_add]
          · show _ = B j + sm (evP f j d) k (m + 1)
            rw [sm, show evP f j d k = 0 from if_neg (fun w => by omega), Nat.zero_add]
      · rw [if_neg (by rw [t1]; decide)] at y4
        rw [if_pos t1] at y5
        have gk := (h.1.2.2.2.2.1 _ t3).2.1
        have tn : ¬ τ (tg f (8 * d + k)) = 0 := by
          rcases ((hT.2.1 d hd d4).2.2 k (by omega)).1 with ⟨v, -⟩ | ⟨v, -⟩ | ⟨-, -, v3, -, v5, -⟩
          · rw [t1] at v; exact absurd v (by decide)
          · rw [t1] at v; exact absurd v (by decide)
          · exact τ_ne h v3 v5
        obtain ⟨N', e1, e2⟩ := ih (k + 1) (some (.inr (τ d + 2 + k))) (some (.inr (G_ (tg f (8 * d + k))))) _ B _ (by omega) (CT_T hC t3)
        refine ⟨N', ?_, CT_e e2 (fun j => ?_) (fun j => ?_)⟩
        · rw [e_32_8, ← e1]
          simp only [c_I, c_R, c_V, if_true, if_false, true_and, and_true, true_or, or_true, List.length_nil, List.length_cons, Nat.zero_le, k_si, l_si, r_si, k_sr, l_sr, i_sr, n_si, ar_si, ar_sr, ar_0, e_32_42, c1, s1, s2, s3, x4, x5, i_t (show k < 8 by omega) (show 8 < 2 ^ 31 by decide), i_c (show k < 2 ^ 31 by omega), w1, w2, y4, y5, G_ne, tn, gk, nI_1]
        · show A j + (if tg f (8 * d + k) = j then 1 else 0) + sm (evT f j d) (k + 1) m = A j + sm (evT f j d) k (m + 1)
          rw [sm]
          have : evT f j d k = if tg f (8 * d + k) = j then 1 else 0 := by
            unfold evT
            by_cases e : tg f (8 * d + k) = j
            · rw [if_pos ⟨t1, e⟩, if_pos e]
            · rw [if_neg (fun w => e w.2), if_neg e]
          rw [this, Nat.add_assoc]
        · show _ = B j + sm (evP f j d) k (m + 1)
          rw [sm, show evP f j d k = 0 from if_neg (fun w => by rw [t1] at w; exact absurd w.1 (by decide)), Nat.zero_add]
  obtain ⟨s1, s2, s3, -, -⟩ := CT_s hC
  obtain ⟨N', e1, e2⟩ := key 8 0 none none A B N rfl hC
  refine ⟨N', ?_, e2⟩
  rw [e_32_0, s1, s2, s3, if_pos z1, x3, x4, x5, if_pos (by decide)]
  exact e1
end E
