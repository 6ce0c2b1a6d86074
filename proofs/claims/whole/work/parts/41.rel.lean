/-! THE RELATION between the class's heap and the reference's rows -/
def G_ (i : Nat) : Nat := 11 + 2 * i
def Wd (i : Nat) : Nat := 12 + 2 * i
def rt (f : Nat → Nat → Int32) (i : Nat) : Nat := (f 9 i).toNatClampNeg
def cn (n : Nat) (f : Nat → Nat → Int32) (w : Int32) (i : Nat) : Nat := cnt (fun g => decide (f 5 g = w ∧ f 7 g = nI i)) 0 n
/-- the cells that are there from the start -/
def B_sh (n : Nat) (M : mM) : Prop := D_sh M ∧ (h_k M 4 = 7 ∧ h_r M 4 0 = 10 ∧ h_r M 4 1 = 5 ∧ h_r M 4 2 = 9) ∧ (h_k M 9 = 9 ∧ h_l M 9 = 8) ∧ (h_k M 10 = 11 ∧ h_l M 10 = n) ∧ (∀ i, i < n → h_r M 10 i = G_ i ∧ h_k M (G_ i) = 3 ∧ h_r M (G_ i) 1 = Wd i ∧ h_k M (Wd i) = 9 ∧ h_l M (Wd i) = 32) ∧ 10 + 2 * n ≤ h_n M ∧ (∀ a, h_n M < a → h_k M a = 0) ∧ h_k M 0 = 0
/-- the cells that come: a Realm, an Rtt, a Rec, each with its own rows behind it -/
def X_d (n : Nat) (M : mM) (a : Nat) : Prop := 10 + 2 * n < a ∧ a + 6 ≤ h_n M ∧ h_r M a 2 = a + 1 ∧ h_k M (a + 1) = 13 ∧ h_l M (a + 1) = 5 ∧ ∀ q, q < 5 → h_r M (a + 1) q = a + 2 + q ∧ h_k M (a + 2 + q) = 9 ∧ h_l M (a + 2 + q) = 8
def X_t (n : Nat) (M : mM) (a : Nat) : Prop := 10 + 2 * n < a ∧ a + 9 ≤ h_n M ∧ h_r M a 2 = a + 1 ∧ h_k M (a + 1) = 12 ∧ h_l M (a + 1) = 8 ∧ ∀ e, e < 8 → h_r M (a + 1) e = a + 2 + e ∧ h_k M (a + 2 + e) = 2
def X_c (n : Nat) (M : mM) (a : Nat) : Prop := 10 + 2 * n < a ∧ a + 1 ≤ h_n M ∧ h_r M a 3 = a + 1 ∧ h_k M (a + 1) = 9 ∧ h_l M (a + 1) = 8
def X_sh (n : Nat) (M : mM) : Prop := ∀ a, (h_k M a = 4 → X_d n M a) ∧ (h_k M a = 6 → X_t n M a) ∧ (h_k M a = 5 → X_c n M a)
/-- a granule -/
def z_g (M : mM) (f : Nat → Nat → Int32) (ρ τ κ : Nat → Nat) (i : Nat) : Prop := h_i M (G_ i) 0 = nI i ∧ h_i M (G_ i) 2 = f 5 i ∧ (∀ k, k < 32 → h_i M (Wd i) k = f 6 (32 * i + k)) ∧
  (((f 5 i = 0 ∨ f 5 i = 1) ∧ h_r M (G_ i) 3 = 0 ∧ h_i M (G_ i) 4 = -1 ∧ h_r M (G_ i) 5 = 0 ∧ h_r M (G_ i) 6 = 0) ∨
   (f 5 i = 2 ∧ h_r M (G_ i) 3 = ρ i ∧ h_i M (G_ i) 4 = -1 ∧ h_r M (G_ i) 5 = 0 ∧ h_r M (G_ i) 6 = 0) ∨
   (f 5 i = 3 ∧ h_r M (G_ i) 3 = ρ (ow f i) ∧ h_i M (G_ i) 4 = f 17 i ∧ h_r M (G_ i) 5 = κ i ∧ h_r M (G_ i) 6 = 0) ∨
   (f 5 i = 4 ∧ h_r M (G_ i) 3 = ρ (ow f i) ∧ h_i M (G_ i) 4 = f 12 i ∧ h_r M (G_ i) 5 = 0 ∧ h_r M (G_ i) 6 = τ i) ∨
   (f 5 i = 5 ∧ h_r M (G_ i) 3 = ρ (ow f i) ∧ h_i M (G_ i) 4 = f 27 i ∧ h_r M (G_ i) 5 = 0 ∧ h_r M (G_ i) 6 = 0))
/-- a realm -/
def z_d (n : Nat) (M : mM) (f : Nat → Nat → Int32) (ρ τ : Nat → Nat) (i : Nat) : Prop := h_k M (ρ i) = 4 ∧ h_r M (ρ i) 0 = G_ i ∧ h_r M (ρ i) 1 = τ (rt f i) ∧ h_i M (ρ i) 3 = f 8 i ∧ (f 8 i = 0 ∨ f 8 i = 1 ∨ f 8 i = 2) ∧ h_i M (ρ i) 4 = nI (cn n f 3 i) ∧ h_i M (ρ i) 5 = f 10 i ∧ h_i M (ρ i) 6 = nI (cn n f 4 i) ∧ h_i M (ρ i) 7 = nI (cn n f 5 i) ∧ ∀ q k, q < 5 → k < 8 → h_i M (ρ i + 2 + q) k = f 11 (40 * i + 8 * q + k)
/-- an entry of a table -/
def z_e (M : mM) (f : Nat → Nat → Int32) (τ : Nat → Nat) (i e : Nat) : Prop := h_i M (τ i + 2 + e) 0 = f 12 i ∧ h_i M (τ i + 2 + e) 1 = nI (bs f i + e * spn (lv f i)) ∧ h_i M (τ i + 2 + e) 2 = f 16 (8 * i + e) ∧ h_r M (τ i + 2 + e) 3 = (if f 14 (8 * i + e) = 0 then 0 else G_ (tg f (8 * i + e))) ∧ h_r M (τ i + 2 + e) 4 = (if f 14 (8 * i + e) = 2 then τ (tg f (8 * i + e)) else 0)
def z_t (M : mM) (f : Nat → Nat → Int32) (τ : Nat → Nat) (i : Nat) : Prop := h_k M (τ i) = 6 ∧ h_r M (τ i) 0 = G_ i ∧ h_i M (τ i) 1 = f 12 i ∧ ∀ e, e < 8 → z_e M f τ i e
/-- a context -/
def z_c (M : mM) (f : Nat → Nat → Int32) (ρ κ : Nat → Nat) (i : Nat) : Prop := h_k M (κ i) = 5 ∧ h_r M (κ i) 0 = G_ i ∧ h_r M (κ i) 1 = ρ (ow f i) ∧ h_i M (κ i) 2 = f 18 i ∧ (f 18 i = 0 ∨ f 18 i = 1) ∧ (∀ k, k < 8 → h_i M (κ i + 1) k = f 19 (8 * i + k)) ∧ h_i M (κ i) 4 = f 20 i ∧ (f 20 i = 0 ∨ f 20 i = 1 ∨ f 20 i = 2) ∧ (f 20 i = 1 → h_i M (κ i) 5 = f 21 i ∧ ∃ P, P < 2048 ∧ f 21 i = nI P) ∧ (f 20 i = 2 → h_i M (κ i) 6 = f 24 i ∧ h_i M (κ i) 7 = f 22 i ∧ h_i M (κ i) 8 = f 23 i ∧ ∃ a b, a ≤ b ∧ b ≤ 2048 ∧ f 24 i = nI a ∧ f 22 i = nI b ∧ (f 23 i = 0 ∨ f 23 i = 1)) ∧ h_i M (κ i) 10 = f 25 i
/-- the hall's own fields -/
def z_h (n : Nat) (M : mM) (f : Nat → Nat → Int32) (κ : Nat → Nat) : Prop := h_i M 4 4 = f 4 1 ∧ h_i M 4 5 = f 4 3 ∧ h_i M 4 6 = f 4 4 ∧ ((f 4 2 = -1 ∧ h_r M 4 3 = 0) ∨ ∃ r g, r < n ∧ g < n ∧ f 4 2 = nI r ∧ f 5 r = 3 ∧ h_r M 4 3 = κ r ∧ f 26 r = nI g ∧ h_r M (κ r) 9 = G_ g)
def q_T3 (n : Nat) (f : Nat → Nat → Int32) (i : Nat) : Prop := ∃ p e, p < n ∧ e < 8 ∧ f 5 p = 4 ∧ f 7 p = f 7 i ∧ lv f p = 3 ∧ f 14 (8 * p + e) = 1 ∧ f 15 (8 * p + e) = nI i ∧ bs f p + e < 2048
/-- the reference's own rows are in order -/
def q_ref (n : Nat) (f : Nat → Nat → Int32) : Prop := f 4 0 = nI n ∧ 16 ≤ n ∧ n ≤ 96 ∧ f 4 31 = 0 ∧ (∀ i, i < 64 → f 3 i = s_t3 i) ∧ q_tree n f ∧ (∀ i, i < n → f 5 i = 5 → q_own n f i ∧ q_T3 n f i) ∧ (∀ i, i < n → f 5 i = 3 → q_own n f i) ∧ (∀ i, i < n → f 5 i = 2 → f 7 i = nI i)
def q_st (M : mM) : Prop := (∀ i, i < 8 → h_i M 1 i = s_t1 i) ∧ ∀ i, i < 64 → h_i M 2 i = s_t2 i
def Rel (n : Nat) (M : mM) (f : Nat → Nat → Int32) (ρ τ κ : Nat → Nat) : Prop := B_sh n M ∧ X_sh n M ∧ q_st M ∧ q_ref n f ∧ z_h n M f κ ∧ (∀ i, i < n → z_g M f ρ τ κ i) ∧ (∀ i, i < n → f 5 i = 2 → z_d n M f ρ τ i) ∧ (∀ i, i < n → f 5 i = 4 → z_t M f τ i) ∧ ∀ i, i < n → f 5 i = 3 → z_c M f ρ κ i
theorem q_B {n : Nat} {f : Nat → Nat → Int32} (h : q_ref n f) : ∀ g, g < n → f 5 g = 4 → ∃ b, b < 4096 ∧ f 13 g = nI b := fun g hg h4 => ⟨bs f g, (h.2.2.2.2.2.1.2.1 g hg h4).2.1.2.1.2.1, (h.2.2.2.2.2.1.2.1 g hg h4).2.1.2.1.1⟩
/-! the class's walk -/
theorem C_shift {M : mM} {x : Int32} : ev 87 0 [some (.inl x)] [] M = some (some (.inl (3 * (3 - x))), M) := e_87_0 x M
theorem ix_eq {l P : Nat} (hl : l ≤ 3) (hP : P < 4096) : (nI P >>> ((3 * (3 - nI l)) &&& 31)) &&& 7 = nI (P / spn l % 8) := by
  rcases (show l = 0 ∨ l = 1 ∨ l = 2 ∨ l = 3 by omega) with rfl | rfl | rfl | rfl
  · rw [pk_shrN (by omega) _ 9 (by decide), pk_andN (by omega) 3 (by decide)]; rfl
  · rw [pk_shrN (by omega) _ 6 (by decide), pk_andN (by omega) 3 (by decide)]; rfl
  · rw [pk_shrN (by omega) _ 3 (by decide), pk_andN (by omega) 3 (by decide)]; rfl
  · rw [pk_shrN (by omega) _ 0 (by decide), pk_andN (by omega) 3 (by decide)]; rfl
theorem ix_cv {s b P : Nat} (hs : 0 < s) (hb : b % (8 * s) = 0) (h1 : b ≤ P) (h2 : P < b + 8 * s) : P / s % 8 = (P - b) / s := by
  obtain ⟨x, rfl⟩ := Nat.dvd_of_mod_eq_zero hb
  have h3 : (P - 8 * s * x) / s < 8 := (Nat.div_lt_iff_lt_mul hs).mpr (by omega)
  have h4 : P = (P - 8 * s * x) + s * (8 * x) := by
    have : 8 * s * x = s * (8 * x) := by rw [Nat.mul_comm 8 s, Nat.mul_assoc]
    omega
  have h5 : P / s = (P - 8 * s * x) / s + 8 * x := by
    conv => lhs; rw [h4]
    rw [Nat.add_mul_div_left _ _ hs]
  rw [h5, Nat.add_mul_mod_self_left, Nat.mod_eq_of_lt h3]
theorem C_entryOf {n : Nat} {M : mM} {f : Nat → Nat → Int32} {ρ τ κ : Nat → Nat} (h : Rel n M f ρ τ κ) {o P k g : Nat} (hc : cv n f o P k g) (hP : P < 4096) : ev 28 0 [some (.inr (τ g)), some (.inl (nI P))] [] M = some (some (.inr (τ g + 2 + (P - bs f g) / spn k)), M) := by
  obtain ⟨-, hX, -, hq, -, -, -, hzt, -⟩ := h
  have hi := cv_ix hc
  obtain ⟨c1, c2, c3, c4, c5, c6⟩ := hc
  have hT := hq.2.2.2.2.2.1.2.1 g c1 c2
  obtain ⟨z1, z2, z3, -⟩ := hzt g c1 c2
  obtain ⟨x1, x2, x3, x4, x5, x6⟩ := (hX (τ g)).2.1 z1
  have hl3 : k ≤ 3 := by rw [← c4]; exact hT.2.1.1.2
  have hlv : f 12 g = nI k := by rw [hT.2.1.1.1, c4]
  have hb := hT.2.1.2.1.2.2
  rw [c4] at hb
  have hix := ix_cv (spn_pos k).1 hb c5 c6
  have h8 : P / spn k % 8 < 8 := Nat.mod_lt _ (by decide)
  rw [e_28_0]
  simp only [z1, z3, hlv, C_shift, c_I, a_rec, x3, x4, x5, ix_eq hl3 hP, i_c (show P / spn k % 8 < 2 ^ 31 by omega), i_t h8 (by decide), (x6 _ h8).1, if_true, true_and, List.length_cons, List.length_nil, or_true, true_or]
  rw [← hix]
  rfl
/-- where the class's walk ends -/
theorem C_entryAt {n : Nat} {M : mM} {f : Nat → Nat → Int32} {ρ τ κ : Nat → Nat} (h : Rel n M f ρ τ κ) {o P L : Nat} (ho : o < n) (ho2 : f 5 o = 2) (hP : P < 4096) (hL : L ≤ 3) : ∃ m g, cv n f o P m g ∧ m ≤ L ∧ (m = L ∨ ¬ f 14 (8 * g + (P - bs f g) / spn m) = 2) ∧ ev 23 0 [some (.inr (ρ o)), some (.inl (nI P)), some (.inl (nI L)), none, none] [] M = some (some (.inr (τ g + 2 + (P - bs f g) / spn m)), M) := by
  obtain ⟨hB, hX, hst, hq, hh, hg, hzd, hzt, hzc⟩ := id h
  have hT := hq.2.2.2.2.2.1
  have key : ∀ (d m g : Nat), m + d = L → cv n f o P m g → ∃ m' g', cv n f o P m' g' ∧ m' ≤ L ∧ (m' = L ∨ ¬ f 14 (8 * g' + (P - bs f g') / spn m') = 2) ∧ ev 23 7 [some (.inr (ρ o)), some (.inl (nI P)), some (.inl (nI L)), some (.inr (τ g + 2 + (P - bs f g) / spn m)), some (.inl (nI m))] [] M = some (some (.inr (τ g' + 2 + (P - bs f g') / spn m')), M) := by
    intro d
    induction d with
    | zero =>
      intro m g h1 hc
      refine ⟨m, g, hc, by omega, Or.inl (by omega), ?_⟩
      rw [e_23_7, e_23_20, if_pos (nI_le (by omega) (by omega))]
    | succ d ih =>
      intro m g h1 hc
      have hi := cv_ix hc
      obtain ⟨z1, z2, z3, z4⟩ := hzt g hc.1 hc.2.1
      obtain ⟨x1, x2, x3, x4, x5, x6⟩ := (hX (τ g)).2.1 z1
      have hk2 := (x6 _ hi).2
      have h4 := (z4 _ hi).2.2.2.2
      have hlt := nI_ge (show m < L by omega) (show L < 2 ^ 31 by omega)
      by_cases hk : f 14 (8 * g + (P - bs f g) / spn m) = 2
      · obtain ⟨hc', e15, -⟩ := cv_dn hT hc hk
        rw [if_pos hk] at h4
        obtain ⟨m', g', r1, r2, r3, r4⟩ := ih (m + 1) _ (by omega) hc'
        refine ⟨m', g', r1, r2, r3, ?_⟩
        have hk6 := (hzt _ hc'.1 hc'.2.1).1
        have hne : ¬ τ (tg f (8 * g + (P - bs f g) / spn m)) = 0 := fun e0 => by
          have := ((hX _).2.1 hk6).1
          omega
        rw [e_23_7, e_23_20]
        simp only [hlt, hk2, h4, hne, if_false, if_true, a_rec1 (q := 5) hk6, true_and, List.length_nil, Nat.zero_le, C_entryOf h hc' hP, c_R, nI_1]
        exact r4
      · refine ⟨m, g, hc, by omega, Or.inr hk, ?_⟩
        rw [if_neg hk] at h4
        rw [e_23_7, e_23_20]
        simp only [hlt, hk2, h4, if_false, if_true]
  obtain ⟨t, hc, e9, -⟩ := cv_root hT ho ho2 hP
  obtain ⟨m, g, r1, r2, r3, r4⟩ := key L 0 t (by omega) hc
  refine ⟨m, g, r1, r2, r3, ?_⟩
  obtain ⟨d1, d2, d3, -⟩ := hzd o ho ho2
  have hrt : rt f o = t := by unfold rt; rw [e9]; exact i_c (by have := hc.1; have := hq.2.2.1; omega)
  rw [hrt] at d3
  have hk6 := (hzt t hc.1 hc.2.1).1
  rw [e_23_0]
  simp only [d1, d3, a_rec1 (q := 5) hk6, if_true, true_and, List.length_nil, Nat.zero_le, C_entryOf h hc hP, c_R]
  exact r4
