/-! the class's constructor -/
def dM1 : mM := h_al M_0 7 7
def dM2 : mM := h_al dM1 1 4
def dM3 : mM := h_sr (h_al dM2 9 48) 5 0 6
def dM4 : mM := h_sr (h_al dM3 9 64) 5 1 7
def dM5 : mM := h_sr (h_al dM4 9 8) 5 2 8
def dM6 : mM := h_sr dM5 4 1 5
def dM7 : mM := h_sr (h_al dM6 9 8) 4 2 9
def dM8 (n : Nat) : mM := h_sr (h_al dM7 11 n) 4 0 10
theorem dn1 : h_n dM1 = 4 := rfl
theorem dn2 : h_n dM2 = 5 := rfl
theorem dn3 : h_n dM3 = 6 := rfl
theorem dn4 : h_n dM4 = 7 := rfl
theorem dn5 : h_n dM5 = 8 := rfl
theorem dn6 : h_n dM6 = 8 := rfl
theorem dn7 : h_n dM7 = 9 := rfl
theorem dn8 (n : Nat) : h_n (dM8 n) = 10 := rfl
theorem dk1 (x : Nat) : h_k dM1 x = if x = 4 then 7 else if x = 0 then 0 else if x ≤ 3 then 14 else 0 := rfl
theorem dk2 (x : Nat) : h_k dM2 x = if x = 5 then 1 else h_k dM1 x := rfl
theorem dk3 (x : Nat) : h_k dM3 x = if x = 6 then 9 else h_k dM2 x := rfl
theorem dk4 (x : Nat) : h_k dM4 x = if x = 7 then 9 else h_k dM3 x := rfl
theorem dk5 (x : Nat) : h_k dM5 x = if x = 8 then 9 else h_k dM4 x := rfl
theorem dk6 (x : Nat) : h_k dM6 x = h_k dM5 x := by unfold dM6; rw [K_sr]
theorem dk7 (x : Nat) : h_k dM7 x = if x = 9 then 9 else h_k dM6 x := rfl
theorem dk8 (n x : Nat) : h_k (dM8 n) x = if x = 10 then 11 else h_k dM7 x := rfl
theorem dkk (n x : Nat) : h_k (dM8 n) x = if x = 10 then 11 else if x = 9 then 9 else if x = 8 then 9 else if x = 7 then 9 else if x = 6 then 9 else if x = 5 then 1 else if x = 4 then 7 else if x = 0 then 0 else if x ≤ 3 then 14 else 0 := by rw [dk8, dk7, dk6, dk5, dk4, dk3, dk2, dk1]
theorem di1 (x j : Nat) : h_i dM1 x j = if x = 4 then 0 else c_st x j := rfl
theorem di2 (x j : Nat) : h_i dM2 x j = if x = 5 then 0 else h_i dM1 x j := rfl
theorem di3 (x j : Nat) : h_i dM3 x j = if x = 6 then 0 else h_i dM2 x j := rfl
theorem di4 (x j : Nat) : h_i dM4 x j = if x = 7 then 0 else h_i dM3 x j := rfl
theorem di5 (x j : Nat) : h_i dM5 x j = if x = 8 then 0 else h_i dM4 x j := rfl
theorem di6 (x j : Nat) : h_i dM6 x j = h_i dM5 x j := by unfold dM6; rw [I_sr]
theorem di7 (x j : Nat) : h_i dM7 x j = if x = 9 then 0 else h_i dM6 x j := rfl
theorem di8 (n x j : Nat) : h_i (dM8 n) x j = if x = 10 then 0 else h_i dM7 x j := rfl
/-- k granules are there -/
def gI (n k : Nat) (N : mM) : Prop := h_n N = 10 + 2 * k ∧ h_v N = 139 + n + 41 * k ∧ (∀ x, x ≤ 10 → h_k N x = h_k (dM8 n) x ∧ h_l N x = h_l (dM8 n) x ∧ (∀ j, h_i N x j = h_i (dM8 n) x j) ∧ (x ≠ 10 → ∀ j, h_r N x j = h_r (dM8 n) x j)) ∧ (∀ i, h_r N 10 i = if i < k then G_ i else 0) ∧ (∀ x, 10 + 2 * k < x → h_k N x = 0) ∧ ∀ i, i < k → h_k N (G_ i) = 3 ∧ h_r N (G_ i) 1 = Wd i ∧ h_k N (Wd i) = 9 ∧ h_l N (Wd i) = 32 ∧ h_i N (G_ i) 0 = nI i ∧ h_i N (G_ i) 2 = 0 ∧ h_i N (G_ i) 4 = -1 ∧ h_r N (G_ i) 3 = 0 ∧ h_r N (G_ i) 5 = 0 ∧ h_r N (G_ i) 6 = 0 ∧ ∀ j, h_i N (Wd i) j = 0
def ng (N : mM) (k : Nat) : mM := h_sr (h_si (h_si (h_sr (h_al (h_al N 3 9) 9 32) (h_n N + 1) 1 (h_n N + 2)) (h_n N + 1) 4 (-1)) (h_n N + 1) 0 (nI k)) 10 k (h_n N + 1)
theorem ng_n (N : mM) (k : Nat) : h_n (ng N k) = h_n N + 2 := rfl
theorem ng_v (N : mM) (k : Nat) : h_v (ng N k) = h_v N + 9 + 32 := rfl
theorem ng_k (N : mM) (k x : Nat) : h_k (ng N k) x = if x = h_n N + 2 then 9 else if x = h_n N + 1 then 3 else h_k N x := rfl
theorem ng_l (N : mM) (k x : Nat) : h_l (ng N k) x = if x = h_n N + 2 then 32 else if x = h_n N + 1 then 9 else h_l N x := rfl
theorem ng_i (N : mM) (k x j : Nat) : h_i (ng N k) x j = if x = h_n N + 1 ∧ j = 0 then nI k else if x = h_n N + 1 ∧ j = 4 then -1 else if x = h_n N + 2 then 0 else if x = h_n N + 1 then 0 else h_i N x j := rfl
theorem ng_r (N : mM) (k x j : Nat) : h_r (ng N k) x j = if x = 10 ∧ j = k then h_n N + 1 else if x = h_n N + 1 ∧ j = 1 then h_n N + 2 else if x = h_n N + 2 then 0 else if x = h_n N + 1 then 0 else h_r N x j := rfl
theorem gI_step {n k : Nat} {N : mM} (h : gI n k N) : gI n (k + 1) (ng N k) := by
  obtain ⟨a1, a2, a3, a4, a5, a6⟩ := h
  have eG : h_n N + 1 = G_ k := by unfold G_; omega
  have eW : h_n N + 2 = Wd k := by unfold Wd; omega
  refine ⟨by rw [ng_n]; omega, by rw [ng_v]; omega, fun x hx => ⟨?_, ?_, fun j => ?_, fun h10 j => ?_⟩, fun i => ?_, fun x hx => ?_, fun i hi => ?_⟩
  · rw [ng_k, if_neg (by omega), if_neg (by omega)]; exact (a3 x hx).1
  · rw [ng_l, if_neg (by omega), if_neg (by omega)]; exact (a3 x hx).2.1
  · rw [ng_i, if_neg (by omega), if_neg (by omega), if_neg (by omega), if_neg (by omega)]; exact (a3 x hx).2.2.1 j
  · rw [ng_r, if_neg (by omega), if_neg (by omega), if_neg (by omega), if_neg (by omega)]; exact (a3 x hx).2.2.2 h10 j
  · rw [ng_r]
    by_cases q : i = k
    · subst q; rw [if_pos ⟨rfl, rfl⟩, if_pos (by omega), eG]
    · rw [if_neg (by omega), if_neg (by omega), if_neg (by omega), if_neg (by omega), a4]
      by_cases q2 : i < k
      · rw [if_pos q2, if_pos (by omega)]
      · rw [if_neg q2, if_neg (by omega)]
  · rw [ng_k, if_neg (by omega), if_neg (by omega)]; exact a5 x (by omega)
  · by_cases q : i = k
    · subst q
      have g2 : G_ i ≠ Wd i := by unfold G_ Wd; omega
      have g10 : G_ i ≠ 10 ∧ Wd i ≠ 10 := by unfold G_ Wd; omega
      rw [← eG, ← eW]
      refine ⟨?_, ?_, ?_, ?_, ?_, ?_, ?_, ?_, ?_, ?_, fun j => ?_⟩
      · rw [ng_k, if_neg (by omega), if_pos rfl]
      · rw [ng_r, if_neg (by omega), if_pos ⟨rfl, rfl⟩]
      · rw [ng_k, if_pos rfl]
      · rw [ng_l, if_pos rfl]
      · rw [ng_i, if_pos ⟨rfl, rfl⟩]
      · rw [ng_i, if_neg (by omega), if_neg (by omega), if_neg (by omega), if_pos rfl]
      · rw [ng_i, if_neg (by omega), if_pos ⟨rfl, rfl⟩]
      · rw [ng_r, if_neg (by omega), if_neg (by omega), if_neg (by omega), if_pos rfl]
      · rw [ng_r, if_neg (by omega), if_neg (by omega), if_neg (by omega), if_pos rfl]
      · rw [ng_r, if_neg (by omega), if_neg (by omega), if_neg (by omega), if_pos rfl]
      · rw [ng_i, if_neg (by omega), if_neg (by omega), if_pos rfl]
    · obtain ⟨b1, b2, b3, b4, b5, b6, b7, b8, b9, b10, b11⟩ := a6 i (by omega)
      have gb : (G_ i ≠ h_n N + 1 ∧ G_ i ≠ h_n N + 2 ∧ G_ i ≠ 10) ∧ Wd i ≠ h_n N + 1 ∧ Wd i ≠ h_n N + 2 ∧ Wd i ≠ 10 := by unfold G_ Wd; omega
      refine ⟨?_, ?_, ?_, ?_, ?_, ?_, ?_, ?_, ?_, ?_, fun j => ?_⟩
      · rw [ng_k, if_neg (by omega), if_neg (by omega)]; exact b1
      · rw [ng_r, if_neg (by omega), if_neg (by omega), if_neg (by omega), if_neg (by omega)]; exact b2
      · rw [ng_k, if_neg (by omega), if_neg (by omega)]; exact b3
      · rw [ng_l, if_neg (by omega), if_neg (by omega)]; exact b4
      · rw [ng_i, if_neg (by omega), if_neg (by omega), if_neg (by omega), if_neg (by omega)]; exact b5
      · rw [ng_i, if_neg (by omega), if_neg (by omega), if_neg (by omega), if_neg (by omega)]; exact b6
      · rw [ng_i, if_neg (by omega), if_neg (by omega), if_neg (by omega), if_neg (by omega)]; exact b7
      · rw [ng_r, if_neg (by omega), if_neg (by omega), if_neg (by omega), if_neg (by omega)]; exact b8
      · rw [ng_r, if_neg (by omega), if_neg (by omega), if_neg (by omega), if_neg (by omega)]; exact b9
      · rw [ng_r, if_neg (by omega), if_neg (by omega), if_neg (by omega), if_neg (by omega)]; exact b10
      · rw [ng_i, if_neg (by omega), if_neg (by omega), if_neg (by omega), if_neg (by omega)]; exact b11 j
theorem gI_0 (n : Nat) : gI n 0 (dM8 n) := by
  refine ⟨rfl, ?_, fun x _ => ⟨rfl, rfl, fun _ => rfl, fun _ _ => rfl⟩, fun i => ?_, fun x hx => ?_, fun i hi => absurd hi (Nat.not_lt_zero _)⟩
  · show 7 + 4 + 48 + 64 + 8 + 8 + n = _; omega
  · rw [if_neg (Nat.not_lt_zero _)]; rfl
  · rw [dkk, if_neg (by omega), if_neg (by omega), if_neg (by omega), if_neg (by omega), if_neg (by omega), if_neg (by omega), if_neg (by omega), if_neg (by omega), if_neg (by omega)]
theorem C_gr {N : mM} {k : Nat} : ev 16 0 [some (.inr (h_n N + 1)), some (.inl (nI k))] [] (h_al N 3 9) = some (none, h_si (h_si (h_sr (h_al (h_al N 3 9) 9 32) (h_n N + 1) 1 (h_n N + 2)) (h_n N + 1) 4 (-1)) (h_n N + 1) 0 (nI k)) := by
  have k0 : h_k (h_al (h_al N 3 9) 9 32) (h_n N + 1) = 3 := by rw [A_k, A_n, if_neg (by omega), A_k, if_pos rfl]
  rw [e_16_0]
  simp only [c_I, c_R, c_V, if_true, if_false, true_and, and_true, true_or, or_true, List.length_nil, List.length_cons, Nat.zero_le, k_si, l_si, r_si, k_sr, l_sr, i_sr, n_si, ar_si, ar_sr, ar_0, k0, A_n, Nat.succ_ne_zero, not_false_eq_true, show ((32 : Int32) < 0) = False from eq_false (by decide), show (32 ≤ 100000) = True from eq_true (by decide)]
theorem C_initL (n : Nat) (hn : n ≤ 96) (x y : Int32) : ∀ (d k : Nat) (N : mM), k + d = n → gI n k N → ∃ N', ev 33 33 [some (.inr 4), some (.inl x), some (.inl y), some (.inl (nI n)), some (.inl (nI k))] [] N = some (none, N') ∧ gI n n N' := by
  intro d
  induction d with
  | zero =>
    intro k N hk hI
    have : k = n := by omega
    subst this
    exact ⟨N, by rw [e_33_33, if_pos (nI_le (Nat.le_refl _) (by omega))], hI⟩
  | succ d ih =>
    intro k N hk hI
    obtain ⟨N', e1, e2⟩ := ih (k + 1) _ (by omega) (gI_step hI)
    refine ⟨N', ?_, e2⟩
    obtain ⟨a1, a2, a3, a4, a5, a6⟩ := hI
    have c1 := nI_ge (show k < n by omega) (show n < 2 ^ 31 by omega)
    have k4 : h_k N 4 = 7 := (a3 4 (by omega)).1.trans (by rw [dkk]; rfl)
    have r4 : h_r N 4 0 = 10 := (a3 4 (by omega)).2.2.2 (by decide) 0
    have k10 : h_k (h_si (h_si (h_sr (h_al (h_al N 3 9) 9 32) (h_n N + 1) 1 (h_n N + 2)) (h_n N + 1) 4 (-1)) (h_n N + 1) 0 (nI k)) 10 = 11 := by
      rw [k_si, k_si, k_sr, A_k, A_n, if_neg (by omega), A_k, if_neg (by omega)]; exact (a3 10 (by omega)).1.trans (by rw [dkk]; rfl)
    have l10 : h_l (h_si (h_si (h_sr (h_al (h_al N 3 9) 9 32) (h_n N + 1) 1 (h_n N + 2)) (h_n N + 1) 4 (-1)) (h_n N + 1) 0 (nI k)) 10 = n := by
      rw [l_si, l_si, l_sr, A_l, A_n, if_neg (by omega), A_l, if_neg (by omega)]; exact (a3 10 (by omega)).2.1.trans (by unfold dM8; rw [l_sr, A_l, dn7, if_pos rfl])
    have kG : h_k (h_si (h_si (h_sr (h_al (h_al N 3 9) 9 32) (h_n N + 1) 1 (h_n N + 2)) (h_n N + 1) 4 (-1)) (h_n N + 1) 0 (nI k)) (h_n N + 1) = 3 := by
      rw [k_si, k_si, k_sr, A_k, A_n, if_neg (by omega), A_k, if_pos rfl]
    have r3 : ∀ as, a_rec (h_al N 3 9) 3 (.inr (h_n N + 1) :: as) = true := fun as => rc3 (by rw [A_k, if_pos rfl]) as
    unfold ng at e1
    rw [e_33_33]
    simp only [c1, if_false, k4, if_true, r3, true_and, List.length_nil, Nat.zero_le, C_gr, c_V, r4, k10, kG, l10, i_c (show k < 2 ^ 31 by omega), and_self, true_or, or_true, i_t (show k < n by omega) (show n < 2 ^ 31 by omega), nI_1]
    exact e1
theorem C_init (x : Int32) : ∃ N, ev 33 0 [some (.inr 4), some (.inl x), none, none, none] [] dM1 = some (none, N) ∧ gI (n_of x) (n_of x) N := by
  obtain ⟨n16, n96, h⟩ := n_eq x
  have l8 : ((8 : Int32) < 0) = False := eq_false (by decide)
  have l48 : ((48 : Int32) < 0) = False := eq_false (by decide)
  have l64 : ((64 : Int32) < 0) = False := eq_false (by decide)
  have z4 : ((4 : Nat) = 0) = False := eq_false (by decide)
  have z5 : ((5 : Nat) = 0) = False := eq_false (by decide)
  have u2 : h_al dM1 1 4 = dM2 := rfl
  have u3 : h_sr (h_al dM2 9 48) 5 0 6 = dM3 := rfl
  have u4 : h_sr (h_al dM3 9 64) 5 1 7 = dM4 := rfl
  have u5 : h_sr (h_al dM4 9 8) 5 2 8 = dM5 := rfl
  have u6 : h_sr dM5 4 1 5 = dM6 := rfl
  have u7 : h_sr (h_al dM6 9 8) 4 2 9 = dM7 := rfl
  have q1 : h_k (h_al dM2 9 48) 5 = 1 := by rw [A_k, dn2, dk2]; rfl
  have q2 : h_k (h_al dM3 9 64) 5 = 1 := by rw [A_k, dn3, dk3, dk2]; rfl
  have q3 : h_k (h_al dM4 9 8) 5 = 1 := by rw [A_k, dn4, dk4, dk3, dk2]; rfl
  have q4 : h_k dM5 4 = 7 := by rw [dk5, dk4, dk3, dk2, dk1]; rfl
  have q5 : h_k (h_al dM6 9 8) 4 = 7 := by rw [A_k, dn6, dk6, dk5, dk4, dk3, dk2, dk1]; rfl
  have c0 : ev 0 0 [some (.inr 5)] [] dM2 = some (none, dM5) := by
    rw [e_0_0]
    simp only [z5, not_false_eq_true, true_and, List.length_nil, Nat.zero_le, if_true, l48, l64, l8, Nat.reduceLeDiff, q1, dn2, Nat.reduceAdd, u3, q2, dn3, u4, q3, dn4, u5]
  have r1 : ∀ as, a_rec dM2 1 (.inr 5 :: as) = true := fun as => rc1 (show h_k dM2 5 = 1 by rw [dk2]; rfl) as
  have fin : ∀ s : Int32, ev 33 26 [some (.inr 4), some (.inl x), some (.inl s), none, none] [.inl (nI (n_of x))] dM7 = ev 33 33 [some (.inr 4), some (.inl x), some (.inl s), some (.inl (nI (n_of x))), some (.inl 0)] [] (dM8 (n_of x)) := fun s => by
    have k0 : h_k (h_al dM7 11 (n_of x)) 4 = 7 := by rw [A_k, dn7, dk7, dk6, dk5, dk4, dk3, dk2, dk1]; rfl
    have p0 : (nI (n_of x) < 0) = False := eq_false (nI_pos (by omega))
    have p1 : (n_of x ≤ 100000) = True := eq_true (by omega)
    rw [e_33_26]
    simp only [p0, not_false_eq_true, true_and, i_c (show n_of x < 2 ^ 31 by omega), p1, if_true, k0, dn7, Nat.reduceAdd]
    rfl
  have loop : ∀ s : Int32, ∃ N, ev 33 33 [some (.inr 4), some (.inl x), some (.inl s), some (.inl (nI (n_of x))), some (.inl 0)] [] (dM8 (n_of x)) = some (none, N) ∧ gI (n_of x) (n_of x) N := fun s => C_initL (n_of x) n96 x s (n_of x) 0 _ (by omega) (gI_0 _)
  have start : ev 33 0 [some (.inr 4), some (.inl x), none, none, none] [] dM1 = if x < 16 then ev 33 19 [some (.inr 4), some (.inl x), none, none, none] [] dM7 else if (96 : Int32) < x then ev 33 19 [some (.inr 4), some (.inl x), none, none, none] [] dM7 else ev 33 20 [some (.inr 4), some (.inl x), none, none, none] [.inl 1] dM7 := by
    rw [e_33_0]
    simp only [z4, not_false_eq_true, true_and, List.length_nil, Nat.zero_le, if_true, dn1, Nat.reduceAdd, u2, r1, c0, c_V, q4, l8, List.length_cons, Nat.reduceLeDiff, u6, q5, dn6, u7]
  have z32 : (32 : Int32) = nI 32 := rfl
  rcases h with ⟨h1, e⟩ | ⟨h1, h2, h3, e⟩ | ⟨h1, h2, h3, e⟩
  · obtain ⟨N, a, b⟩ := loop 0
    refine ⟨N, ?_, b⟩
    rw [start, if_pos h1, e_33_19, e_33_20, if_pos rfl, z32, ← a, ← fin 0, e]
  · obtain ⟨N, a, b⟩ := loop 0
    refine ⟨N, ?_, b⟩
    rw [start, if_neg h1, if_pos h2, e_33_19, e_33_20, if_pos rfl, z32, ← a, ← fin 0, e]
  · obtain ⟨N, a, b⟩ := loop 1
    refine ⟨N, ?_, b⟩
    rw [start, if_neg h1, if_neg h2, e_33_20, if_neg (by decide), ← a, ← fin 1, ← e]
theorem f0z {n b j : Nat} (h : 5 ≤ b) : f_0 n b j = 0 := by unfold f_0; rw [f_s_ne (by omega)]; exact g_0z b j h
theorem Rel_0 {n : Nat} {N : mM} (h16 : 16 ≤ n) (h96 : n ≤ 96) (h : gI n n N) : Rel n N (f_0 n) (fun _ => 0) (fun _ => 0) (fun _ => 0) := by
  obtain ⟨a1, a2, a3, a4, a5, a6⟩ := h
  have K : ∀ x, x ≤ 10 → h_k N x = h_k (dM8 n) x := fun x hx => (a3 x hx).1
  have f5 : ∀ i, f_0 n 5 i = 0 := fun i => f0z (by decide)
  have no : ∀ i (w : Int32), f_0 n 5 i = w → w = 0 := fun i w e => by rw [f5] at e; exact e.symm
  refine ⟨⟨⟨(K 5 (by omega)).trans rfl, (a3 5 (by omega)).2.2.2 (by decide) 0, (a3 5 (by omega)).2.2.2 (by decide) 1, (a3 5 (by omega)).2.2.2 (by decide) 2, ⟨(K 6 (by omega)).trans rfl, (a3 6 (by omega)).2.1⟩, ⟨(K 7 (by omega)).trans rfl, (a3 7 (by omega)).2.1⟩, ⟨(K 8 (by omega)).trans rfl, (a3 8 (by omega)).2.1⟩, ⟨(K 1 (by omega)).trans rfl, (a3 1 (by omega)).2.1⟩, (K 2 (by omega)).trans rfl, (a3 2 (by omega)).2.1⟩, ⟨(K 4 (by omega)).trans rfl, (a3 4 (by omega)).2.2.2 (by decide) 0, (a3 4 (by omega)).2.2.2 (by decide) 1, (a3 4 (by omega)).2.2.2 (by decide) 2⟩, ⟨(K 9 (by omega)).trans rfl, (a3 9 (by omega)).2.1⟩, ⟨(K 10 (by omega)).trans rfl, (a3 10 (by omega)).2.1⟩, fun i hi => ?_, by omega, fun x hx => a5 x (by omega), (K 0 (by omega)).trans rfl⟩, fun a => ?_, ⟨fun i hi => (a3 1 (by omega)).2.2.1 i, fun i hi => (a3 2 (by omega)).2.2.1 i⟩, ⟨f_s_eq, h16, h96, ?_, fun i hi => ?_, ⟨h96, fun g _ e => absurd (no g 4 e) (by decide), fun o _ e => absurd (no o 2 e) (by decide)⟩, fun i _ e => absurd (no i 5 e) (by decide), fun i _ e => absurd (no i 3 e) (by decide), fun i _ e => absurd (no i 2 e) (by decide)⟩, ⟨?_, ?_, ?_, Or.inl ⟨?_, (a3 4 (by omega)).2.2.2 (by decide) 3⟩⟩, fun i hi => ?_, fun i _ e => absurd (no i 2 e) (by decide), fun i _ e => absurd (no i 4 e) (by decide), fun i _ e => absurd (no i 3 e) (by decide)⟩
  · obtain ⟨b1, b2, b3, b4, -⟩ := a6 i hi
    exact ⟨by rw [a4, if_pos hi], b1, b2, b3, b4⟩
  · have kk : h_k N a = 0 ∨ h_k N a = 14 ∨ h_k N a = 7 ∨ h_k N a = 1 ∨ h_k N a = 9 ∨ h_k N a = 11 ∨ h_k N a = 3 := by
      rcases Nat.lt_or_ge 10 a with q | q
      · rcases Nat.lt_or_ge (10 + 2 * n) a with q2 | q2
        · rw [a5 a q2]; simp
        · rcases (show (∃ i, i < n ∧ a = G_ i) ∨ ∃ i, i < n ∧ a = Wd i from by
            rcases (show (a - 11) % 2 = 0 ∨ (a - 11) % 2 = 1 by omega) with q3 | q3
            · exact Or.inl ⟨(a - 11) / 2, by omega, by unfold G_; omega⟩
            · exact Or.inr ⟨(a - 11) / 2, by omega, by unfold Wd; omega⟩) with ⟨i, hi, rfl⟩ | ⟨i, hi, rfl⟩
          · rw [(a6 i hi).1]; simp
          · rw [(a6 i hi).2.2.1]; simp
      · rw [K a q]
        rcases (show a = 0 ∨ a = 1 ∨ a = 2 ∨ a = 3 ∨ a = 4 ∨ a = 5 ∨ a = 6 ∨ a = 7 ∨ a = 8 ∨ a = 9 ∨ a = 10 by omega) with rfl | rfl | rfl | rfl | rfl | rfl | rfl | rfl | rfl | rfl | rfl <;> (rw [dkk]; decide)
    exact ⟨fun q => by omega, fun q => by omega, fun q => by omega⟩
  · unfold f_0 g_0 c_st; rw [f_s_ne (by decide), f_s_ne (by decide)]; rfl
  · unfold f_0 g_0; rw [f_s_ne (by omega), f_s_ne (by omega)]; rfl
  · rw [(a3 4 (by omega)).2.2.1]; unfold f_0 g_0; rw [f_s_ne (by decide), f_s_ne (by decide)]; rfl
  · rw [(a3 4 (by omega)).2.2.1]; unfold f_0 g_0; rw [f_s_ne (by decide), f_s_ne (by decide)]; rfl
  · rw [(a3 4 (by omega)).2.2.1]; unfold f_0 g_0; rw [f_s_ne (by decide), f_s_ne (by decide)]; rfl
  · unfold f_0 g_0; rw [f_s_ne (by decide), f_s_eq]
  · obtain ⟨b1, b2, b3, b4, b5, b6, b7, b8, b9, b10, b11⟩ := a6 i hi
    exact ⟨b5, by rw [f5]; exact b6, fun k _ => by rw [b11, f0z (by decide)], Or.inl ⟨Or.inl (f5 i), b8, b7, b9, b10⟩⟩
