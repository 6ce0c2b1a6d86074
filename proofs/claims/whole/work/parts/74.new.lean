/-! new cells -/
section E
variable {n : Nat} {M M' : mM} {f : Nat → Nat → Int32} {ρ τ κ : Nat → Nat}
theorem BX_al (hB : B_sh n M) (hX : X_sh n M) (hn : h_n M ≤ h_n M') (hk : ∀ x, x ≤ h_n M → h_k M' x = h_k M x) (hl : ∀ x, x ≤ h_n M → h_l M' x = h_l M x) (h0 : ∀ x, h_n M' < x → h_k M' x = 0) (hR : ∀ x k, x ≤ h_n M → ¬ (x = 4 ∧ k = 3) → ¬ (h_k M x = 3 ∧ k ≠ 1) → ¬ h_k M x = 2 → h_r M' x k = h_r M x k) (hnew : ∀ a, h_n M < a → a ≤ h_n M' → (h_k M' a = 4 → X_d n M' a) ∧ (h_k M' a = 6 → X_t n M' a) ∧ (h_k M' a = 5 → X_c n M' a)) : B_sh n M' ∧ X_sh n M' := by
  have kp : ∀ x k, x ≤ h_n M → ¬ (x = 4 ∧ k = 3) → h_k M x ≠ 3 → h_k M x ≠ 2 → h_r M' x k = h_r M x k := fun x k h5 h1 h2 h3 => hR x k h5 h1 (fun q => h2 q.1) h3
  have hnn := hB.2.2.2.2.2.1
  have z9 := hB.2.2.2.2.2.2.1
  have le : ∀ a, h_k M' a ≠ 0 → a ≤ h_n M' := fun a h => Nat.le_of_not_lt (fun q => h (h0 a q))
  refine ⟨?_, fun a => ?_⟩
  · obtain ⟨⟨b1, b2, b3, b4, ⟨b5, b6⟩, ⟨b7, b8⟩, ⟨b9, b10⟩, ⟨b11, b12⟩, b13, b14⟩, ⟨c1, c2, c3, c4⟩, ⟨c5, c5'⟩, ⟨c6, c6'⟩, c7, c8, c9, c10⟩ := hB
    refine ⟨⟨by rw [hk 5 (by omega)]; exact b1, (kp 5 0 (by omega) (by omega) (by omega) (by omega)).trans b2, (kp 5 1 (by omega) (by omega) (by omega) (by omega)).trans b3, (kp 5 2 (by omega) (by omega) (by omega) (by omega)).trans b4, ⟨by rw [hk 6 (by omega)]; exact b5, by rw [hl 6 (by omega)]; exact b6⟩, ⟨by rw [hk 7 (by omega)]; exact b7, by rw [hl 7 (by omega)]; exact b8⟩, ⟨by rw [hk 8 (by omega)]; exact b9, by rw [hl 8 (by omega)]; exact b10⟩, ⟨by rw [hk 1 (by omega)]; exact b11, by rw [hl 1 (by omega)]; exact b12⟩, by rw [hk 2 (by omega)]; exact b13, by rw [hl 2 (by omega)]; exact b14⟩, ⟨by rw [hk 4 (by omega)]; exact c1, (kp 4 0 (by omega) (by omega) (by omega) (by omega)).trans c2, (kp 4 1 (by omega) (by omega) (by omega) (by omega)).trans c3, (kp 4 2 (by omega) (by omega) (by omega) (by omega)).trans c4⟩, ⟨by rw [hk 9 (by omega)]; exact c5, by rw [hl 9 (by omega)]; exact c5'⟩, ⟨by rw [hk 10 (by omega)]; exact c6, by rw [hl 10 (by omega)]; exact c6'⟩, fun i hi => ?_, by omega, h0, by rw [hk 0 (by omega)]; exact c10⟩
    obtain ⟨d1, d2, d3, d4, d5⟩ := c7 i hi
    have g1 : G_ i ≤ h_n M ∧ Wd i ≤ h_n M ∧ G_ i ≠ 4 := by unfold G_ Wd; omega
    exact ⟨(kp 10 i (by omega) (by omega) (by omega) (by omega)).trans d1, by rw [hk _ g1.1]; exact d2, (hR _ 1 g1.1 (by omega) (by omega) (by omega)).trans d3, by rw [hk _ g1.2.1]; exact d4, by rw [hl _ g1.2.1]; exact d5⟩
  · rcases Nat.lt_or_ge (h_n M) a with ha | ha
    · rcases Nat.lt_or_ge (h_n M') a with ha2 | ha2
      · rw [h0 a ha2]
        exact ⟨fun q => by omega, fun q => by omega, fun q => by omega⟩
      · exact hnew a ha ha2
    · rw [hk a ha]
      refine ⟨fun q => ?_, fun q => ?_, fun q => ?_⟩
      · obtain ⟨y1, y2, y3, y4, y5, y6⟩ := (hX a).1 q
        refine ⟨y1, by omega, (kp a 2 (by omega) (by omega) (by omega) (by omega)).trans y3, by rw [hk _ (by omega)]; exact y4, by rw [hl _ (by omega)]; exact y5, fun u hu => ⟨(kp (a + 1) u (by omega) (by omega) (by omega) (by omega)).trans (y6 u hu).1, by rw [hk _ (by omega)]; exact (y6 u hu).2.1, by rw [hl _ (by omega)]; exact (y6 u hu).2.2⟩⟩
      · obtain ⟨y1, y2, y3, y4, y5, y6⟩ := (hX a).2.1 q
        refine ⟨y1, by omega, (kp a 2 (by omega) (by omega) (by omega) (by omega)).trans y3, by rw [hk _ (by omega)]; exact y4, by rw [hl _ (by omega)]; exact y5, fun u hu => ⟨(kp (a + 1) u (by omega) (by omega) (by omega) (by omega)).trans (y6 u hu).1, by rw [hk _ (by omega)]; exact (y6 u hu).2⟩⟩
      · obtain ⟨y1, y2, y3, y4, y5⟩ := (hX a).2.2 q
        exact ⟨y1, by omega, (kp a 3 (by omega) (by omega) (by omega) (by omega)).trans y3, by rw [hk _ (by omega)]; exact y4, by rw [hl _ (by omega)]; exact y5⟩
/-- a table that is being made: k of its entries are there -/
def tI (M : mM) (g : Nat) (l : Int32) (b : Nat → Int32) (r : Int32) (k : Nat) (N : mM) : Prop := h_n N = h_n M + 2 + k ∧ h_v N = h_v M + 11 + 5 * k ∧ (∀ x, x ≤ h_n M → h_k N x = h_k M x ∧ h_l N x = h_l M x ∧ ∀ j, h_i N x j = h_i M x j ∧ h_r N x j = h_r M x j) ∧ (∀ x, h_n M + 2 + k < x → h_k N x = 0) ∧ h_k N (h_n M + 1) = 6 ∧ h_r N (h_n M + 1) 0 = g ∧ h_i N (h_n M + 1) 1 = l ∧ h_r N (h_n M + 1) 2 = h_n M + 2 ∧ h_k N (h_n M + 2) = 12 ∧ h_l N (h_n M + 2) = 8 ∧ ∀ e, e < k → h_r N (h_n M + 2) e = h_n M + 3 + e ∧ h_k N (h_n M + 3 + e) = 2 ∧ h_i N (h_n M + 3 + e) 0 = l ∧ h_i N (h_n M + 3 + e) 1 = b e ∧ h_i N (h_n M + 3 + e) 2 = r ∧ h_r N (h_n M + 3 + e) 3 = 0 ∧ h_r N (h_n M + 3 + e) 4 = 0
def ne1 (N : mM) (a k : Nat) (l b r : Int32) : mM := h_sr (h_si (h_si (h_si (h_al N 2 5) (h_n N + 1) 0 l) (h_n N + 1) 1 b) (h_n N + 1) 2 r) a k (h_n N + 1)
theorem ne1_k {N : mM} {a k x : Nat} {l b r : Int32} : h_k (ne1 N a k l b r) x = if x = h_n N + 1 then 2 else h_k N x := rfl
theorem ne1_l {N : mM} {a k x : Nat} {l b r : Int32} : h_l (ne1 N a k l b r) x = if x = h_n N + 1 then 5 else h_l N x := rfl
theorem ne1_i {N : mM} {a k x j : Nat} {l b r : Int32} : h_i (ne1 N a k l b r) x j = if x = h_n N + 1 ∧ j = 2 then r else if x = h_n N + 1 ∧ j = 1 then b else if x = h_n N + 1 ∧ j = 0 then l else if x = h_n N + 1 then 0 else h_i N x j := rfl
theorem ne1_r {N : mM} {a k x j : Nat} {l b r : Int32} : h_r (ne1 N a k l b r) x j = if x = a ∧ j = k then h_n N + 1 else if x = h_n N + 1 then 0 else h_r N x j := rfl
theorem tI_step {g k : Nat} {l r : Int32} {b : Nat → Int32} {N : mM} (h : tI M g l b r k N) : tI M g l b r (k + 1) (ne1 N (h_n M + 2) k l (b k) r) := by
  obtain ⟨a1, a2, a3, a4, a5, a6, a7, a8, a9, a10, a11⟩ := h
  refine ⟨?_, ?_, fun x hx => ⟨?_, ?_, fun j => ⟨?_, ?_⟩⟩, fun x hx => ?_, ?_, ?_, ?_, ?_, ?_, ?_, fun e he => ?_⟩
  · show h_n N + 1 = _; omega
  · show h_v N + 5 = _; omega
  · rw [ne1_k, if_neg (by omega)]; exact (a3 x hx).1
  · rw [ne1_l, if_neg (by omega)]; exact (a3 x hx).2.1
  · rw [ne1_i, if_neg (by omega), if_neg (by omega), if_neg (by omega), if_neg (by omega)]; exact ((a3 x hx).2.2 j).1
  · rw [ne1_r, if_neg (by omega), if_neg (by omega)]; exact ((a3 x hx).2.2 j).2
  · rw [ne1_k, if_neg (by omega)]; exact a4 x (by omega)
  · rw [ne1_k, if_neg (by omega)]; exact a5
  · rw [ne1_r, if_neg (by omega), if_neg (by omega)]; exact a6
  · rw [ne1_i, if_neg (by omega), if_neg (by omega), if_neg (by omega), if_neg (by omega)]; exact a7
  · rw [ne1_r, if_neg (by omega), if_neg (by omega)]; exact a8
  · rw [ne1_k, if_neg (by omega)]; exact a9
  · rw [ne1_l, if_neg (by omega)]; exact a10
  · by_cases q : e = k
    · subst q
      have e3 : h_n M + 3 + e = h_n N + 1 := by omega
      refine ⟨?_, ?_, ?_, ?_, ?_, ?_, ?_⟩
      · rw [ne1_r, if_pos ⟨rfl, rfl⟩, e3]
      · rw [ne1_k, if_pos e3]
      · rw [ne1_i, if_neg (by omega), if_neg (by omega), if_pos ⟨e3, rfl⟩]
      · rw [ne1_i, if_neg (by omega), if_pos ⟨e3, rfl⟩]
      · rw [ne1_i, if_pos ⟨e3, rfl⟩]
      · rw [ne1_r, if_neg (by omega), if_pos e3]
      · rw [ne1_r, if_neg (by omega), if_pos e3]
    · obtain ⟨b1, b2, b3, b4, b5, b6, b7⟩ := a11 e (by omega)
      refine ⟨?_, ?_, ?_, ?_, ?_, ?_, ?_⟩
      · rw [ne1_r, if_neg (by omega), if_neg (by omega)]; exact b1
      · rw [ne1_k, if_neg (by omega)]; exact b2
      · rw [ne1_i, if_neg (by omega), if_neg (by omega), if_neg (by omega), if_neg (by omega)]; exact b3
      · rw [ne1_i, if_neg (by omega), if_neg (by omega), if_neg (by omega), if_neg (by omega)]; exact b4
      · rw [ne1_i, if_neg (by omega), if_neg (by omega), if_neg (by omega), if_neg (by omega)]; exact b5
      · rw [ne1_r, if_neg (by omega), if_neg (by omega)]; exact b6
      · rw [ne1_r, if_neg (by omega), if_neg (by omega)]; exact b7
/-- a new table -/
theorem C_Rtt (hz : ∀ x, h_n M < x → h_k M x = 0) {g L P : Nat} (hL : L ≤ 3) {r : Int32} : ∃ N, ev 27 0 [some (.inr (h_n M + 1)), some (.inr g), some (.inl (nI L)), some (.inl (nI P)), some (.inl r), none] [] (h_al M 6 3) = some (none, N) ∧ tI M g (nI L) (fun e => nI (P + e * spn L)) r 8 N := by
  have key : ∀ (d k : Nat) (N : mM), k + d = 8 → tI M g (nI L) (fun e => nI (P + e * spn L)) r k N → ∃ N', ev 27 14 [some (.inr (h_n M + 1)), some (.inr g), some (.inl (nI L)), some (.inl (nI P)), some (.inl r), some (.inl (nI k))] [] N = some (none, N') ∧ tI M g (nI L) (fun e => nI (P + e * spn L)) r 8 N' := by
    intro d
    induction d with
    | zero =>
      intro k N hk hI
      have : k = 8 := by omega
      subst this
      exact ⟨N, by rw [e_27_14, if_pos (by decide)], hI⟩
    | succ d ih =>
      intro k N hk hI
      obtain ⟨N', e1, e2⟩ := ih (k + 1) _ (by omega) (tI_step hI)
      refine ⟨N', ?_, e2⟩
      obtain ⟨a1, a2, a3, a4, a5, a6, a7, a8, a9, a10, a11⟩ := hI
      have c9 : ev 9 0 [some (.inr (h_n N + 1)), some (.inl (nI L)), some (.inl (nI P + nI k * nI (spn L))), some (.inl r)] [] (h_al N 2 5) = some (none, h_si (h_si (h_si (h_al N 2 5) (h_n N + 1) 0 (nI L)) (h_n N + 1) 1 (nI P + nI k * nI (spn L))) (h_n N + 1) 2 r) := by
        have kk : h_k (h_al N 2 5) (h_n N + 1) = 2 := if_pos rfl
        simp only [e_9_0, c_I, c_R, c_V, if_true, if_false, true_and, and_true, true_or, or_true, List.length_nil, List.length_cons, Nat.zero_le, k_si, l_si, r_si, k_sr, l_sr, i_sr, n_si, ar_si, ar_sr, ar_0, kk, Nat.succ_ne_zero, not_false_eq_true]
      have r2 : a_rec (h_al N 2 5) 2 [.inr (h_n N + 1), .inl (nI L), .inl (nI P + nI k * nI (spn L)), .inl r] = true := rc2 (show h_k (h_al N 2 5) (h_n N + 1) = 2 from if_pos rfl) _
      have cond : ((h_k (h_si (h_si (h_si (h_al N 2 5) (h_n N + 1) 0 (nI L)) (h_n N + 1) 1 (nI P + nI k * nI (spn L))) (h_n N + 1) 2 r) (h_n M + 2) = 11 ∧ h_k (h_si (h_si (h_si (h_al N 2 5) (h_n N + 1) 0 (nI L)) (h_n N + 1) 1 (nI P + nI k * nI (spn L))) (h_n N + 1) 2 r) (h_n N + 1) = 3) ∨ (h_k (h_si (h_si (h_si (h_al N 2 5) (h_n N + 1) 0 (nI L)) (h_n N + 1) 1 (nI P + nI k * nI (spn L))) (h_n N + 1) 2 r) (h_n M + 2) = 12 ∧ h_k (h_si (h_si (h_si (h_al N 2 5) (h_n N + 1) 0 (nI L)) (h_n N + 1) 1 (nI P + nI k * nI (spn L))) (h_n N + 1) 2 r) (h_n N + 1) = 2)) ∧ h_in (nI k) (h_l (h_si (h_si (h_si (h_al N 2 5) (h_n N + 1) 0 (nI L)) (h_n N + 1) 1 (nI P + nI k * nI (spn L))) (h_n N + 1) 2 r) (h_n M + 2)) := by
        refine ⟨Or.inr ⟨?_, if_pos rfl⟩, ?_⟩
        · show (if h_n M + 2 = h_n N + 1 then 2 else h_k N (h_n M + 2)) = 12
          rw [if_neg (by omega)]; exact a9
        · show h_in (nI k) (if h_n M + 2 = h_n N + 1 then 5 else h_l N (h_n M + 2))
          rw [if_neg (by omega), a10]; exact i_nn (by omega) (by decide)
      have eb : nI P + nI k * nI (spn L) = nI (P + k * spn L) := by rw [pk_mul, nI_add]
      rw [e_27_14]
      simp only [n_l (N := 8) (k := k) 8 rfl (by omega) (by decide), if_false, a5, a8, if_true, ar_0, true_and, List.length_nil, List.length_cons, Nat.reduceAdd, Nat.reduceLeDiff, Nat.zero_le, C_span hL, c_I, c_V, r2, c9]
      rw [if_pos cond, i_c (show k < 2 ^ 31 by omega), nI_1, ← e1, eb]
      rfl
  have k0 : h_k (h_al (h_al M 6 3) 12 8) (h_n M + 1) = 6 := by
    show (if h_n M + 1 = h_n M + 1 + 1 then 12 else if h_n M + 1 = h_n M + 1 then 6 else h_k M (h_n M + 1)) = 6
    rw [if_neg (by omega), if_pos rfl]
  obtain ⟨N', e1, e2⟩ := key 8 0 (h_si (h_sr (h_sr (h_al (h_al M 6 3) 12 8) (h_n M + 1) 2 (h_n (h_al M 6 3) + 1)) (h_n M + 1) 0 g) (h_n M + 1) 1 (nI L)) rfl (by
    refine ⟨rfl, ?_, fun x hx => ⟨?_, ?_, fun j => ⟨?_, ?_⟩⟩, fun x hx => ?_, k0, ?_, ?_, ?_, ?_, ?_, fun e he => absurd he (Nat.not_lt_zero _)⟩
    · show h_v M + 3 + 8 = _; omega
    · show (if x = h_n M + 1 + 1 then 12 else if x = h_n M + 1 then 6 else h_k M x) = _
      rw [if_neg (by omega), if_neg (by omega)]
    · show (if x = h_n M + 1 + 1 then 8 else if x = h_n M + 1 then 3 else h_l M x) = _
      rw [if_neg (by omega), if_neg (by omega)]
    · show (if x = h_n M + 1 ∧ j = 1 then nI L else if x = h_n M + 1 + 1 then 0 else if x = h_n M + 1 then 0 else h_i M x j) = _
      rw [if_neg (by omega), if_neg (by omega), if_neg (by omega)]
    · show (if x = h_n M + 1 ∧ j = 0 then g else if x = h_n M + 1 ∧ j = 2 then h_n M + 1 + 1 else if x = h_n M + 1 + 1 then 0 else if x = h_n M + 1 then 0 else h_r M x j) = _
      rw [if_neg (by omega), if_neg (by omega), if_neg (by omega), if_neg (by omega)]
    · show (if x = h_n M + 1 + 1 then 12 else if x = h_n M + 1 then 6 else h_k M x) = _
      rw [if_neg (by omega), if_neg (by omega)]; exact hz x (by omega)
    · show (if h_n M + 1 = h_n M + 1 ∧ 0 = 0 then g else _) = _
      rw [if_pos ⟨rfl, rfl⟩]
    · show (if h_n M + 1 = h_n M + 1 ∧ 1 = 1 then nI L else _) = _
      rw [if_pos ⟨rfl, rfl⟩]
    · show (if h_n M + 1 = h_n M + 1 ∧ 2 = 0 then g else if h_n M + 1 = h_n M + 1 ∧ 2 = 2 then h_n M + 1 + 1 else _) = _
      rw [if_neg (by omega), if_pos ⟨rfl, rfl⟩]
    · show (if h_n M + 2 = h_n M + 1 + 1 then 12 else _) = _
      rw [if_pos (by omega)]
    · show (if h_n M + 2 = h_n M + 1 + 1 then 8 else _) = _
      rw [if_pos (by omega)])
  refine ⟨N', ?_, e2⟩
  rw [show nI 0 = 0 from rfl] at e1
  rw [e_27_0]
  simp only [c_I, c_R, c_V, if_true, if_false, true_and, and_true, true_or, or_true, List.length_nil, List.length_cons, Nat.zero_le, k_si, l_si, r_si, k_sr, l_sr, i_sr, n_si, ar_si, ar_sr, ar_0, k0, Nat.succ_ne_zero, not_false_eq_true, e1, show ¬ (8 : Int32) < 0 from by decide, show (8 : Nat) ≤ 100000 from by decide]
end E
