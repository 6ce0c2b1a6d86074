/-! SHA-256: the class's finish -/
theorem C_spread {M : mM} (hD : D_sh M) {o : Nat} {f : Nat → Nat → Int32} (ho : o + 16 ≤ 48) : ∃ f' : Nat → Nat → Int32, ev 7 0 [some (.inr 5), some (.inl (nI o)), none, none, none, none, none] [] (mkU M f) = some (none, mkU M f') ∧ (∀ i, i < 64 → f' 7 i = sch 16 48 (fun k => f 6 (o + k)) i) ∧ ∀ b j, b ≠ 7 → f' b j = f b j := by
  obtain ⟨d1, d2, d3, d4, ⟨d5, d6⟩, ⟨d7, d8⟩, -⟩ := id hD
  obtain ⟨f', g1, g2, g3⟩ := C_spread1 hD (nI o) 48 16 (f_c f 6 o 7 0 16) none none none none rfl (by omega)
  refine ⟨f', ?_, fun i hi => ?_, fun b j hb => ?_⟩
  · rw [e_7_0]
    have k1 := nI_pos (n := o) (by omega)
    simp only [U_i, U_si, U_cp, U_k, U_l, U_r, if_true, if_false, true_and, and_true, true_or, or_true, List.length_nil, List.length_cons, Nat.zero_le, c_I, c_R, c_V, d1, d2, d3, d5, d6, d7, d8, k1, i_c (show o < 2 ^ 31 by omega), ho, show ¬ (0 : Int32) < 0 from by decide, show ¬ (16 : Int32) < 0 from by decide, not_false_eq_true, show 0 + 16 ≤ 64 from by omega]
    exact g1
  · rw [g2]
    refine sch_congr 48 16 _ _ (by omega) (fun k hk => ?_) i hi
    unfold f_c
    rw [if_pos (by omega), Nat.sub_zero]
  · rw [g3 b j hb]
    unfold f_c
    rw [if_neg (by omega)]
theorem C_fin1 {M : mM} (hD : D_sh M) {E a : Nat} (hE : E ≤ 48) (x2 x3 x4 : Int32) : ∀ (d k : Nat) (f : Nat → Nat → Int32), k + d = E → ev 5 19 [some (.inr 5), some (.inr a), some (.inl x2), some (.inl x3), some (.inl x4), some (.inl (nI E)), some (.inl (nI k))] [] (mkU M f) = ev 5 32 [some (.inr 5), some (.inr a), some (.inl x2), some (.inl x3), some (.inl x4), some (.inl (nI E)), some (.inl (nI E))] [] (mkU M (f_r f 6 k E (fun _ => 0))) := by
  obtain ⟨d1, d2, d3, d4, ⟨d5, d6⟩, -⟩ := id hD
  intro d
  induction d with
  | zero =>
    intro k f h1
    rw [show k = E by omega, e_5_19, if_pos (nI_le (Nat.le_refl _) (by omega)), f_r0]
  | succ d ih =>
    intro k f h1
    have h3 := nI_ge (show k < E by omega) (by omega)
    have h4 := n_l (N := 48) (k := k) 48 rfl (by omega) (by decide)
    rw [e_5_19]
    simp only [U_i, U_si, U_cp, U_k, U_l, U_r, if_true, if_false, true_and, and_true, true_or, or_true, List.length_nil, List.length_cons, Nat.zero_le, c_I, c_R, c_V, d1, d2, d5, d6, h3, h4, i_c (show k < 2 ^ 31 by omega), i_t (show k < 48 by omega) (by decide), nI_1, ih (k + 1) _ (show k + 1 + d = E by omega)]
    rw [f_rs f 6 k E (fun _ => 0) (by omega)]
theorem C_fin2 {M : mM} (hD : D_sh M) {t B a o n : Nat} (hB : B ≤ 3) (ha : h_k M a = 9) (hn : n ≤ 8) (hl : o + n ≤ h_l M a) (hl2 : h_l M a < 2 ^ 31) (w : Nat → Int32) (x4 : Int32) : ∀ (d b : Nat) (f : Nat → Nat → Int32), b + d = B → (∀ i, i < 64 → f 2 i = s_t2 i) → (∀ i, i < 16 * B → f 6 i = pad w t i) → (∀ i, i < 8 → f 8 i = dig w t b i) → ∃ f' : Nat → Nat → Int32, ev 5 54 [some (.inr 5), some (.inr a), some (.inl (nI o)), some (.inl (nI n)), some (.inl x4), some (.inl (nI (16 * B))), some (.inl (nI (16 * b)))] [] (mkU M f) = some (none, mkU M f') ∧ (∀ c j, f' c j = if c = a ∧ o ≤ j ∧ j < o + n then dig w t B (j - o) else if c = 7 ∨ c = 8 then f' c j else f c j) := by
  obtain ⟨d1, d2, d3, d4, ⟨d5, d6⟩, ⟨d7, d8⟩, ⟨d9, d10⟩, -⟩ := id hD
  intro d
  induction d with
  | zero =>
    intro b f h1 hK hw hh
    refine ⟨f_c f 8 0 a o n, ?_, fun c j => ?_⟩
    · rw [show b = B by omega, e_5_54]
      have k1 := nI_pos (n := o) (by omega)
      have k2 := nI_pos (n := n) (by omega)
      have k3 : nI (16 * B) ≤ nI (16 * B) := nI_le (Nat.le_refl _) (by omega)
      simp only [U_i, U_si, U_cp, U_k, U_l, U_r, if_true, if_false, true_and, and_true, true_or, or_true, List.length_nil, List.length_cons, Nat.zero_le, c_I, c_R, c_V, d1, d4, d9, d10, ha, k1, k2, k3, i_c (show o < 2 ^ 31 by omega), i_c (show n < 2 ^ 31 by omega), hl, show ¬ (0 : Int32) < 0 from by decide, not_false_eq_true, Nat.zero_add, hn]
    · unfold f_c
      by_cases e : c = a ∧ o ≤ j ∧ j < o + n
      · rw [if_pos e, if_pos e, Nat.zero_add, hh (j - o) (by omega), show b = B by omega]
      · rw [if_neg e, if_neg e]
        split <;> rfl
  | succ d ih =>
    intro b f h1 hK hw hh
    obtain ⟨f1, g1, g2, g3⟩ := C_spread hD (o := 16 * b) (f := f) (by omega)
    obtain ⟨f2, m1, m2, m3⟩ := C_mix hD (f := f1) (fun i hi => by rw [g3 2 i (by omega)]; exact hK i hi)
    have e8 : ∀ i, f1 8 i = f 8 i := fun i => g3 8 i (by omega)
    obtain ⟨f3, q1, q2⟩ := ih (b + 1) f2 (by omega) (fun i hi => by rw [m3 2 i (by omega), g3 2 i (by omega)]; exact hK i hi) (fun i hi => by rw [m3 6 i (by omega), g3 6 i (by omega)]; exact hw i hi) (fun i hi => by
      rw [m2 i hi, dig, e8 i, hh i hi]
      unfold mixh
      rw [show s_of (f1 8) = s_of (dig w t b) from by unfold s_of; rw [e8 0, e8 1, e8 2, e8 3, e8 4, e8 5, e8 6, e8 7, hh 0 (by omega), hh 1 (by omega), hh 2 (by omega), hh 3 (by omega), hh 4 (by omega), hh 5 (by omega), hh 6 (by omega), hh 7 (by omega)], rnds_congr 64 0 _ (fun k hk => (g2 k (by omega)).trans (sch_congr 48 16 _ _ (by omega) (fun q hq => hw (16 * b + q) (by omega)) k (by omega)))])
    refine ⟨f3, ?_, fun c j => ?_⟩
    · rw [e_5_54, if_neg (nI_ge (show 16 * b < 16 * B by omega) (by omega))]
      simp only [U_i, U_si, U_cp, U_k, U_l, U_r, if_true, if_false, true_and, and_true, true_or, or_true, List.length_nil, List.length_cons, Nat.zero_le, c_I, c_R, c_V, D_rec hD, g1, m1, show (16 : Int32) = nI 16 from rfl, nI_add, show 16 * b + 16 = 16 * (b + 1) by omega]
      exact q1
    · rw [q2 c j]
      by_cases e : c = a ∧ o ≤ j ∧ j < o + n
      · rw [if_pos e, if_pos e]
      · rw [if_neg e, if_neg e]
        by_cases e7 : c = 7 ∨ c = 8
        · rw [if_pos e7, if_pos e7, q2 c j, if_neg e, if_pos e7]
        · rw [if_neg e7, if_neg e7, m3 c j (by omega), g3 c j (by omega)]
set_option maxRecDepth 20000 in
theorem C_finish {M : mM} (hD : D_sh M) {t a o n : Nat} {f : Nat → Nat → Int32} (ht : t ≤ 45) (ha : h_k M a = 9) (ha6 : a ≠ 6) (ha7 : a ≠ 7) (ha8 : a ≠ 8) (hn : n ≤ 8) (hl : o + n ≤ h_l M a) (hl2 : h_l M a < 2 ^ 31) (h2 : f 5 3 = nI t) (hK1 : ∀ i, i < 8 → f 1 i = s_t1 i) (hK2 : ∀ i, i < 64 → f 2 i = s_t2 i) : ∃ f' : Nat → Nat → Int32, ev 5 0 [some (.inr 5), some (.inr a), some (.inl (nI o)), some (.inl (nI n)), none, none, none] [] (mkU M f) = some (none, mkU M f') ∧ (∀ k, k < n → f' a (o + k) = dgs (f 6) t k) ∧ (∀ j, ¬ (o ≤ j ∧ j < o + n) → f' a j = f a j) ∧ ∀ c j, c ≠ a → c ≠ 6 → c ≠ 7 → c ≠ 8 → f' c j = f c j := by
  obtain ⟨d1, d2, d3, d4, ⟨d5, d6⟩, ⟨d7, d8⟩, ⟨d9, d10⟩, ⟨d11, d12⟩, -⟩ := id hD
  have ha5 : a ≠ 5 := fun e => by rw [e, d1] at ha; omega
  have hBB : (t + 2) / 16 * 16 + 16 = 16 * ((t + 18) / 16) := by omega
  have k1 : nI t + 2 = nI (t + 2) := by rw [show (2 : Int32) = nI 2 from rfl, nI_add]
  have k2 : nI (t + 2) / 16 = nI ((t + 2) / 16) := pk_div (by omega) (by decide) (by decide)
  have k3 : nI ((t + 2) / 16) * 16 + 16 = nI (16 * ((t + 18) / 16)) := by rw [show (16 : Int32) = nI 16 from rfl, pk_mul, nI_add, hBB]
  have k4 : nI t * 32 = nI (32 * t) := by rw [show (32 : Int32) = nI 32 from rfl, pk_mul, Nat.mul_comm]
  have k5 : nI (16 * ((t + 18) / 16)) - 1 = nI (16 * ((t + 18) / 16) - 1) := by rw [show (1 : Int32) = nI 1 from rfl, pk_sub (by omega)]
  generalize hf1 : f_r f 6 t (16 * ((t + 18) / 16)) (fun _ => 0) = f1
  have e53 : f1 5 3 = nI t := by rw [← hf1]; unfold f_r; rw [if_neg (by omega)]; exact h2
  have e53' : f_s f1 6 t (-2147483648) 5 3 = nI t := by unfold f_s; rw [if_neg (by omega)]; exact e53
  generalize hf2 : f_c (f_s (f_s f1 6 t (-2147483648)) 6 (16 * ((t + 18) / 16) - 1) (nI (32 * t))) 1 0 8 0 8 = f2
  have ef : ∀ c j, c ≠ 6 → c ≠ 8 → f2 c j = f c j := fun c j h6 h8 => by
    rw [← hf2, ← hf1]; unfold f_c f_s f_r
    rw [if_neg (by omega), if_neg (by omega), if_neg (by omega), if_neg (by omega)]
  have e6 : ∀ i, i < 16 * ((t + 18) / 16) → f2 6 i = pad (f 6) t i := fun i hi => by
    rw [← hf2, ← hf1]; unfold f_c f_s f_r pad
    rw [if_neg (by omega)]
    by_cases c1 : i = 16 * ((t + 18) / 16) - 1
    · rw [if_pos ⟨rfl, c1⟩, if_neg (by omega), if_neg (by omega), if_pos c1]
    · rw [if_neg (by omega)]
      by_cases c2 : i = t
      · rw [if_pos ⟨rfl, c2⟩, if_neg (by omega), if_pos c2]
      · rw [if_neg (by omega)]
        by_cases c3 : i < t
        · rw [if_neg (by omega), if_pos c3]
        · rw [if_pos (by omega), if_neg c3, if_neg c2, if_neg c1]
  have e8 : ∀ i, i < 8 → f2 8 i = s_t1 i := fun i hi => by
    rw [← hf2, ← hf1]; unfold f_c f_s f_r
    rw [if_pos (by omega), if_neg (by omega), if_neg (by omega), if_neg (by omega), Nat.zero_add, Nat.sub_zero]
    exact hK1 i hi
  obtain ⟨f', q1, q2⟩ := C_fin2 hD (t := t) (B := (t + 18) / 16) (o := o) (n := n) (by omega) ha hn hl hl2 (f 6) (nI (32 * t)) ((t + 18) / 16) 0 f2 (by omega) (fun i hi => by rw [ef 2 i (by omega) (by omega)]; exact hK2 i hi) e6 e8
  refine ⟨f', ?_, fun k hk => ?_, fun j hj => ?_, fun c j h5 h6 h7 h8 => ?_⟩
  · rw [e_5_0]
    simp only [U_i, U_si, U_cp, U_k, U_l, U_r, if_true, if_false, true_and, and_true, true_or, or_true, List.length_nil, List.length_cons, Nat.zero_le, c_I, c_R, c_V, d1, h2, k1, k2, k3, k4, show (¬ (16 : Nat) = 0) from by decide, not_false_eq_true]
    have g1 := C_fin1 hD (E := 16 * ((t + 18) / 16)) (a := a) (by omega) (nI o) (nI n) (nI (32 * t)) (16 * ((t + 18) / 16) - t) t f (by omega)
    rw [hf1, e_5_32] at g1
    simp only [U_i, U_si, U_cp, U_k, U_l, U_r, if_true, if_false, true_and, and_true, true_or, or_true, List.length_nil, List.length_cons, Nat.zero_le, c_I, c_R, c_V, d1, d2, d4, d5, d6, d9, d10, d11, d12, e53, e53', k5, i_c (show t < 2 ^ 31 by omega), i_t (show t < 48 by omega) (by decide), i_c (show 16 * ((t + 18) / 16) - 1 < 2 ^ 31 by omega), i_t (show 16 * ((t + 18) / 16) - 1 < 48 by omega) (by decide), show ¬ (0 : Int32) < 0 from by decide, show ¬ (8 : Int32) < 0 from by decide, not_false_eq_true, show 0 + 8 ≤ 8 from by omega] at g1
    rw [hf2] at g1
    exact g1.trans q1
  · rw [q2 a (o + k), if_pos (by omega), show o + k - o = k by omega]; rfl
  · rw [q2 a j, if_neg (by omega), if_neg (by omega)]; exact ef a j ha6 ha8
  · rw [q2 c j, if_neg (by omega), if_neg (by omega)]; exact ef c j h6 h8
