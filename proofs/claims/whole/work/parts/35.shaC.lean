/-! SHA-256: the class's Digest -/
def mkU (M : mM) (f : Nat → Nat → Int32) : mM := (h_n M, h_v M, h_k M, h_l M, f, h_r M)
def f_c (f : Nat → Nat → Int32) (a s b d n : Nat) : Nat → Nat → Int32 := fun c j => if c = b ∧ d ≤ j ∧ j < d + n then f a (s + (j - d)) else f c j
theorem U_eta (M : mM) : mkU M (h_i M) = M := rfl
theorem U_si (M : mM) (f : Nat → Nat → Int32) (a k : Nat) (x : Int32) : h_si (mkU M f) a k x = mkU M (f_s f a k x) := rfl
theorem U_cp (M : mM) (f : Nat → Nat → Int32) (a s b d n : Nat) : h_cp (mkU M f) a s b d n = mkU M (f_c f a s b d n) := rfl
theorem U_i (M : mM) (f : Nat → Nat → Int32) (a k : Nat) : h_i (mkU M f) a k = f a k := rfl
theorem U_k (M : mM) (f : Nat → Nat → Int32) (a : Nat) : h_k (mkU M f) a = h_k M a := rfl
theorem U_l (M : mM) (f : Nat → Nat → Int32) (a : Nat) : h_l (mkU M f) a = h_l M a := rfl
theorem U_r (M : mM) (f : Nat → Nat → Int32) (a k : Nat) : h_r (mkU M f) a k = h_r M a k := rfl
theorem a_rec1 {M : mM} {q a : Nat} {as : List mV} (h : h_k M a = q + 1) : a_rec M (q + 1) (.inr a :: as) = true := by simp [a_rec, h]
def D_sh (M : mM) : Prop := h_k M 5 = 1 ∧ h_r M 5 0 = 6 ∧ h_r M 5 1 = 7 ∧ h_r M 5 2 = 8 ∧ (h_k M 6 = 9 ∧ h_l M 6 = 48) ∧ (h_k M 7 = 9 ∧ h_l M 7 = 64) ∧ (h_k M 8 = 9 ∧ h_l M 8 = 8) ∧ (h_k M 1 = 14 ∧ h_l M 1 = 8) ∧ (h_k M 2 = 14 ∧ h_l M 2 = 64)
theorem D_rec {M : mM} (h : D_sh M) (f : Nat → Nat → Int32) (as : List mV) : a_rec (mkU M f) 1 (.inr 5 :: as) = true := a_rec1 (q := 0) h.1
theorem t23 : s_t2 = s_t3 := rfl
theorem C_take {M : mM} (hD : D_sh M) {t : Nat} {f : Nat → Nat → Int32} {v : Int32} (ht : t < 45) (h : f 5 3 = nI t) : ev 3 0 [some (.inr 5), some (.inl v)] [] (mkU M f) = some (none, mkU M (f_s (f_s f 6 t v) 5 3 (nI (t + 1)))) := by
  obtain ⟨d1, d2, d3, d4, ⟨d5, d6⟩, -⟩ := hD
  have h2 : f_s f 6 t v 5 3 = nI t := by unfold f_s; rw [if_neg (by omega)]; exact h
  have h3 := n_l (N := 45) (k := t) 45 rfl ht (by decide)
  simp only [e_3_0, U_i, U_si, U_cp, U_k, U_l, U_r, if_true, if_false, true_and, and_true, true_or, or_true, List.length_nil, List.length_cons, Nat.zero_le, c_I, c_R, c_V, d1, d2, d5, d6, h, i_t (show t < 48 by omega) (by decide), i_c (show t < 2 ^ 31 by omega), h2, h3, nI_1]
theorem C_takeRow {M : mM} (hD : D_sh M) {t n a : Nat} {f : Nat → Nat → Int32} (ht : t + n ≤ 45) (ha : h_k M a = 9) (hn : n ≤ h_l M a) (hl : h_l M a < 2 ^ 31) (ha6 : a ≠ 6) (h : f 5 3 = nI t) : ∃ f' : Nat → Nat → Int32, ev 4 0 [some (.inr 5), some (.inr a), some (.inl (nI n)), none] [] (mkU M f) = some (none, mkU M f') ∧ f' 5 3 = nI (t + n) ∧ (∀ i, i < t → f' 6 i = f 6 i) ∧ (∀ k, k < n → f' 6 (t + k) = f a k) ∧ ∀ c j, c ≠ 6 → ¬ (c = 5 ∧ j = 3) → f' c j = f c j := by
  have ha5 : a ≠ 5 := fun e => by rw [e, hD.1] at ha; omega
  have key : ∀ (d k : Nat) (f : Nat → Nat → Int32), k + d = n → f 5 3 = nI (t + k) → ∃ f' : Nat → Nat → Int32, ev 4 2 [some (.inr 5), some (.inr a), some (.inl (nI n)), some (.inl (nI k))] [] (mkU M f) = some (none, mkU M f') ∧ f' 5 3 = nI (t + n) ∧ (∀ i, i < t + k → f' 6 i = f 6 i) ∧ (∀ i, k ≤ i → i < n → f' 6 (t + i) = f a i) ∧ ∀ c j, c ≠ 6 → ¬ (c = 5 ∧ j = 3) → f' c j = f c j := by
    intro d
    induction d with
    | zero =>
      intro k f h1 h2
      refine ⟨f, ?_, by rw [h2, show k = n by omega], fun _ _ => rfl, fun i h3 h4 => by omega, fun _ _ _ _ => rfl⟩
      rw [show k = n by omega, e_4_2, if_pos (nI_le (Nat.le_refl _) (by omega))]
    | succ d ih =>
      intro k f h1 h2
      have h3 := nI_ge (show k < n by omega) (by omega)
      have h4 : ¬ Int32.ofNat (h_l M a) ≤ nI k := nI_ge (show k < h_l M a by omega) hl
      obtain ⟨f', g1, g2, g3, g4, g5⟩ := ih (k + 1) (f_s (f_s f 6 (t + k) (f a k)) 5 3 (nI (t + k + 1))) (by omega) (by unfold f_s; rw [if_pos ⟨rfl, rfl⟩]; rfl)
      refine ⟨f', ?_, g2, fun i hi => ?_, fun i h5 h6 => ?_, fun c j h5 h6 => ?_⟩
      · rw [e_4_2]
        simp only [U_i, U_si, U_cp, U_k, U_l, U_r, if_true, if_false, true_and, and_true, true_or, or_true, List.length_nil, List.length_cons, Nat.zero_le, c_I, c_R, c_V, D_rec hD, ha, h3, h4, i_t (show k < h_l M a by omega) hl, i_c (show k < 2 ^ 31 by omega), C_take hD (show t + k < 45 by omega) h2, nI_1]
        exact g1
      · rw [g3 i (by omega)]; unfold f_s; rw [if_neg (by omega), if_neg (by omega)]
      · by_cases e : i = k
        · rw [e, g3 (t + k) (by omega)]; unfold f_s; rw [if_neg (by omega), if_pos ⟨rfl, rfl⟩]
        · rw [g4 i (by omega) h6]; unfold f_s; rw [if_neg (by omega), if_neg (by omega)]
      · rw [g5 c j h5 h6]; unfold f_s; rw [if_neg h6, if_neg (by omega)]
  obtain ⟨f', g1, g2, g3, g4, g5⟩ := key n 0 f (by omega) h
  exact ⟨f', by rw [e_4_0]; exact g1, g2, g3, fun k hk => g4 k (Nat.zero_le _) hk, g5⟩
theorem add4 (a b c d : Int32) : ((a + b) + c) + d = ((d + c) + b) + a := by
  rw [Int32.add_comm ((a + b) + c) d, Int32.add_comm (a + b) c, ← Int32.add_assoc, Int32.add_comm a b, ← Int32.add_assoc]
set_option maxHeartbeats 2000000 in
set_option maxRecDepth 20000 in
theorem C_spread1 {M : mM} (hD : D_sh M) (x : Int32) : ∀ (d t : Nat) (f : Nat → Nat → Int32) (o3 o4 o5 o6 : Option mV), t + d = 64 → 16 ≤ t → ∃ f' : Nat → Nat → Int32, ev 7 10 [some (.inr 5), some (.inl x), some (.inl (nI t)), o3, o4, o5, o6] [] (mkU M f) = some (none, mkU M f') ∧ f' 7 = sch t d (f 7) ∧ ∀ b j, b ≠ 7 → f' b j = f b j := by
  obtain ⟨d1, d2, d3, d4, -, ⟨d7, d8⟩, -⟩ := id hD
  intro d
  induction d with
  | zero =>
    intro t f o3 o4 o5 o6 h1 h2
    refine ⟨f, ?_, rfl, fun _ _ _ => rfl⟩
    rw [show t = 64 by omega, e_7_10, if_pos (by decide)]
  | succ d ih =>
    intro t f o3 o4 o5 o6 h1 h2
    have h3 := n_l (N := 64) (k := t) 64 rfl (by omega) (by decide)
    have a15 := n_s (t := t) 15 (k := 15) rfl (by omega)
    have a2 := n_s (t := t) 2 (k := 2) rfl (by omega)
    have a7 := n_s (t := t) 7 (k := 7) rfl (by omega)
    have a16 := n_s (t := t) 16 (k := 16) rfl (by omega)
    obtain ⟨f', hf1, hf2, hf3⟩ := ih (t + 1) (f_s f 7 t (((f 7 (t - 16) + sg0 (f 7 (t - 15))) + f 7 (t - 7)) + sg1 (f 7 (t - 2)))) (some (.inl (f 7 (t - 2)))) (some (.inl (f 7 (t - 15)))) (some (.inl (sg1 (f 7 (t - 2))))) (some (.inl (sg0 (f 7 (t - 15))))) (by omega) (by omega)
    refine ⟨f', ?_, ?_, fun b j hb => ?_⟩
    · rw [← nI_1, ← add4] at hf1
      rw [e_7_10, ← hf1]
      simp only [e_6_0, a_rec, U_i, U_si, U_cp, U_k, U_l, U_r, if_true, if_false, true_and, and_true, true_or, or_true, List.length_nil, List.length_cons, Nat.zero_le, c_I, c_R, c_V, d1, d2, d3, d4, d7, d8, h3, a15, a2, a7, a16, i_c (show t < 2 ^ 31 by omega), i_c (show t - 15 < 2 ^ 31 by omega), i_c (show t - 2 < 2 ^ 31 by omega), i_c (show t - 7 < 2 ^ 31 by omega), i_c (show t - 16 < 2 ^ 31 by omega), i_t (show t < 64 by omega) (by decide), i_t (show t - 15 < 64 by omega) (by decide), i_t (show t - 2 < 64 by omega) (by decide), i_t (show t - 7 < 64 by omega) (by decide), i_t (show t - 16 < 64 by omega) (by decide)]
      rfl
    · rw [hf2, sch]
      congr 1
      funext j
      unfold f_s stp
      by_cases hj : j = t
      · simp [hj]
      · simp [hj]
    · rw [hf3 b j hb]
      unfold f_s
      rw [if_neg (by omega)]
set_option maxHeartbeats 4000000 in
set_option maxRecDepth 20000 in
theorem C_mix2 {M : mM} (hD : D_sh M) : ∀ (d t : Nat) (s : S8) (f : Nat → Nat → Int32) (o10 o11 o12 o13 : Option mV), t + d = 64 → (∀ i, i < 64 → f 2 i = s_t2 i) → ∃ f' : Nat → Nat → Int32, ev 8 42 [some (.inr 5), some (.inl s.1), some (.inl s.2.1), some (.inl s.2.2.1), some (.inl s.2.2.2.1), some (.inl s.2.2.2.2.1), some (.inl s.2.2.2.2.2.1), some (.inl s.2.2.2.2.2.2.1), some (.inl s.2.2.2.2.2.2.2), some (.inl (nI t)), o10, o11, o12, o13] [] (mkU M f) = some (none, mkU M f') ∧ (∀ i, i < 8 → f' 8 i = f 8 i + s_at (rnds s_t3 (f 7) t d s) i) ∧ ∀ b j, b ≠ 8 → f' b j = f b j := by
  obtain ⟨d1, d2, d3, d4, -, ⟨d7, d8⟩, ⟨d9, d10⟩, -, ⟨d13, d14⟩⟩ := id hD
  intro d
  induction d with
  | zero =>
    intro t s f o10 o11 o12 o13 h1 hK
    have h := e_8_42 5 s.1 s.2.1 s.2.2.1 s.2.2.2.1 s.2.2.2.2.1 s.2.2.2.2.2.1 s.2.2.2.2.2.2.1 s.2.2.2.2.2.2.2 (nI 64) o10 o11 o12 o13 (mkU M f)
    rw [show t = 64 by omega]
    simp only [e_8_152, e_8_176, U_i, U_si, U_cp, U_k, U_l, U_r, if_true, if_false, true_and, and_true, true_or, or_true, List.length_nil, List.length_cons, Nat.zero_le, c_I, c_R, c_V, d1, d4, d9, d10, show (64 : Int32) ≤ nI 64 from by decide, show h_in 0 8 from by decide, show h_in 1 8 from by decide, show h_in 2 8 from by decide, show h_in 3 8 from by decide, show h_in 4 8 from by decide, show h_in 5 8 from by decide, show h_in 6 8 from by decide, show h_in 7 8 from by decide] at h
    refine ⟨_, h, fun i hi => ?_, fun b j hb => ?_⟩
    · rcases (show i = 0 ∨ i = 1 ∨ i = 2 ∨ i = 3 ∨ i = 4 ∨ i = 5 ∨ i = 6 ∨ i = 7 by omega) with rfl | rfl | rfl | rfl | rfl | rfl | rfl | rfl <;> simp [f_s, rnds, s_at]
    · simp [f_s, hb]
  | succ d ih =>
    intro t s f o10 o11 o12 o13 h1 hK
    have h3 := n_l (N := 64) (k := t) 64 rfl (by omega) (by decide)
    obtain ⟨f', hf1, hf2, hf3⟩ := ih (t + 1) (rnd s (s_t3 t) (f 7 t)) f (some (.inl ((rtn s.2.2.2.2.1 6 ^^^ rtn s.2.2.2.2.1 11) ^^^ rtn s.2.2.2.2.1 25))) (some (.inl (((((s.2.2.2.2.2.2.2 + ((rtn s.2.2.2.2.1 6 ^^^ rtn s.2.2.2.2.1 11) ^^^ rtn s.2.2.2.2.1 25)) + ((s.2.2.2.2.1 &&& s.2.2.2.2.2.1) ^^^ ((s.2.2.2.2.1 ^^^ (-1)) &&& s.2.2.2.2.2.2.1))) + s_t3 t) + f 7 t)))) (some (.inl ((rtn s.1 2 ^^^ rtn s.1 13) ^^^ rtn s.1 22))) (some (.inl ((((rtn s.1 2 ^^^ rtn s.1 13) ^^^ rtn s.1 22) + (((s.1 &&& s.2.1) ^^^ (s.1 &&& s.2.2.1)) ^^^ (s.2.1 &&& s.2.2.1)))))) (by omega) hK
    refine ⟨f', ?_, hf2, hf3⟩
    rw [← nI_1] at hf1
    rw [e_8_42, ← hf1]
    simp only [e_6_0, a_rec, U_i, U_si, U_cp, U_k, U_l, U_r, if_true, if_false, true_and, and_true, true_or, or_true, List.length_nil, List.length_cons, Nat.zero_le, c_I, c_R, c_V, d1, d3, d4, d7, d8, d13, d14, h3, i_c (show t < 2 ^ 31 by omega), i_t (show t < 64 by omega) (by decide), hK t (by omega), t23]
    rfl
theorem C_mix {M : mM} (hD : D_sh M) {f : Nat → Nat → Int32} (hK : ∀ i, i < 64 → f 2 i = s_t2 i) : ∃ f' : Nat → Nat → Int32, ev 8 0 [some (.inr 5), none, none, none, none, none, none, none, none, none, none, none, none, none] [] (mkU M f) = some (none, mkU M f') ∧ (∀ i, i < 8 → f' 8 i = f 8 i + s_at (rnds s_t3 (f 7) 0 64 (s_of (f 8))) i) ∧ ∀ b j, b ≠ 8 → f' b j = f b j := by
  obtain ⟨d1, d2, d3, d4, -, -, ⟨d9, d10⟩, -⟩ := id hD
  obtain ⟨f2, k1, k2, k3⟩ := C_mix2 hD 64 0 (s_of (f 8)) f none none none none rfl hK
  refine ⟨f2, ?_, k2, k3⟩
  rw [e_8_0]
  simp only [U_i, U_si, U_cp, U_k, U_l, U_r, if_true, if_false, true_and, and_true, true_or, or_true, List.length_nil, List.length_cons, Nat.zero_le, c_I, c_R, c_V, d1, d4, d9, d10, show h_in 0 8 from by decide, show h_in 1 8 from by decide, show h_in 2 8 from by decide, show h_in 3 8 from by decide, show h_in 4 8 from by decide, show h_in 5 8 from by decide, show h_in 6 8 from by decide, show h_in 7 8 from by decide]
  exact k1
