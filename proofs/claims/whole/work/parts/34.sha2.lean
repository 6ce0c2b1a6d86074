/-! SHA-256: the reference's digest, what it says and keeps -/
theorem n16 (g k : Nat) : (16 : Int32) * nI g + nI k = nI (16 * g + k) := by rw [show (16 : Int32) = nI 16 from rfl, pk_mul, nI_add]
theorem n16m {B : Nat} (h : 1 ≤ B) : (16 : Int32) * nI B - 1 = nI (16 * B - 1) := by rw [show (16 : Int32) = nI 16 from rfl, pk_mul, show (1 : Int32) = nI 1 from rfl, pk_sub (by omega)]
/-- a block is laid -/
theorem R_dig1 {t B b : Nat} (hb : b < B) (hB : B ≤ 4) (hBt : B = (t + 18) / 16) : ∀ (d k : Nat) (f : Nat → Nat → Int32) (o4 : Option mV), k + d = 16 → f 4 31 = nI t → ∃ (f' : Nat → Nat → Int32) (o : Option mV), ev 114 56 [some (.inr 4), some (.inl (nI B)), some (.inl (nI b)), some (.inl (nI k)), o4] [] (mkR f) = ev 114 56 [some (.inr 4), some (.inl (nI B)), some (.inl (nI b)), some (.inl (nI 16)), o] [] (mkR f') ∧ (∀ i, i < 16 → k ≤ i → f' 29 i = pad (f 30) t (16 * b + i)) ∧ (∀ i, i < k → f' 29 i = f 29 i) ∧ ∀ c j, c ≠ 29 → f' c j = f c j := by
  intro d
  induction d with
  | zero =>
    intro k f o4 h1 h2
    exact ⟨f, o4, by rw [show k = 16 by omega], fun i h3 h4 => by omega, fun _ _ => rfl, fun _ _ _ => rfl⟩
  | succ d ih =>
    intro k f o4 h1 h2
    have h3 := n_l (N := 16) (k := k) 16 rfl (by omega) (by decide)
    obtain ⟨f', o, g1, g2, g3, g4⟩ := ih (k + 1) (f_s f 29 k (pad (f 30) t (16 * b + k))) (some (.inl (nI (16 * b + k)))) (by omega) (by unfold f_s; rw [if_neg (by omega)]; exact h2)
    refine ⟨f', o, ?_, fun i h4 h5 => ?_, fun i h4 => ?_, fun c j hc => ?_⟩
    · rw [← g1, e_114_56]
      have ht : t < 2 ^ 31 := by omega
      simp only [kR1, kR2, kR3, kR4, kR5, kR6, kR7, kR8, kR9, kR10, kR11, kR12, kR13, kR14, kR15, kR16, kR17, kR18, kR19, kR20, kR21, kR22, kR23, kR24, kR25, kR26, kR27, kR28, kR29, kR30, lR1, lR2, lR3, lR4, lR5, lR6, lR7, lR8, lR9, lR10, lR11, lR12, lR13, lR14, lR15, lR16, lR17, lR18, lR19, lR20, lR21, lR22, lR23, lR24, lR25, lR26, lR27, lR28, lR29, lR30, rR5, rR6, rR7, rR8, rR9, rR10, rR11, rR12, rR13, rR14, rR15, rR16, rR17, rR18, rR19, rR20, rR21, rR22, rR23, rR24, rR25, rR26, rR27, rR28, rR29, rR30, R_i, R_si, R_rec, if_true, if_false, true_and, and_true, true_or, or_true, List.length_nil, List.length_cons, Nat.zero_le, c_I, c_R, c_V, h2, h3, n16, n16m (show 1 ≤ B by omega), e_114_96, i_c (show k < 2 ^ 31 by omega), i_c (show 16 * b + k < 2 ^ 31 by omega), i_t (show k < 64 by omega) (by decide), i_t (show 16 * b + k < 64 by omega) (by decide), nI_1]
      unfold pad
      by_cases c1 : 16 * b + k < t
      · have k1 := nI_ge c1 ht
        simp only [k1, if_false, c1, if_true]
      · have k1 : nI t ≤ nI (16 * b + k) := nI_le (by omega) (by omega)
        simp only [k1, if_true, c1, if_false]
        by_cases c2 : 16 * b + k = t
        · simp only [c2, if_true]
        · have k2 : ¬ nI (16 * b + k) = nI t := fun q => c2 ((nI_eq (by omega) ht).mp q)
          simp only [k2, c2, if_false]
          by_cases c3 : 16 * b + k = 16 * B - 1
          · have c3' : 16 * b + k = 16 * ((t + 18) / 16) - 1 := by omega
            simp only [← hBt, c3, if_true, n32']
          · have k3 : ¬ nI (16 * b + k) = nI (16 * B - 1) := fun q => c3 ((nI_eq (by omega) (by omega)).mp q)
            simp only [← hBt, c3, k3, if_false]
    · by_cases e : i = k
      · rw [e, g3 k (by omega)]; unfold f_s; rw [if_pos ⟨rfl, rfl⟩]
      · rw [g2 i h4 (by omega)]; congr 1
    · rw [g3 i (by omega)]; unfold f_s; rw [if_neg (by omega)]
    · rw [g4 c j hc]; unfold f_s; rw [if_neg (by omega)]
theorem R_dig2 {t B : Nat} (hB : B ≤ 4) (hBt : B = (t + 18) / 16) (w : Nat → Int32) : ∀ (d b : Nat) (f : Nat → Nat → Int32) (o3 o4 : Option mV), b + d = B → f 4 31 = nI t → (∀ i, i < 64 → f 3 i = s_t3 i) → (∀ i, i < t → f 30 i = w i) → (∀ i, i < 8 → f 28 i = dig w t b i) → ∃ f' : Nat → Nat → Int32, ev 114 51 [some (.inr 4), some (.inl (nI B)), some (.inl (nI b)), o3, o4] [] (mkR f) = some (none, mkR f') ∧ (∀ i, i < 8 → f' 28 i = dig w t B i) ∧ f' 4 31 = 0 ∧ ∀ c j, c ≠ 28 → c ≠ 29 → ¬ (c = 4 ∧ j = 31) → f' c j = f c j := by
  intro d
  induction d with
  | zero =>
    intro b f o3 o4 h1 h2 hK hw hh
    have k1 : nI B ≤ nI b := by rw [show b = B by omega]; exact nI_le (Nat.le_refl _) (by omega)
    refine ⟨f_s f 4 31 0, ?_, fun i hi => ?_, ?_, fun c j _ _ h5 => ?_⟩
    · rw [e_114_51]
      simp only [kR1, kR2, kR3, kR4, kR5, kR6, kR7, kR8, kR9, kR10, kR11, kR12, kR13, kR14, kR15, kR16, kR17, kR18, kR19, kR20, kR21, kR22, kR23, kR24, kR25, kR26, kR27, kR28, kR29, kR30, lR1, lR2, lR3, lR4, lR5, lR6, lR7, lR8, lR9, lR10, lR11, lR12, lR13, lR14, lR15, lR16, lR17, lR18, lR19, lR20, lR21, lR22, lR23, lR24, lR25, lR26, lR27, lR28, lR29, lR30, rR5, rR6, rR7, rR8, rR9, rR10, rR11, rR12, rR13, rR14, rR15, rR16, rR17, rR18, rR19, rR20, rR21, rR22, rR23, rR24, rR25, rR26, rR27, rR28, rR29, rR30, R_i, R_si, R_rec, if_true, if_false, true_and, and_true, true_or, or_true, List.length_nil, List.length_cons, Nat.zero_le, c_I, c_R, c_V, k1]
    · unfold f_s; rw [if_neg (by omega), hh i hi, show b = B by omega]
    · unfold f_s; rw [if_pos ⟨rfl, rfl⟩]
    · unfold f_s; rw [if_neg h5]
  | succ d ih =>
    intro b f o3 o4 h1 h2 hK hw hh
    have k1 := nI_ge (show b < B by omega) (show B < 2 ^ 31 by omega)
    obtain ⟨f1, o1, g1, g2, -, g4⟩ := R_dig1 (t := t) (show b < B by omega) hB hBt 16 0 f o4 rfl h2
    obtain ⟨f2, m1, m2, m3⟩ := R_mix (f := f1) (fun i hi => by rw [g4 3 i (by omega)]; exact hK i hi)
    obtain ⟨f3, q1, q2, q3, q4⟩ := ih (b + 1) f2 (some (.inl (nI 16))) o1 (by omega) (by rw [m3 4 31 (by omega) (by omega), g4 4 31 (by omega)]; exact h2) (fun i hi => by rw [m3 3 i (by omega) (by omega), g4 3 i (by omega)]; exact hK i hi) (fun i hi => by rw [m3 30 i (by omega) (by omega), g4 30 i (by omega)]; exact hw i hi) (fun i hi => by
      rw [m2 i hi, dig]
      refine mixh_congr (fun k hk => by rw [g4 28 k (by omega)]; exact hh k hk) (fun k hk => ?_) hi
      rw [g2 k hk (Nat.zero_le _)]
      unfold pad
      by_cases e : 16 * b + k < t
      · rw [if_pos e, if_pos e, hw _ e]
      · rw [if_neg e, if_neg e])
    refine ⟨f3, ?_, q2, q3, fun c j h5 h6 h7 => by rw [q4 c j h5 h6 h7, m3 c j h5 h6, g4 c j h6]⟩
    rw [e_114_51, if_neg k1]
    refine (g1.trans ?_)
    rw [e_114_56]
    simp only [show (16 : Int32) ≤ nI 16 from by decide, kR1, kR2, kR3, kR4, kR5, kR6, kR7, kR8, kR9, kR10, kR11, kR12, kR13, kR14, kR15, kR16, kR17, kR18, kR19, kR20, kR21, kR22, kR23, kR24, kR25, kR26, kR27, kR28, kR29, kR30, lR1, lR2, lR3, lR4, lR5, lR6, lR7, lR8, lR9, lR10, lR11, lR12, lR13, lR14, lR15, lR16, lR17, lR18, lR19, lR20, lR21, lR22, lR23, lR24, lR25, lR26, lR27, lR28, lR29, lR30, rR5, rR6, rR7, rR8, rR9, rR10, rR11, rR12, rR13, rR14, rR15, rR16, rR17, rR18, rR19, rR20, rR21, rR22, rR23, rR24, rR25, rR26, rR27, rR28, rR29, rR30, R_i, R_si, R_rec, if_true, if_false, true_and, and_true, true_or, or_true, List.length_nil, List.length_cons, Nat.zero_le, c_I, c_R, c_V, m1, nI_1]
    exact q1
set_option maxRecDepth 20000 in
theorem R_digest {t : Nat} {f : Nat → Nat → Int32} (ht : t ≤ 45) (h2 : f 4 31 = nI t) (hK : ∀ i, i < 64 → f 3 i = s_t3 i) : ∃ f' : Nat → Nat → Int32, ev 114 0 [some (.inr 4), none, none, none, none] [] (mkR f) = some (none, mkR f') ∧ (∀ i, i < 8 → f' 28 i = dgs (f 30) t i) ∧ f' 4 31 = 0 ∧ ∀ c j, c ≠ 28 → c ≠ 29 → ¬ (c = 4 ∧ j = 31) → f' c j = f c j := by
  have h := e_114_0 4 (mkR f)
  simp only [e_114_25, kR1, kR2, kR3, kR4, kR5, kR6, kR7, kR8, kR9, kR10, kR11, kR12, kR13, kR14, kR15, kR16, kR17, kR18, kR19, kR20, kR21, kR22, kR23, kR24, kR25, kR26, kR27, kR28, kR29, kR30, lR1, lR2, lR3, lR4, lR5, lR6, lR7, lR8, lR9, lR10, lR11, lR12, lR13, lR14, lR15, lR16, lR17, lR18, lR19, lR20, lR21, lR22, lR23, lR24, lR25, lR26, lR27, lR28, lR29, lR30, rR5, rR6, rR7, rR8, rR9, rR10, rR11, rR12, rR13, rR14, rR15, rR16, rR17, rR18, rR19, rR20, rR21, rR22, rR23, rR24, rR25, rR26, rR27, rR28, rR29, rR30, R_i, R_si, R_rec, if_true, if_false, true_and, and_true, true_or, or_true, List.length_nil, List.length_cons, Nat.zero_le, c_I, c_R, c_V, show h_in 0 8 from by decide, show h_in 1 8 from by decide, show h_in 2 8 from by decide, show h_in 3 8 from by decide, show h_in 4 8 from by decide, show h_in 5 8 from by decide, show h_in 6 8 from by decide, show h_in 7 8 from by decide] at h
  generalize hf0 : f_s (f_s (f_s (f_s (f_s (f_s (f_s (f_s f 28 0 1779033703) 28 1 (-1150833019)) 28 2 1013904242) 28 3 (-1521486534)) 28 4 1359893119) 28 5 (-1694144372)) 28 6 528734635) 28 7 1541459225 = f0 at h
  have e28 : ∀ i, i < 8 → f0 28 i = s_t1 i := by
    intro i hi
    subst hf0
    rcases (show i = 0 ∨ i = 1 ∨ i = 2 ∨ i = 3 ∨ i = 4 ∨ i = 5 ∨ i = 6 ∨ i = 7 by omega) with rfl | rfl | rfl | rfl | rfl | rfl | rfl | rfl <;> rfl
  have eo : ∀ c j, c ≠ 28 → f0 c j = f c j := by
    intro c j hc
    subst hf0
    simp [f_s, hc]
  have hB : nI t + 3 + 15 = nI (t + 18) := by rw [show (3 : Int32) = nI 3 from rfl, show (15 : Int32) = nI 15 from rfl, nI_add, nI_add]
  have hB2 : nI (t + 18) / 16 = nI ((t + 18) / 16) := pk_div (by omega) (by decide) (by decide)
  rw [eo 4 31 (by omega), h2, hB, hB2] at h
  obtain ⟨f', q1, q2, q3, q4⟩ := R_dig2 (t := t) (B := (t + 18) / 16) (by omega) rfl (f 30) ((t + 18) / 16) 0 f0 none none (by omega) (by rw [eo 4 31 (by omega)]; exact h2) (fun i hi => by rw [eo 3 i (by omega)]; exact hK i hi) (fun i hi => eo 30 i (by omega)) e28
  refine ⟨f', ?_, q2, q3, fun c j h5 h6 h7 => by rw [q4 c j h5 h6 h7, eo c j h5]⟩
  rw [h]
  simp only [show (¬ (16 : Nat) = 0) from by decide, if_true, not_false_eq_true]
  exact q1
theorem R_say {t : Nat} {f : Nat → Nat → Int32} {v : Int32} (ht : t < 64) (h : f 4 31 = nI t) : ev 111 0 [some (.inr 4), some (.inl v)] [] (mkR f) = some (none, mkR (f_s (f_s f 30 t v) 4 31 (nI (t + 1)))) := by
  have h2 : f_s f 30 t v 4 31 = nI t := by unfold f_s; rw [if_neg (by omega)]; exact h
  simp only [e_111_0, kR1, kR2, kR3, kR4, kR5, kR6, kR7, kR8, kR9, kR10, kR11, kR12, kR13, kR14, kR15, kR16, kR17, kR18, kR19, kR20, kR21, kR22, kR23, kR24, kR25, kR26, kR27, kR28, kR29, kR30, lR1, lR2, lR3, lR4, lR5, lR6, lR7, lR8, lR9, lR10, lR11, lR12, lR13, lR14, lR15, lR16, lR17, lR18, lR19, lR20, lR21, lR22, lR23, lR24, lR25, lR26, lR27, lR28, lR29, lR30, rR5, rR6, rR7, rR8, rR9, rR10, rR11, rR12, rR13, rR14, rR15, rR16, rR17, rR18, rR19, rR20, rR21, rR22, rR23, rR24, rR25, rR26, rR27, rR28, rR29, rR30, R_i, R_si, R_rec, if_true, if_false, true_and, and_true, true_or, or_true, List.length_nil, List.length_cons, Nat.zero_le, c_I, c_R, c_V, h, i_t ht (N := 64) (by decide), i_c (show t < 2 ^ 31 by omega), h2, nI_1]
theorem n488 (r i k : Nat) : (40 : Int32) * nI r + 8 * nI i + nI k = nI (40 * r + 8 * i + k) := by rw [n40', n8', nI_add, nI_add]
theorem R_sayM {t rd m : Nat} {f : Nat → Nat → Int32} (ht : t + 8 ≤ 64) (hrd : rd < 96) (hm : m < 5) (h : f 4 31 = nI t) : ∃ f' : Nat → Nat → Int32, ev 112 0 [some (.inr 4), some (.inl (nI rd)), some (.inl (nI m)), none] [] (mkR f) = some (none, mkR f') ∧ f' 4 31 = nI (t + 8) ∧ (∀ i, i < t → f' 30 i = f 30 i) ∧ (∀ k, k < 8 → f' 30 (t + k) = f 11 (40 * rd + 8 * m + k)) ∧ ∀ c j, c ≠ 30 → ¬ (c = 4 ∧ j = 31) → f' c j = f c j := by
  have key : ∀ (d k : Nat) (f : Nat → Nat → Int32), k + d = 8 → f 4 31 = nI (t + k) → ∃ f' : Nat → Nat → Int32, ev 112 2 [some (.inr 4), some (.inl (nI rd)), some (.inl (nI m)), some (.inl (nI k))] [] (mkR f) = some (none, mkR f') ∧ f' 4 31 = nI (t + 8) ∧ (∀ i, i < t + k → f' 30 i = f 30 i) ∧ (∀ i, k ≤ i → i < 8 → f' 30 (t + i) = f 11 (40 * rd + 8 * m + i)) ∧ ∀ c j, c ≠ 30 → ¬ (c = 4 ∧ j = 31) → f' c j = f c j := by
    intro d
    induction d with
    | zero =>
      intro k f h1 h2
      refine ⟨f, ?_, by rw [h2, show k = 8 by omega], fun _ _ => rfl, fun i h3 h4 => by omega, fun _ _ _ _ => rfl⟩
      rw [show k = 8 by omega, e_112_2, if_pos (by decide)]
    | succ d ih =>
      intro k f h1 h2
      have h3 := n_l (N := 8) (k := k) 8 rfl (by omega) (by decide)
      obtain ⟨f', g1, g2, g3, g4, g5⟩ := ih (k + 1) (f_s (f_s f 30 (t + k) (f 11 (40 * rd + 8 * m + k))) 4 31 (nI (t + k + 1))) (by omega) (by unfold f_s; rw [if_pos ⟨rfl, rfl⟩]; rfl)
      refine ⟨f', ?_, g2, fun i hi => ?_, fun i h4 h5 => ?_, fun c j h4 h5 => ?_⟩
      · rw [e_112_2]
        simp only [kR1, kR2, kR3, kR4, kR5, kR6, kR7, kR8, kR9, kR10, kR11, kR12, kR13, kR14, kR15, kR16, kR17, kR18, kR19, kR20, kR21, kR22, kR23, kR24, kR25, kR26, kR27, kR28, kR29, kR30, lR1, lR2, lR3, lR4, lR5, lR6, lR7, lR8, lR9, lR10, lR11, lR12, lR13, lR14, lR15, lR16, lR17, lR18, lR19, lR20, lR21, lR22, lR23, lR24, lR25, lR26, lR27, lR28, lR29, lR30, rR5, rR6, rR7, rR8, rR9, rR10, rR11, rR12, rR13, rR14, rR15, rR16, rR17, rR18, rR19, rR20, rR21, rR22, rR23, rR24, rR25, rR26, rR27, rR28, rR29, rR30, R_i, R_si, R_rec, if_true, if_false, true_and, and_true, true_or, or_true, List.length_nil, List.length_cons, Nat.zero_le, c_I, c_R, c_V, h3, n488, i_c (show 40 * rd + 8 * m + k < 2 ^ 31 by omega), i_t (show 40 * rd + 8 * m + k < 3840 by omega) (by decide), R_say (show t + k < 64 by omega) h2, nI_1]
        exact g1
      · rw [g3 i (by omega)]; unfold f_s; rw [if_neg (by omega), if_neg (by omega)]
      · by_cases e : i = k
        · rw [e, g3 (t + k) (by omega)]; unfold f_s; rw [if_neg (by omega), if_pos ⟨rfl, rfl⟩]
        · rw [g4 i (by omega) h5]; unfold f_s; rw [if_neg (by omega), if_neg (by omega)]
      · rw [g5 c j h4 h5]; unfold f_s; rw [if_neg h5, if_neg (by omega)]
  obtain ⟨f', g1, g2, g3, g4, g5⟩ := key 8 0 f rfl h
  exact ⟨f', by rw [e_112_0]; exact g1, g2, g3, fun k hk => g4 k (Nat.zero_le _) hk, g5⟩
theorem R_keep {t rd m : Nat} {f : Nat → Nat → Int32} (ht : t ≤ 45) (hrd : rd < 96) (hm : m < 5) (h : f 4 31 = nI t) (hK : ∀ i, i < 64 → f 3 i = s_t3 i) : ∃ f' : Nat → Nat → Int32, ev 115 0 [some (.inr 4), some (.inl (nI rd)), some (.inl (nI m)), none] [] (mkR f) = some (none, mkR f') ∧ (∀ k, k < 8 → f' 11 (40 * rd + 8 * m + k) = dgs (f 30) t k) ∧ f' 4 31 = 0 ∧ (∀ j, ¬ (40 * rd + 8 * m ≤ j ∧ j < 40 * rd + 8 * m + 8) → f' 11 j = f 11 j) ∧ ∀ c j, c ≠ 11 → c ≠ 28 → c ≠ 29 → ¬ (c = 4 ∧ j = 31) → f' c j = f c j := by
  have key : ∀ (d k : Nat) (f : Nat → Nat → Int32), k + d = 8 → ev 115 4 [some (.inr 4), some (.inl (nI rd)), some (.inl (nI m)), some (.inl (nI k))] [] (mkR f) = some (none, mkR (f_r f 11 (40 * rd + 8 * m + k) (40 * rd + 8 * m + 8) (fun j => f 28 (j - (40 * rd + 8 * m))))) := by
    intro d
    induction d with
    | zero =>
      intro k f h1
      rw [show k = 8 by omega, e_115_4, if_pos (by decide), f_r0]
    | succ d ih =>
      intro k f h1
      have h3 := n_l (N := 8) (k := k) 8 rfl (by omega) (by decide)
      rw [e_115_4]
      simp only [kR1, kR2, kR3, kR4, kR5, kR6, kR7, kR8, kR9, kR10, kR11, kR12, kR13, kR14, kR15, kR16, kR17, kR18, kR19, kR20, kR21, kR22, kR23, kR24, kR25, kR26, kR27, kR28, kR29, kR30, lR1, lR2, lR3, lR4, lR5, lR6, lR7, lR8, lR9, lR10, lR11, lR12, lR13, lR14, lR15, lR16, lR17, lR18, lR19, lR20, lR21, lR22, lR23, lR24, lR25, lR26, lR27, lR28, lR29, lR30, rR5, rR6, rR7, rR8, rR9, rR10, rR11, rR12, rR13, rR14, rR15, rR16, rR17, rR18, rR19, rR20, rR21, rR22, rR23, rR24, rR25, rR26, rR27, rR28, rR29, rR30, R_i, R_si, R_rec, if_true, if_false, true_and, and_true, true_or, or_true, List.length_nil, List.length_cons, Nat.zero_le, c_I, c_R, c_V, h3, n488, i_c (show 40 * rd + 8 * m + k < 2 ^ 31 by omega), i_t (show 40 * rd + 8 * m + k < 3840 by omega) (by decide), i_c (show k < 2 ^ 31 by omega), i_t (show k < 8 by omega) (by decide), nI_1, ih (k + 1) _ (show k + 1 + d = 8 by omega)]
      have e1 : (fun j => f_s f 11 (40 * rd + 8 * m + k) (f 28 k) 28 (j - (40 * rd + 8 * m))) = fun j => f 28 (j - (40 * rd + 8 * m)) := by
        funext j; unfold f_s; rw [if_neg (by omega)]
      rw [e1, ← Nat.add_assoc]
      have e2 := f_rs f 11 (40 * rd + 8 * m + k) (40 * rd + 8 * m + 8) (fun j => f 28 (j - (40 * rd + 8 * m))) (by omega)
      simp only [Nat.add_sub_cancel_left] at e2
      rw [e2]
  obtain ⟨f1, q1, q2, q3, q4⟩ := R_digest ht h hK
  refine ⟨f_r f1 11 (40 * rd + 8 * m + 0) (40 * rd + 8 * m + 8) (fun j => f1 28 (j - (40 * rd + 8 * m))), ?_, fun k hk => ?_, ?_, fun j hj => ?_, fun c j h5 h6 h7 h8 => ?_⟩
  · rw [e_115_0]
    simp only [kR1, kR2, kR3, kR4, kR5, kR6, kR7, kR8, kR9, kR10, kR11, kR12, kR13, kR14, kR15, kR16, kR17, kR18, kR19, kR20, kR21, kR22, kR23, kR24, kR25, kR26, kR27, kR28, kR29, kR30, lR1, lR2, lR3, lR4, lR5, lR6, lR7, lR8, lR9, lR10, lR11, lR12, lR13, lR14, lR15, lR16, lR17, lR18, lR19, lR20, lR21, lR22, lR23, lR24, lR25, lR26, lR27, lR28, lR29, lR30, rR5, rR6, rR7, rR8, rR9, rR10, rR11, rR12, rR13, rR14, rR15, rR16, rR17, rR18, rR19, rR20, rR21, rR22, rR23, rR24, rR25, rR26, rR27, rR28, rR29, rR30, R_i, R_si, R_rec, if_true, if_false, true_and, and_true, true_or, or_true, List.length_nil, List.length_cons, Nat.zero_le, c_I, c_R, c_V, q1]
    exact key 8 0 f1 rfl
  · unfold f_r; rw [if_pos (by omega)]; dsimp only; rw [show 40 * rd + 8 * m + k - (40 * rd + 8 * m) = k by omega]; exact q2 k hk
  · unfold f_r; rw [if_neg (by omega)]; exact q3
  · unfold f_r; rw [if_neg (by omega)]; exact q4 11 j (by omega) (by omega) (by omega)
  · unfold f_r; rw [if_neg (by omega)]; exact q4 c j h6 h7 h8
