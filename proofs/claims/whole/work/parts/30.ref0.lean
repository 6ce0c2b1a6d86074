/-! THE REFERENCE: its heap is its ints alone -/
def R_k (a : Nat) : Nat := if a = 0 then 0 else if a ≤ 3 then 14 else if a = 4 then 8 else if a = 18 then 10 else if a ≤ 30 then 9 else 0
def R_ls : List Nat := [0, 8, 64, 64, 32, 96, 3072, 96, 96, 96, 96, 3840, 96, 96, 768, 768, 768, 96, 96, 768, 96, 96, 96, 96, 96, 96, 96, 96, 8, 64, 64]
def R_l (a : Nat) : Nat := R_ls.getD a 0
def R_r (a k : Nat) : Nat := if a = 4 ∧ 5 ≤ k ∧ k ≤ 30 then k else 0
def mkR (f : Nat → Nat → Int32) : mM := (30, 10368, R_k, R_l, f, R_r)
def f_s (f : Nat → Nat → Int32) (a k : Nat) (x : Int32) : Nat → Nat → Int32 := fun b j => if b = a ∧ j = k then x else f b j
theorem R_si (f : Nat → Nat → Int32) (a k : Nat) (x : Int32) : h_si (mkR f) a k x = mkR (f_s f a k x) := rfl
theorem R_i (f : Nat → Nat → Int32) (a k : Nat) : h_i (mkR f) a k = f a k := rfl
theorem kR1 (f : Nat → Nat → Int32) : h_k (mkR f) 1 = 14 := rfl
theorem lR1 (f : Nat → Nat → Int32) : h_l (mkR f) 1 = 8 := rfl
theorem kR2 (f : Nat → Nat → Int32) : h_k (mkR f) 2 = 14 := rfl
theorem lR2 (f : Nat → Nat → Int32) : h_l (mkR f) 2 = 64 := rfl
theorem kR3 (f : Nat → Nat → Int32) : h_k (mkR f) 3 = 14 := rfl
theorem lR3 (f : Nat → Nat → Int32) : h_l (mkR f) 3 = 64 := rfl
theorem kR4 (f : Nat → Nat → Int32) : h_k (mkR f) 4 = 8 := rfl
theorem lR4 (f : Nat → Nat → Int32) : h_l (mkR f) 4 = 32 := rfl
theorem kR5 (f : Nat → Nat → Int32) : h_k (mkR f) 5 = 9 := rfl
theorem lR5 (f : Nat → Nat → Int32) : h_l (mkR f) 5 = 96 := rfl
theorem rR5 (f : Nat → Nat → Int32) : h_r (mkR f) 4 5 = 5 := rfl
theorem kR6 (f : Nat → Nat → Int32) : h_k (mkR f) 6 = 9 := rfl
theorem lR6 (f : Nat → Nat → Int32) : h_l (mkR f) 6 = 3072 := rfl
theorem rR6 (f : Nat → Nat → Int32) : h_r (mkR f) 4 6 = 6 := rfl
theorem kR7 (f : Nat → Nat → Int32) : h_k (mkR f) 7 = 9 := rfl
theorem lR7 (f : Nat → Nat → Int32) : h_l (mkR f) 7 = 96 := rfl
theorem rR7 (f : Nat → Nat → Int32) : h_r (mkR f) 4 7 = 7 := rfl
theorem kR8 (f : Nat → Nat → Int32) : h_k (mkR f) 8 = 9 := rfl
theorem lR8 (f : Nat → Nat → Int32) : h_l (mkR f) 8 = 96 := rfl
theorem rR8 (f : Nat → Nat → Int32) : h_r (mkR f) 4 8 = 8 := rfl
theorem kR9 (f : Nat → Nat → Int32) : h_k (mkR f) 9 = 9 := rfl
theorem lR9 (f : Nat → Nat → Int32) : h_l (mkR f) 9 = 96 := rfl
theorem rR9 (f : Nat → Nat → Int32) : h_r (mkR f) 4 9 = 9 := rfl
theorem kR10 (f : Nat → Nat → Int32) : h_k (mkR f) 10 = 9 := rfl
theorem lR10 (f : Nat → Nat → Int32) : h_l (mkR f) 10 = 96 := rfl
theorem rR10 (f : Nat → Nat → Int32) : h_r (mkR f) 4 10 = 10 := rfl
theorem kR11 (f : Nat → Nat → Int32) : h_k (mkR f) 11 = 9 := rfl
theorem lR11 (f : Nat → Nat → Int32) : h_l (mkR f) 11 = 3840 := rfl
theorem rR11 (f : Nat → Nat → Int32) : h_r (mkR f) 4 11 = 11 := rfl
theorem kR12 (f : Nat → Nat → Int32) : h_k (mkR f) 12 = 9 := rfl
theorem lR12 (f : Nat → Nat → Int32) : h_l (mkR f) 12 = 96 := rfl
theorem rR12 (f : Nat → Nat → Int32) : h_r (mkR f) 4 12 = 12 := rfl
theorem kR13 (f : Nat → Nat → Int32) : h_k (mkR f) 13 = 9 := rfl
theorem lR13 (f : Nat → Nat → Int32) : h_l (mkR f) 13 = 96 := rfl
theorem rR13 (f : Nat → Nat → Int32) : h_r (mkR f) 4 13 = 13 := rfl
theorem kR14 (f : Nat → Nat → Int32) : h_k (mkR f) 14 = 9 := rfl
theorem lR14 (f : Nat → Nat → Int32) : h_l (mkR f) 14 = 768 := rfl
theorem rR14 (f : Nat → Nat → Int32) : h_r (mkR f) 4 14 = 14 := rfl
theorem kR15 (f : Nat → Nat → Int32) : h_k (mkR f) 15 = 9 := rfl
theorem lR15 (f : Nat → Nat → Int32) : h_l (mkR f) 15 = 768 := rfl
theorem rR15 (f : Nat → Nat → Int32) : h_r (mkR f) 4 15 = 15 := rfl
theorem kR16 (f : Nat → Nat → Int32) : h_k (mkR f) 16 = 9 := rfl
theorem lR16 (f : Nat → Nat → Int32) : h_l (mkR f) 16 = 768 := rfl
theorem rR16 (f : Nat → Nat → Int32) : h_r (mkR f) 4 16 = 16 := rfl
theorem kR17 (f : Nat → Nat → Int32) : h_k (mkR f) 17 = 9 := rfl
theorem lR17 (f : Nat → Nat → Int32) : h_l (mkR f) 17 = 96 := rfl
theorem rR17 (f : Nat → Nat → Int32) : h_r (mkR f) 4 17 = 17 := rfl
theorem kR18 (f : Nat → Nat → Int32) : h_k (mkR f) 18 = 10 := rfl
theorem lR18 (f : Nat → Nat → Int32) : h_l (mkR f) 18 = 96 := rfl
theorem rR18 (f : Nat → Nat → Int32) : h_r (mkR f) 4 18 = 18 := rfl
theorem kR19 (f : Nat → Nat → Int32) : h_k (mkR f) 19 = 9 := rfl
theorem lR19 (f : Nat → Nat → Int32) : h_l (mkR f) 19 = 768 := rfl
theorem rR19 (f : Nat → Nat → Int32) : h_r (mkR f) 4 19 = 19 := rfl
theorem kR20 (f : Nat → Nat → Int32) : h_k (mkR f) 20 = 9 := rfl
theorem lR20 (f : Nat → Nat → Int32) : h_l (mkR f) 20 = 96 := rfl
theorem rR20 (f : Nat → Nat → Int32) : h_r (mkR f) 4 20 = 20 := rfl
theorem kR21 (f : Nat → Nat → Int32) : h_k (mkR f) 21 = 9 := rfl
theorem lR21 (f : Nat → Nat → Int32) : h_l (mkR f) 21 = 96 := rfl
theorem rR21 (f : Nat → Nat → Int32) : h_r (mkR f) 4 21 = 21 := rfl
theorem kR22 (f : Nat → Nat → Int32) : h_k (mkR f) 22 = 9 := rfl
theorem lR22 (f : Nat → Nat → Int32) : h_l (mkR f) 22 = 96 := rfl
theorem rR22 (f : Nat → Nat → Int32) : h_r (mkR f) 4 22 = 22 := rfl
theorem kR23 (f : Nat → Nat → Int32) : h_k (mkR f) 23 = 9 := rfl
theorem lR23 (f : Nat → Nat → Int32) : h_l (mkR f) 23 = 96 := rfl
theorem rR23 (f : Nat → Nat → Int32) : h_r (mkR f) 4 23 = 23 := rfl
theorem kR24 (f : Nat → Nat → Int32) : h_k (mkR f) 24 = 9 := rfl
theorem lR24 (f : Nat → Nat → Int32) : h_l (mkR f) 24 = 96 := rfl
theorem rR24 (f : Nat → Nat → Int32) : h_r (mkR f) 4 24 = 24 := rfl
theorem kR25 (f : Nat → Nat → Int32) : h_k (mkR f) 25 = 9 := rfl
theorem lR25 (f : Nat → Nat → Int32) : h_l (mkR f) 25 = 96 := rfl
theorem rR25 (f : Nat → Nat → Int32) : h_r (mkR f) 4 25 = 25 := rfl
theorem kR26 (f : Nat → Nat → Int32) : h_k (mkR f) 26 = 9 := rfl
theorem lR26 (f : Nat → Nat → Int32) : h_l (mkR f) 26 = 96 := rfl
theorem rR26 (f : Nat → Nat → Int32) : h_r (mkR f) 4 26 = 26 := rfl
theorem kR27 (f : Nat → Nat → Int32) : h_k (mkR f) 27 = 9 := rfl
theorem lR27 (f : Nat → Nat → Int32) : h_l (mkR f) 27 = 96 := rfl
theorem rR27 (f : Nat → Nat → Int32) : h_r (mkR f) 4 27 = 27 := rfl
theorem kR28 (f : Nat → Nat → Int32) : h_k (mkR f) 28 = 9 := rfl
theorem lR28 (f : Nat → Nat → Int32) : h_l (mkR f) 28 = 8 := rfl
theorem rR28 (f : Nat → Nat → Int32) : h_r (mkR f) 4 28 = 28 := rfl
theorem kR29 (f : Nat → Nat → Int32) : h_k (mkR f) 29 = 9 := rfl
theorem lR29 (f : Nat → Nat → Int32) : h_l (mkR f) 29 = 64 := rfl
theorem rR29 (f : Nat → Nat → Int32) : h_r (mkR f) 4 29 = 29 := rfl
theorem kR30 (f : Nat → Nat → Int32) : h_k (mkR f) 30 = 9 := rfl
theorem lR30 (f : Nat → Nat → Int32) : h_l (mkR f) 30 = 64 := rfl
theorem rR30 (f : Nat → Nat → Int32) : h_r (mkR f) 4 30 = 30 := rfl

theorem R_rec (f : Nat → Nat → Int32) (as : List mV) : a_rec (mkR f) 8 (.inr 4 :: as) = true := rfl
theorem i_nn {j N : Nat} (h : j < N) (hN : N < 2 ^ 31) : h_in (nI j) N := vp_in_nI h hN
theorem i_t {α : Type} {j N : Nat} (h : j < N) (hN : N < 2 ^ 31) {d : Decidable (h_in (nI j) N)} (a b : α) : @ite α (h_in (nI j) N) d a b = a := if_pos (i_nn h hN)
theorem i_c {j : Nat} (h : j < 2 ^ 31) : (nI j).toNatClampNeg = j := nI_clamp h
theorem R_isG0 {n : Nat} {f : Nat → Nat → Int32} (hn : f 4 0 = nI n) {x : Int32} (h : x < 0 ∨ nI n ≤ x) : ev 107 0 [some (.inr 4), some (.inl x)] [] (mkR f) = some (some (.inl 0), mkR f) := by
  simp only [e_107_0, e_107_8, e_107_9, kR1, kR2, kR3, kR4, kR5, kR6, kR7, kR8, kR9, kR10, kR11, kR12, kR13, kR14, kR15, kR16, kR17, kR18, kR19, kR20, kR21, kR22, kR23, kR24, kR25, kR26, kR27, kR28, kR29, kR30, lR1, lR2, lR3, lR4, lR5, lR6, lR7, lR8, lR9, lR10, lR11, lR12, lR13, lR14, lR15, lR16, lR17, lR18, lR19, lR20, lR21, lR22, lR23, lR24, lR25, lR26, lR27, lR28, lR29, lR30, rR5, rR6, rR7, rR8, rR9, rR10, rR11, rR12, rR13, rR14, rR15, rR16, rR17, rR18, rR19, rR20, rR21, rR22, rR23, rR24, rR25, rR26, rR27, rR28, rR29, rR30, R_i, R_si, R_rec, if_true, if_false, true_and, and_true, true_or, or_true, List.length_nil, List.length_cons, Nat.zero_le, c_I, c_R, c_V, hn]
  by_cases h1 : x < 0
  · simp [h1]
  · simp [h1, h.resolve_left h1]
theorem R_isG1 {n : Nat} {f : Nat → Nat → Int32} (hn : f 4 0 = nI n) {j : Nat} (h : j < n) (hN : n < 2 ^ 31) : ev 107 0 [some (.inr 4), some (.inl (nI j))] [] (mkR f) = some (some (.inl 1), mkR f) := by
  have h1 := nI_pos (n := j) (by omega)
  have h2 := nI_ge h hN
  simp only [e_107_0, e_107_9, kR1, kR2, kR3, kR4, kR5, kR6, kR7, kR8, kR9, kR10, kR11, kR12, kR13, kR14, kR15, kR16, kR17, kR18, kR19, kR20, kR21, kR22, kR23, kR24, kR25, kR26, kR27, kR28, kR29, kR30, lR1, lR2, lR3, lR4, lR5, lR6, lR7, lR8, lR9, lR10, lR11, lR12, lR13, lR14, lR15, lR16, lR17, lR18, lR19, lR20, lR21, lR22, lR23, lR24, lR25, lR26, lR27, lR28, lR29, lR30, rR5, rR6, rR7, rR8, rR9, rR10, rR11, rR12, rR13, rR14, rR15, rR16, rR17, rR18, rR19, rR20, rR21, rR22, rR23, rR24, rR25, rR26, rR27, rR28, rR29, rR30, R_i, R_si, R_rec, if_true, if_false, true_and, and_true, true_or, or_true, List.length_nil, List.length_cons, Nat.zero_le, c_I, c_R, c_V, hn, h1, h2]
theorem R_is {f : Nat → Nat → Int32} {j : Nat} {x : Int32} (h : j < 96) : ev 108 0 [some (.inr 4), some (.inl (nI j)), some (.inl x)] [] (mkR f) = some (some (.inl (if f 5 j = x then 1 else 0)), mkR f) := by
  have h2 := i_c (j := j) (by omega)
  simp only [e_108_0, e_108_9, kR1, kR2, kR3, kR4, kR5, kR6, kR7, kR8, kR9, kR10, kR11, kR12, kR13, kR14, kR15, kR16, kR17, kR18, kR19, kR20, kR21, kR22, kR23, kR24, kR25, kR26, kR27, kR28, kR29, kR30, lR1, lR2, lR3, lR4, lR5, lR6, lR7, lR8, lR9, lR10, lR11, lR12, lR13, lR14, lR15, lR16, lR17, lR18, lR19, lR20, lR21, lR22, lR23, lR24, lR25, lR26, lR27, lR28, lR29, lR30, rR5, rR6, rR7, rR8, rR9, rR10, rR11, rR12, rR13, rR14, rR15, rR16, rR17, rR18, rR19, rR20, rR21, rR22, rR23, rR24, rR25, rR26, rR27, rR28, rR29, rR30, R_i, R_si, R_rec, if_true, if_false, true_and, and_true, true_or, or_true, List.length_nil, List.length_cons, Nat.zero_le, c_I, c_R, c_V, i_t h (N := 96) (by decide), h2]
  split <;> rfl
theorem R_no {f : Nat → Nat → Int32} {x : Int32} : ev 106 0 [some (.inr 4), some (.inl x)] [] (mkR f) = some (some (.inl (if x = 0 then 1 else 0)), mkR (f_s f 4 1 x)) := by
  simp only [e_106_0, e_106_8, kR1, kR2, kR3, kR4, kR5, kR6, kR7, kR8, kR9, kR10, kR11, kR12, kR13, kR14, kR15, kR16, kR17, kR18, kR19, kR20, kR21, kR22, kR23, kR24, kR25, kR26, kR27, kR28, kR29, kR30, lR1, lR2, lR3, lR4, lR5, lR6, lR7, lR8, lR9, lR10, lR11, lR12, lR13, lR14, lR15, lR16, lR17, lR18, lR19, lR20, lR21, lR22, lR23, lR24, lR25, lR26, lR27, lR28, lR29, lR30, rR5, rR6, rR7, rR8, rR9, rR10, rR11, rR12, rR13, rR14, rR15, rR16, rR17, rR18, rR19, rR20, rR21, rR22, rR23, rR24, rR25, rR26, rR27, rR28, rR29, rR30, R_i, R_si, R_rec, if_true, if_false, true_and, and_true, true_or, or_true, List.length_nil, List.length_cons, Nat.zero_le, c_I, c_R, c_V]
  split <;> rfl
theorem R_refuse {f : Nat → Nat → Int32} {x : Int32} : ev 105 0 [some (.inr 4), some (.inl x)] [] (mkR f) = some (some (.inl (-1)), mkR (f_s f 4 1 x)) := by
  simp only [e_105_0, kR1, kR2, kR3, kR4, kR5, kR6, kR7, kR8, kR9, kR10, kR11, kR12, kR13, kR14, kR15, kR16, kR17, kR18, kR19, kR20, kR21, kR22, kR23, kR24, kR25, kR26, kR27, kR28, kR29, kR30, lR1, lR2, lR3, lR4, lR5, lR6, lR7, lR8, lR9, lR10, lR11, lR12, lR13, lR14, lR15, lR16, lR17, lR18, lR19, lR20, lR21, lR22, lR23, lR24, lR25, lR26, lR27, lR28, lR29, lR30, rR5, rR6, rR7, rR8, rR9, rR10, rR11, rR12, rR13, rR14, rR15, rR16, rR17, rR18, rR19, rR20, rR21, rR22, rR23, rR24, rR25, rR26, rR27, rR28, rR29, rR30, R_i, R_si, R_rec, if_true, if_false, true_and, and_true, true_or, or_true, List.length_nil, List.length_cons, Nat.zero_le, c_I, c_R, c_V]
/-- become: the state, the owner, the words -/
def f_b (f : Nat → Nat → Int32) (g : Nat) (x o : Int32) : Nat → Nat → Int32 := fun b j => if b = 6 ∧ 32 * g ≤ j ∧ j < 32 * g + 32 then 0 else f_s (f_s f 5 g x) 7 g o b j
theorem n32 (g k : Nat) : (32 : Int32) * nI g + nI k = nI (32 * g + k) := by rw [show (32 : Int32) = nI 32 from rfl, pk_mul, nI_add]
theorem n40 (g k : Nat) : (40 : Int32) * nI g + nI k = nI (40 * g + k) := by rw [show (40 : Int32) = nI 40 from rfl, pk_mul, nI_add]
theorem n8 (g k : Nat) : (8 : Int32) * nI g + nI k = nI (8 * g + k) := by rw [show (8 : Int32) = nI 8 from rfl, pk_mul, nI_add]
theorem n8' (g : Nat) : (8 : Int32) * nI g = nI (8 * g) := by rw [show (8 : Int32) = nI 8 from rfl, pk_mul]
theorem n32' (g : Nat) : (32 : Int32) * nI g = nI (32 * g) := by rw [show (32 : Int32) = nI 32 from rfl, pk_mul]
theorem n40' (g : Nat) : (40 : Int32) * nI g = nI (40 * g) := by rw [show (40 : Int32) = nI 40 from rfl, pk_mul]
theorem n_l {N k : Nat} (x : Int32) (hx : x = nI N) (h : k < N) (hN : N < 2 ^ 31) : ¬ x ≤ nI k := by rw [hx]; exact nI_ge h hN
/-- places lo .. hi - 1 of a row become what g says -/
def f_r (f : Nat → Nat → Int32) (a lo hi : Nat) (g : Nat → Int32) : Nat → Nat → Int32 := fun b j => if b = a ∧ lo ≤ j ∧ j < hi then g j else f b j
theorem f_r0 (f : Nat → Nat → Int32) (a lo : Nat) (g : Nat → Int32) : f_r f a lo lo g = f := by
  funext b j; unfold f_r; rw [if_neg (by omega)]
theorem f_rs (f : Nat → Nat → Int32) (a lo hi : Nat) (g : Nat → Int32) (h : lo < hi) : f_r (f_s f a lo (g lo)) a (lo + 1) hi g = f_r f a lo hi g := by
  funext b j
  unfold f_r f_s
  by_cases hb : b = a
  · by_cases hj : j = lo
    · subst hb; subst hj; rw [if_neg (by omega), if_pos ⟨rfl, rfl⟩, if_pos (by omega)]
    · by_cases h1 : lo ≤ j ∧ j < hi
      · rw [if_pos (by omega), if_pos (by omega)]
      · rw [if_neg (by omega), if_neg (by omega), if_neg (by omega)]
  · rw [if_neg (by omega), if_neg (by omega), if_neg (by omega)]
theorem R_become {f : Nat → Nat → Int32} {g : Nat} {x o : Int32} (h : g < 96) : ev 109 0 [some (.inr 4), some (.inl (nI g)), some (.inl x), some (.inl o), none] [] (mkR f) = some (none, mkR (f_b f g x o)) := by
  have key : ∀ (d k : Nat) (f : Nat → Nat → Int32), k + d = 32 → ev 109 12 [some (.inr 4), some (.inl (nI g)), some (.inl x), some (.inl o), some (.inl (nI k))] [] (mkR f) = some (none, mkR (f_r f 6 (32 * g + k) (32 * g + 32) (fun _ => 0))) := by
    intro d
    induction d with
    | zero =>
      intro k f hk
      rw [e_109_12, if_pos (by rw [show k = 32 by omega]; decide), show 32 * g + k = 32 * g + 32 by omega, f_r0]
    | succ d ih =>
      intro k f hk
      have h2 := i_c (show 32 * g + k < 2 ^ 31 by omega)
      have h3 := n_l (N := 32) (k := k) 32 rfl (by omega) (by decide)
      simp only [e_109_12, kR1, kR2, kR3, kR4, kR5, kR6, kR7, kR8, kR9, kR10, kR11, kR12, kR13, kR14, kR15, kR16, kR17, kR18, kR19, kR20, kR21, kR22, kR23, kR24, kR25, kR26, kR27, kR28, kR29, kR30, lR1, lR2, lR3, lR4, lR5, lR6, lR7, lR8, lR9, lR10, lR11, lR12, lR13, lR14, lR15, lR16, lR17, lR18, lR19, lR20, lR21, lR22, lR23, lR24, lR25, lR26, lR27, lR28, lR29, lR30, rR5, rR6, rR7, rR8, rR9, rR10, rR11, rR12, rR13, rR14, rR15, rR16, rR17, rR18, rR19, rR20, rR21, rR22, rR23, rR24, rR25, rR26, rR27, rR28, rR29, rR30, R_i, R_si, R_rec, if_true, if_false, true_and, and_true, true_or, or_true, List.length_nil, List.length_cons, Nat.zero_le, c_I, c_R, c_V, n32, nI_1, i_t (show 32 * g + k < 3072 by omega) (by decide), h2, h3, ih (k + 1) _ (show k + 1 + d = 32 by omega)]
      rw [← Nat.add_assoc, f_rs f 6 (32 * g + k) (32 * g + 32) (fun _ => 0) (by omega)]
  have h2 := i_c (j := g) (by omega)
  have h3 := key 32 0 (f_s (f_s f 5 g x) 7 g o) rfl
  rw [show nI 0 = 0 from rfl] at h3
  simp only [e_109_0, kR1, kR2, kR3, kR4, kR5, kR6, kR7, kR8, kR9, kR10, kR11, kR12, kR13, kR14, kR15, kR16, kR17, kR18, kR19, kR20, kR21, kR22, kR23, kR24, kR25, kR26, kR27, kR28, kR29, kR30, lR1, lR2, lR3, lR4, lR5, lR6, lR7, lR8, lR9, lR10, lR11, lR12, lR13, lR14, lR15, lR16, lR17, lR18, lR19, lR20, lR21, lR22, lR23, lR24, lR25, lR26, lR27, lR28, lR29, lR30, rR5, rR6, rR7, rR8, rR9, rR10, rR11, rR12, rR13, rR14, rR15, rR16, rR17, rR18, rR19, rR20, rR21, rR22, rR23, rR24, rR25, rR26, rR27, rR28, rR29, rR30, R_i, R_si, R_rec, if_true, if_false, true_and, and_true, true_or, or_true, List.length_nil, List.length_cons, Nat.zero_le, c_I, c_R, c_V, i_t h (N := 96) (by decide), h2, h3]
  rfl
