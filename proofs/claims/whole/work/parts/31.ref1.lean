/-! THE REFERENCE: its small methods -/
def spn (k : Nat) : Nat := if k = 0 then 512 else if k = 1 then 64 else if k = 2 then 8 else 1
def cnt (p : Nat → Bool) : Nat → Nat → Nat
  | _, 0 => 0
  | g, d + 1 => (if p g then 1 else 0) + cnt p (g + 1) d
def all_ (p : Nat → Bool) : Nat → Nat → Bool
  | _, 0 => true
  | g, d + 1 => p g && all_ p (g + 1) d
def fnd (p : Nat → Bool) : Nat → Nat → Option Nat
  | _, 0 => none
  | g, d + 1 => if p g then some g else fnd p (g + 1) d
theorem cnt_le (p : Nat → Bool) : ∀ (d g : Nat), cnt p g d ≤ d := by
  intro d
  induction d with
  | zero => intro g; exact Nat.le_refl _
  | succ d ih => intro g; rw [cnt]; have := ih (g + 1); split <;> omega
theorem all_iff (p : Nat → Bool) : ∀ (d g : Nat), all_ p g d = true ↔ ∀ i, g ≤ i → i < g + d → p i = true := by
  intro d
  induction d with
  | zero => intro g; simp [all_]; intro i h1 h2; omega
  | succ d ih =>
    intro g
    rw [all_, Bool.and_eq_true, ih]
    constructor
    · rintro ⟨h1, h2⟩ i h3 h4
      rcases Nat.lt_or_ge g i with h | h
      · exact h2 i h (by omega)
      · rw [show i = g by omega]; exact h1
    · intro h
      exact ⟨h g (Nat.le_refl _) (by omega), fun i h3 h4 => h i (by omega) (by omega)⟩
theorem fnd_some {p : Nat → Bool} : ∀ {d g k : Nat}, fnd p g d = some k → g ≤ k ∧ k < g + d ∧ p k = true := by
  intro d
  induction d with
  | zero => intro g k h; cases h
  | succ d ih =>
    intro g k h
    rw [fnd] at h
    split at h
    · cases h; exact ⟨Nat.le_refl _, by omega, by assumption⟩
    · have := ih h; exact ⟨by omega, by omega, this.2.2⟩
theorem fnd_none {p : Nat → Bool} : ∀ {d g : Nat}, fnd p g d = none → ∀ i, g ≤ i → i < g + d → p i = false := by
  intro d
  induction d with
  | zero => intro g h i h1 h2; omega
  | succ d ih =>
    intro g h i h1 h2
    rw [fnd] at h
    split at h
    · cases h
    · rcases Nat.lt_or_ge g i with h3 | h3
      · exact ih h i h3 (by omega)
      · rw [show i = g by omega]; rename_i hp; simpa using hp
theorem R_span {M : mM} {k : Nat} (h : k ≤ 3) : ev 116 0 [some (.inl (nI k))] [] M = some (some (.inl (nI (spn k))), M) := by
  rw [e_116_0]
  rcases (show k = 0 ∨ k = 1 ∨ k = 2 ∨ k = 3 by omega) with rfl | rfl | rfl | rfl <;> simp only [e_116_15] <;> rfl
theorem spn_pos (k : Nat) : 0 < spn k ∧ spn k ≤ 512 := by unfold spn; split <;> (try split) <;> (try split) <;> omega
theorem R_levelOf {f : Nat → Nat → Int32} {e : Nat} (h : e < 768) : ev 120 0 [some (.inr 4), some (.inl (nI e))] [] (mkR f) = some (some (.inl (f 12 (e / 8))), mkR f) := by
  have h1 : nI e / 8 = nI (e / 8) := pk_div (by omega) (by decide) (by decide)
  have h2 := i_c (show e / 8 < 2 ^ 31 by omega)
  simp only [e_120_0, kR1, kR2, kR3, kR4, kR5, kR6, kR7, kR8, kR9, kR10, kR11, kR12, kR13, kR14, kR15, kR16, kR17, kR18, kR19, kR20, kR21, kR22, kR23, kR24, kR25, kR26, kR27, kR28, kR29, kR30, lR1, lR2, lR3, lR4, lR5, lR6, lR7, lR8, lR9, lR10, lR11, lR12, lR13, lR14, lR15, lR16, lR17, lR18, lR19, lR20, lR21, lR22, lR23, lR24, lR25, lR26, lR27, lR28, lR29, lR30, rR5, rR6, rR7, rR8, rR9, rR10, rR11, rR12, rR13, rR14, rR15, rR16, rR17, rR18, rR19, rR20, rR21, rR22, rR23, rR24, rR25, rR26, rR27, rR28, rR29, rR30, R_i, R_si, R_rec, if_true, if_false, true_and, and_true, true_or, or_true, List.length_nil, List.length_cons, Nat.zero_le, c_I, c_R, c_V, h1, h2, i_t (show e / 8 < 96 by omega) (by decide)]
  rfl
theorem R_firstOf {f : Nat → Nat → Int32} {e l : Nat} (h : e < 768) (hl : f 12 (e / 8) = nI l) (hl3 : l ≤ 3) : ev 121 0 [some (.inr 4), some (.inl (nI e))] [] (mkR f) = some (some (.inl (f 13 (e / 8) + nI (e % 8 * spn l))), mkR f) := by
  have h1 : nI e / 8 = nI (e / 8) := pk_div (by omega) (by decide) (by decide)
  have h2 := i_c (show e / 8 < 2 ^ 31 by omega)
  have h3 : nI e - nI (e / 8) * 8 = nI (e % 8) := by rw [← h1]; exact pk_rem (by omega) (by decide) (by decide)
  simp only [e_121_0, kR1, kR2, kR3, kR4, kR5, kR6, kR7, kR8, kR9, kR10, kR11, kR12, kR13, kR14, kR15, kR16, kR17, kR18, kR19, kR20, kR21, kR22, kR23, kR24, kR25, kR26, kR27, kR28, kR29, kR30, lR1, lR2, lR3, lR4, lR5, lR6, lR7, lR8, lR9, lR10, lR11, lR12, lR13, lR14, lR15, lR16, lR17, lR18, lR19, lR20, lR21, lR22, lR23, lR24, lR25, lR26, lR27, lR28, lR29, lR30, rR5, rR6, rR7, rR8, rR9, rR10, rR11, rR12, rR13, rR14, rR15, rR16, rR17, rR18, rR19, rR20, rR21, rR22, rR23, rR24, rR25, rR26, rR27, rR28, rR29, rR30, R_i, R_si, R_rec, if_true, if_false, true_and, and_true, true_or, or_true, List.length_nil, List.length_cons, Nat.zero_le, c_I, c_R, c_V, h1, h2, h3, i_t (show e / 8 < 96 by omega) (by decide), R_levelOf h, hl, a_rec, R_span hl3, pk_mul]
  rfl
theorem R_isPage0 {M : mM} {x : Int32} (h : x < 0 ∨ nI 4096 ≤ x) : ev 122 0 [some (.inl x)] [] M = some (some (.inl 0), M) := by
  simp only [e_122_0, e_122_7, e_122_8]
  by_cases h1 : x < 0
  · simp [h1]
  · have := h.resolve_left h1
    rw [show nI 4096 = (4096 : Int32) from rfl] at this
    simp [h1, this]
theorem R_isPage1 {M : mM} {k : Nat} (h : k < 4096) : ev 122 0 [some (.inl (nI k))] [] M = some (some (.inl 1), M) := by
  have h1 := nI_pos (n := k) (by omega)
  have h2 := n_l (N := 4096) (k := k) 4096 rfl h (by decide)
  simp only [e_122_0, e_122_8, h1, h2, if_false, or_true, if_true]
theorem R_isSafe0 {M : mM} {x : Int32} (h : x < 0 ∨ nI 2048 ≤ x) : ev 123 0 [some (.inl x)] [] M = some (some (.inl 0), M) := by
  simp only [e_123_0, e_123_7, e_123_8]
  by_cases h1 : x < 0
  · simp [h1]
  · have := h.resolve_left h1
    rw [show nI 2048 = (2048 : Int32) from rfl] at this
    simp [h1, this]
theorem R_isSafe1 {M : mM} {k : Nat} (h : k < 2048) : ev 123 0 [some (.inl (nI k))] [] M = some (some (.inl 1), M) := by
  have h1 := nI_pos (n := k) (by omega)
  have h2 := n_l (N := 2048) (k := k) 2048 rfl h (by decide)
  simp only [e_123_0, e_123_8, h1, h2, if_false, or_true, if_true]
theorem R_manyOf {n : Nat} {f : Nat → Nat → Int32} (hn : f 4 0 = nI n) (hN : n ≤ 96) (rd w : Int32) : ev 135 0 [some (.inr 4), some (.inl rd), some (.inl w), none, none] [] (mkR f) = some (some (.inl (nI (cnt (fun g => decide (f 5 g = w ∧ f 7 g = rd)) 0 n))), mkR f) := by
  have key : ∀ (d g m : Nat), g + d = n → ev 135 4 [some (.inr 4), some (.inl rd), some (.inl w), some (.inl (nI m)), some (.inl (nI g))] [] (mkR f) = some (some (.inl (nI (m + cnt (fun g => decide (f 5 g = w ∧ f 7 g = rd)) g d))), mkR f) := by
    intro d
    induction d with
    | zero =>
      intro g m h
      have h1 : nI n ≤ nI g := by rw [show g = n by omega]; exact nI_le (Nat.le_refl _) (by omega)
      simp only [e_135_4, kR1, kR2, kR3, kR4, kR5, kR6, kR7, kR8, kR9, kR10, kR11, kR12, kR13, kR14, kR15, kR16, kR17, kR18, kR19, kR20, kR21, kR22, kR23, kR24, kR25, kR26, kR27, kR28, kR29, kR30, lR1, lR2, lR3, lR4, lR5, lR6, lR7, lR8, lR9, lR10, lR11, lR12, lR13, lR14, lR15, lR16, lR17, lR18, lR19, lR20, lR21, lR22, lR23, lR24, lR25, lR26, lR27, lR28, lR29, lR30, rR5, rR6, rR7, rR8, rR9, rR10, rR11, rR12, rR13, rR14, rR15, rR16, rR17, rR18, rR19, rR20, rR21, rR22, rR23, rR24, rR25, rR26, rR27, rR28, rR29, rR30, R_i, R_si, R_rec, if_true, if_false, true_and, and_true, true_or, or_true, List.length_nil, List.length_cons, Nat.zero_le, c_I, c_R, c_V, hn, h1, cnt, Nat.add_zero]
    | succ d ih =>
      intro g m h
      have h1 := nI_ge (show g < n by omega) (by omega)
      have h2 := i_c (show g < 2 ^ 31 by omega)
      simp only [e_135_4, e_135_23, e_135_24, kR1, kR2, kR3, kR4, kR5, kR6, kR7, kR8, kR9, kR10, kR11, kR12, kR13, kR14, kR15, kR16, kR17, kR18, kR19, kR20, kR21, kR22, kR23, kR24, kR25, kR26, kR27, kR28, kR29, kR30, lR1, lR2, lR3, lR4, lR5, lR6, lR7, lR8, lR9, lR10, lR11, lR12, lR13, lR14, lR15, lR16, lR17, lR18, lR19, lR20, lR21, lR22, lR23, lR24, lR25, lR26, lR27, lR28, lR29, lR30, rR5, rR6, rR7, rR8, rR9, rR10, rR11, rR12, rR13, rR14, rR15, rR16, rR17, rR18, rR19, rR20, rR21, rR22, rR23, rR24, rR25, rR26, rR27, rR28, rR29, rR30, R_i, R_si, R_rec, if_true, if_false, true_and, and_true, true_or, or_true, List.length_nil, List.length_cons, Nat.zero_le, c_I, c_R, c_V, hn, h1, h2, i_t (show g < 96 by omega) (by decide), nI_1, show (0 : Int32) = nI 0 from rfl, nI_add, Nat.add_zero, ih (g + 1) _ (show g + 1 + d = n by omega), cnt]
      by_cases c1 : f 5 g = w
      · by_cases c2 : f 7 g = rd
        · simp [c1, c2, Nat.add_assoc]
        · simp [c1, c2]
      · simp [c1]
  rw [e_135_0, show (0 : Int32) = nI 0 from rfl, key n 0 0 (by omega), Nat.zero_add]
theorem R_isBare {f : Nat → Nat → Int32} {g : Nat} (h : g < 96) : ev 125 0 [some (.inr 4), some (.inl (nI g)), none] [] (mkR f) = some (some (.inl (if all_ (fun i => decide (f 14 (8 * g + i) = 0)) 0 8 then 1 else 0)), mkR f) := by
  have key : ∀ (d k : Nat), k + d = 8 → ev 125 2 [some (.inr 4), some (.inl (nI g)), some (.inl (nI k))] [] (mkR f) = some (some (.inl (if all_ (fun i => decide (f 14 (8 * g + i) = 0)) k d then 1 else 0)), mkR f) := by
    intro d
    induction d with
    | zero =>
      intro k hk
      rw [show k = 8 by omega, e_125_2]
      simp only [show (8 : Int32) ≤ nI 8 from by decide, if_true, all_]
    | succ d ih =>
      intro k hk
      have h3 := n_l (N := 8) (k := k) 8 rfl (by omega) (by decide)
      have h2 := i_c (show 8 * g + k < 2 ^ 31 by omega)
      simp only [e_125_2, kR1, kR2, kR3, kR4, kR5, kR6, kR7, kR8, kR9, kR10, kR11, kR12, kR13, kR14, kR15, kR16, kR17, kR18, kR19, kR20, kR21, kR22, kR23, kR24, kR25, kR26, kR27, kR28, kR29, kR30, lR1, lR2, lR3, lR4, lR5, lR6, lR7, lR8, lR9, lR10, lR11, lR12, lR13, lR14, lR15, lR16, lR17, lR18, lR19, lR20, lR21, lR22, lR23, lR24, lR25, lR26, lR27, lR28, lR29, lR30, rR5, rR6, rR7, rR8, rR9, rR10, rR11, rR12, rR13, rR14, rR15, rR16, rR17, rR18, rR19, rR20, rR21, rR22, rR23, rR24, rR25, rR26, rR27, rR28, rR29, rR30, R_i, R_si, R_rec, if_true, if_false, true_and, and_true, true_or, or_true, List.length_nil, List.length_cons, Nat.zero_le, c_I, c_R, c_V, n8, nI_1, h2, h3, i_t (show 8 * g + k < 768 by omega) (by decide), ih (k + 1) (show k + 1 + d = 8 by omega), all_]
      by_cases c1 : f 14 (8 * g + k) = 0
      · simp [c1]
      · simp [c1]
  rw [e_125_0]
  exact key 8 0 rfl
theorem R_isOne {f : Nat → Nat → Int32} {g : Nat} (h : g < 96) : ev 126 0 [some (.inr 4), some (.inl (nI g)), none] [] (mkR f) = some (some (.inl (if all_ (fun i => decide (f 16 (8 * g + i) = f 16 (8 * g))) 1 7 then 1 else 0)), mkR f) := by
  have key : ∀ (d k : Nat), k + d = 8 → ev 126 2 [some (.inr 4), some (.inl (nI g)), some (.inl (nI k))] [] (mkR f) = some (some (.inl (if all_ (fun i => decide (f 16 (8 * g + i) = f 16 (8 * g))) k d then 1 else 0)), mkR f) := by
    intro d
    induction d with
    | zero =>
      intro k hk
      rw [show k = 8 by omega, e_126_2]
      simp only [show (8 : Int32) ≤ nI 8 from by decide, if_true, all_]
    | succ d ih =>
      intro k hk
      have h3 := n_l (N := 8) (k := k) 8 rfl (by omega) (by decide)
      have h2 := i_c (show 8 * g + k < 2 ^ 31 by omega)
      have h4 := i_c (show 8 * g < 2 ^ 31 by omega)
      simp only [e_126_2, kR1, kR2, kR3, kR4, kR5, kR6, kR7, kR8, kR9, kR10, kR11, kR12, kR13, kR14, kR15, kR16, kR17, kR18, kR19, kR20, kR21, kR22, kR23, kR24, kR25, kR26, kR27, kR28, kR29, kR30, lR1, lR2, lR3, lR4, lR5, lR6, lR7, lR8, lR9, lR10, lR11, lR12, lR13, lR14, lR15, lR16, lR17, lR18, lR19, lR20, lR21, lR22, lR23, lR24, lR25, lR26, lR27, lR28, lR29, lR30, rR5, rR6, rR7, rR8, rR9, rR10, rR11, rR12, rR13, rR14, rR15, rR16, rR17, rR18, rR19, rR20, rR21, rR22, rR23, rR24, rR25, rR26, rR27, rR28, rR29, rR30, R_i, R_si, R_rec, if_true, if_false, true_and, and_true, true_or, or_true, List.length_nil, List.length_cons, Nat.zero_le, c_I, c_R, c_V, n8', nI_add, nI_1, h2, h3, h4, i_t (show 8 * g + k < 768 by omega) (by decide), i_t (show 8 * g < 768 by omega) (by decide), ih (k + 1) (show k + 1 + d = 8 by omega), all_]
      by_cases c1 : f 16 (8 * g + k) = f 16 (8 * g)
      · simp [c1]
      · simp [c1]
  rw [e_126_0]
  exact key 7 1 rfl
/-- three rows at once -/
def f_3 (f : Nat → Nat → Int32) (lo hi : Nat) (x y z : Int32) : Nat → Nat → Int32 := fun b j => if lo ≤ j ∧ j < hi then (if b = 14 then x else if b = 15 then y else if b = 16 then z else f b j) else f b j
theorem f_30 (f : Nat → Nat → Int32) (lo : Nat) (x y z : Int32) : f_3 f lo lo x y z = f := by
  funext b j; unfold f_3; rw [if_neg (by omega)]
theorem f_3s (f : Nat → Nat → Int32) (lo hi : Nat) (x y z : Int32) (h : lo < hi) : f_3 (f_s (f_s (f_s f 14 lo x) 15 lo y) 16 lo z) (lo + 1) hi x y z = f_3 f lo hi x y z := by
  funext b j
  unfold f_3 f_s
  by_cases hj : j = lo
  · subst hj
    have h9 : ¬ (j + 1 ≤ j ∧ j < hi) := by omega
    have h8 : j ≤ j ∧ j < hi := by omega
    simp only [h9, h8, if_false, if_true]
    by_cases h1 : b = 14
    · subst h1; simp
    · by_cases h2 : b = 15
      · subst h2; simp
      · by_cases h3 : b = 16
        · subst h3; simp
        · simp [h1, h2, h3]
  · by_cases hr : lo ≤ j ∧ j < hi
    · rw [if_pos (by omega), if_pos hr]; simp [hj]
    · rw [if_neg (by omega), if_neg hr]; simp [hj]
def f_la (f : Nat → Nat → Int32) (g : Nat) (rd l first ripas : Int32) : Nat → Nat → Int32 := f_3 (f_s (f_s (f_b f g 4 rd) 12 g l) 13 g first) (8 * g) (8 * g + 8) 0 (-1) ripas
theorem R_lay {f : Nat → Nat → Int32} {g : Nat} {rd l first ripas : Int32} (h : g < 96) : ev 124 0 [some (.inr 4), some (.inl (nI g)), some (.inl rd), some (.inl l), some (.inl first), some (.inl ripas), none] [] (mkR f) = some (none, mkR (f_la f g rd l first ripas)) := by
  have key : ∀ (d k : Nat) (f : Nat → Nat → Int32), k + d = 8 → ev 124 17 [some (.inr 4), some (.inl (nI g)), some (.inl rd), some (.inl l), some (.inl first), some (.inl ripas), some (.inl (nI k))] [] (mkR f) = some (none, mkR (f_3 f (8 * g + k) (8 * g + 8) 0 (-1) ripas)) := by
    intro d
    induction d with
    | zero =>
      intro k f hk
      rw [show k = 8 by omega, e_124_17]
      simp only [show (8 : Int32) ≤ nI 8 from by decide, if_true, f_30]
    | succ d ih =>
      intro k f hk
      have h3 := n_l (N := 8) (k := k) 8 rfl (by omega) (by decide)
      have h2 := i_c (show 8 * g + k < 2 ^ 31 by omega)
      simp only [e_124_17, kR1, kR2, kR3, kR4, kR5, kR6, kR7, kR8, kR9, kR10, kR11, kR12, kR13, kR14, kR15, kR16, kR17, kR18, kR19, kR20, kR21, kR22, kR23, kR24, kR25, kR26, kR27, kR28, kR29, kR30, lR1, lR2, lR3, lR4, lR5, lR6, lR7, lR8, lR9, lR10, lR11, lR12, lR13, lR14, lR15, lR16, lR17, lR18, lR19, lR20, lR21, lR22, lR23, lR24, lR25, lR26, lR27, lR28, lR29, lR30, rR5, rR6, rR7, rR8, rR9, rR10, rR11, rR12, rR13, rR14, rR15, rR16, rR17, rR18, rR19, rR20, rR21, rR22, rR23, rR24, rR25, rR26, rR27, rR28, rR29, rR30, R_i, R_si, R_rec, if_true, if_false, true_and, and_true, true_or, or_true, List.length_nil, List.length_cons, Nat.zero_le, c_I, c_R, c_V, n8, nI_1, h2, h3, i_t (show 8 * g + k < 768 by omega) (by decide), ih (k + 1) _ (show k + 1 + d = 8 by omega)]
      rw [← Nat.add_assoc, f_3s f _ _ _ _ _ (by omega)]
  have h2 := i_c (j := g) (by omega)
  have h3 := key 8 0 (f_s (f_s (f_b f g 4 rd) 12 g l) 13 g first) rfl
  rw [show nI 0 = 0 from rfl] at h3
  simp only [e_124_0, kR1, kR2, kR3, kR4, kR5, kR6, kR7, kR8, kR9, kR10, kR11, kR12, kR13, kR14, kR15, kR16, kR17, kR18, kR19, kR20, kR21, kR22, kR23, kR24, kR25, kR26, kR27, kR28, kR29, kR30, lR1, lR2, lR3, lR4, lR5, lR6, lR7, lR8, lR9, lR10, lR11, lR12, lR13, lR14, lR15, lR16, lR17, lR18, lR19, lR20, lR21, lR22, lR23, lR24, lR25, lR26, lR27, lR28, lR29, lR30, rR5, rR6, rR7, rR8, rR9, rR10, rR11, rR12, rR13, rR14, rR15, rR16, rR17, rR18, rR19, rR20, rR21, rR22, rR23, rR24, rR25, rR26, rR27, rR28, rR29, rR30, R_i, R_si, R_rec, if_true, if_false, true_and, and_true, true_or, or_true, List.length_nil, List.length_cons, Nat.zero_le, c_I, c_R, c_V, i_t h (N := 96) (by decide), h2, R_become h, h3]
  rfl
/-- the RTT of a level that covers a page -/
def cov (f : Nat → Nat → Int32) (rd : Int32) (P k g : Nat) : Bool := decide (f 5 g = 4 ∧ f 7 g = rd ∧ f 12 g = nI k ∧ (f 13 g).toNatClampNeg ≤ P ∧ P < (f 13 g).toNatClampNeg + 8 * spn k)
def ent (f : Nat → Nat → Int32) (n : Nat) (rd : Int32) (P k : Nat) : Int32 := match fnd (cov f rd P k) 0 n with
  | some g => nI (8 * g + (P - (f 13 g).toNatClampNeg) / spn k)
  | none => -1
def wkd (f : Nat → Nat → Int32) (n : Nat) (rd : Int32) (P : Nat) : Nat → Int32
  | 0 => ent f n rd P 0
  | k + 1 => if ent f n rd P (k + 1) = -1 then wkd f n rd P k else ent f n rd P (k + 1)
theorem R_entryAt {n : Nat} {f : Nat → Nat → Int32} (hn : f 4 0 = nI n) (hN : n ≤ 96) (hB : ∀ g, g < n → f 5 g = 4 → ∃ b, b < 4096 ∧ f 13 g = nI b) (rd : Int32) {P k : Nat} (hP : P < 4096) (hk : k ≤ 3) : ev 117 0 [some (.inr 4), some (.inl rd), some (.inl (nI P)), some (.inl (nI k)), none, none] [] (mkR f) = some (some (.inl (ent f n rd P k)), mkR f) := by
  have key : ∀ (d g : Nat) (o : Option mV), g + d = n → ev 117 2 [some (.inr 4), some (.inl rd), some (.inl (nI P)), some (.inl (nI k)), some (.inl (nI g)), o] [] (mkR f) = some (some (.inl (match fnd (cov f rd P k) g d with
      | some g => nI (8 * g + (P - (f 13 g).toNatClampNeg) / spn k)
      | none => -1)), mkR f) := by
    intro d
    induction d with
    | zero =>
      intro g o h
      have h1 : nI n ≤ nI g := by rw [show g = n by omega]; exact nI_le (Nat.le_refl _) (by omega)
      simp only [e_117_2, kR1, kR2, kR3, kR4, kR5, kR6, kR7, kR8, kR9, kR10, kR11, kR12, kR13, kR14, kR15, kR16, kR17, kR18, kR19, kR20, kR21, kR22, kR23, kR24, kR25, kR26, kR27, kR28, kR29, kR30, lR1, lR2, lR3, lR4, lR5, lR6, lR7, lR8, lR9, lR10, lR11, lR12, lR13, lR14, lR15, lR16, lR17, lR18, lR19, lR20, lR21, lR22, lR23, lR24, lR25, lR26, lR27, lR28, lR29, lR30, rR5, rR6, rR7, rR8, rR9, rR10, rR11, rR12, rR13, rR14, rR15, rR16, rR17, rR18, rR19, rR20, rR21, rR22, rR23, rR24, rR25, rR26, rR27, rR28, rR29, rR30, R_i, R_si, R_rec, if_true, if_false, true_and, and_true, true_or, or_true, List.length_nil, List.length_cons, Nat.zero_le, c_I, c_R, c_V, hn, h1, fnd]
    | succ d ih =>
      intro g o h
      have h1 := nI_ge (show g < n by omega) (by omega)
      have h2 := i_c (show g < 2 ^ 31 by omega)
      simp only [e_117_2, e_117_50, kR1, kR2, kR3, kR4, kR5, kR6, kR7, kR8, kR9, kR10, kR11, kR12, kR13, kR14, kR15, kR16, kR17, kR18, kR19, kR20, kR21, kR22, kR23, kR24, kR25, kR26, kR27, kR28, kR29, kR30, lR1, lR2, lR3, lR4, lR5, lR6, lR7, lR8, lR9, lR10, lR11, lR12, lR13, lR14, lR15, lR16, lR17, lR18, lR19, lR20, lR21, lR22, lR23, lR24, lR25, lR26, lR27, lR28, lR29, lR30, rR5, rR6, rR7, rR8, rR9, rR10, rR11, rR12, rR13, rR14, rR15, rR16, rR17, rR18, rR19, rR20, rR21, rR22, rR23, rR24, rR25, rR26, rR27, rR28, rR29, rR30, R_i, R_si, R_rec, if_true, if_false, true_and, and_true, true_or, or_true, List.length_nil, List.length_cons, Nat.zero_le, c_I, c_R, c_V, hn, h1, h2, i_t (show g < 96 by omega) (by decide), nI_1, R_span hk, a_rec, ih (g + 1) _ (show g + 1 + d = n by omega), fnd]
      by_cases c1 : f 5 g = 4
      · by_cases c2 : f 7 g = rd
        · by_cases c3 : f 12 g = nI k
          · obtain ⟨b, hb, eb⟩ := hB g (by omega) c1
            have hs := spn_pos k
            have hs0 : ¬ nI (spn k) = 0 := nI_ne0 hs.1 (by omega)
            simp only [c1, c2, c3, eb, i_c (show b < 2 ^ 31 by omega), if_true, hs0, not_false_eq_true, cov, true_and, decide_eq_true_eq]
            by_cases c4 : P < b
            · have g1 : nI P < nI b := nI_lt c4 (by omega)
              simp only [g1, if_true, show ¬ b ≤ P by omega, false_and, if_false]
              rfl
            · have g1 : ¬ nI P < nI b := nI_nlt (by omega) (by omega)
              have g2 : nI P - nI b = nI (P - b) := pk_sub (by omega)
              have g3 : nI (P - b) / nI (spn k) = nI ((P - b) / spn k) := pk_div (by omega) hs.1 (by omega)
              have g4 : (P - b) / spn k ≤ P - b := Nat.div_le_self _ _
              simp only [g1, if_false, g2, g3, show b ≤ P by omega, true_and]
              by_cases c5 : (P - b) / spn k < 8
              · have g5 : P < b + 8 * spn k := by
                  have := (Nat.div_lt_iff_lt_mul hs.1).mp c5
                  omega
                have g6 := n_l (N := 8) (k := (P - b) / spn k) 8 rfl c5 (by decide)
                simp only [g5, if_true, g6, if_false, n8]
                rw [eb, i_c (show b < 2 ^ 31 by omega)]
                rfl
              · have g5 : ¬ P < b + 8 * spn k := fun hh => c5 ((Nat.div_lt_iff_lt_mul hs.1).mpr (by omega))
                have g6 : (8 : Int32) ≤ nI ((P - b) / spn k) := by rw [show (8 : Int32) = nI 8 from rfl]; exact nI_le (by omega) (by omega)
                simp only [g5, if_false, g6, if_true]
                rfl
          · simp [c1, c2, c3, cov]
        · simp [c1, c2, cov]
      · simp [c1, cov]
  rw [e_117_0, show (0 : Int32) = nI 0 from rfl, key n 0 _ (by omega)]
  rfl
theorem R_walked {n : Nat} {f : Nat → Nat → Int32} (hn : f 4 0 = nI n) (hN : n ≤ 96) (hB : ∀ g, g < n → f 5 g = 4 → ∃ b, b < 4096 ∧ f 13 g = nI b) (rd : Int32) {P k : Nat} (hP : P < 4096) (hk : k ≤ 3) : ev 118 0 [some (.inr 4), some (.inl rd), some (.inl (nI P)), some (.inl (nI k)), none, none] [] (mkR f) = some (some (.inl (wkd f n rd P k)), mkR f) := by
  have fin : ∀ (l e i : Int32), ¬ e = -1 → ev 118 4 [some (.inr 4), some (.inl rd), some (.inl (nI P)), some (.inl l), some (.inl e), some (.inl i)] [] (mkR f) = some (some (.inl e), mkR f) := by
    intro l e i h
    rw [e_118_4, e_118_17]
    split
    · rfl
    · rfl
  have key : ∀ (k : Nat) (l : Int32), k ≤ 3 → ev 118 4 [some (.inr 4), some (.inl rd), some (.inl (nI P)), some (.inl l), some (.inl (-1)), some (.inl (nI k))] [] (mkR f) = some (some (.inl (wkd f n rd P k)), mkR f) := by
    intro k
    induction k with
    | zero =>
      intro l h
      rw [e_118_4, if_neg (nI_pos (by decide)), if_pos rfl]
      simp only [kR1, kR2, kR3, kR4, kR5, kR6, kR7, kR8, kR9, kR10, kR11, kR12, kR13, kR14, kR15, kR16, kR17, kR18, kR19, kR20, kR21, kR22, kR23, kR24, kR25, kR26, kR27, kR28, kR29, kR30, lR1, lR2, lR3, lR4, lR5, lR6, lR7, lR8, lR9, lR10, lR11, lR12, lR13, lR14, lR15, lR16, lR17, lR18, lR19, lR20, lR21, lR22, lR23, lR24, lR25, lR26, lR27, lR28, lR29, lR30, rR5, rR6, rR7, rR8, rR9, rR10, rR11, rR12, rR13, rR14, rR15, rR16, rR17, rR18, rR19, rR20, rR21, rR22, rR23, rR24, rR25, rR26, rR27, rR28, rR29, rR30, R_i, R_si, R_rec, if_true, if_false, true_and, and_true, true_or, or_true, List.length_nil, List.length_cons, Nat.zero_le, c_I, c_R, c_V, R_entryAt hn hN hB rd hP (show 0 ≤ 3 by omega), wkd]
      by_cases c : ent f n rd P 0 = -1
      · rw [c, e_118_4, e_118_17, if_pos (by decide)]
      · exact fin _ _ _ c
    | succ k ih =>
      intro l h
      rw [e_118_4, if_neg (nI_pos (by omega)), if_pos rfl]
      simp only [kR1, kR2, kR3, kR4, kR5, kR6, kR7, kR8, kR9, kR10, kR11, kR12, kR13, kR14, kR15, kR16, kR17, kR18, kR19, kR20, kR21, kR22, kR23, kR24, kR25, kR26, kR27, kR28, kR29, kR30, lR1, lR2, lR3, lR4, lR5, lR6, lR7, lR8, lR9, lR10, lR11, lR12, lR13, lR14, lR15, lR16, lR17, lR18, lR19, lR20, lR21, lR22, lR23, lR24, lR25, lR26, lR27, lR28, lR29, lR30, rR5, rR6, rR7, rR8, rR9, rR10, rR11, rR12, rR13, rR14, rR15, rR16, rR17, rR18, rR19, rR20, rR21, rR22, rR23, rR24, rR25, rR26, rR27, rR28, rR29, rR30, R_i, R_si, R_rec, if_true, if_false, true_and, and_true, true_or, or_true, List.length_nil, List.length_cons, Nat.zero_le, c_I, c_R, c_V, R_entryAt hn hN hB rd hP h, wkd]
      by_cases c : ent f n rd P (k + 1) = -1
      · rw [if_pos c, c, pk_m1, ih l (by omega)]
      · rw [if_neg c, fin _ _ _ c]
  rw [e_118_0, key k _ hk]
theorem R_leaf {n : Nat} {f : Nat → Nat → Int32} (hn : f 4 0 = nI n) (hN : n ≤ 96) (hB : ∀ g, g < n → f 5 g = 4 → ∃ b, b < 4096 ∧ f 13 g = nI b) (rd : Int32) {P : Nat} (hP : P < 4096) : ev 119 0 [some (.inr 4), some (.inl rd), some (.inl (nI P))] [] (mkR f) = some (some (.inl (wkd f n rd P 3)), mkR f) := by
  have h := R_walked hn hN hB rd hP (show 3 ≤ 3 by omega)
  rw [show nI 3 = 3 from rfl] at h
  simp only [e_119_0, kR1, kR2, kR3, kR4, kR5, kR6, kR7, kR8, kR9, kR10, kR11, kR12, kR13, kR14, kR15, kR16, kR17, kR18, kR19, kR20, kR21, kR22, kR23, kR24, kR25, kR26, kR27, kR28, kR29, kR30, lR1, lR2, lR3, lR4, lR5, lR6, lR7, lR8, lR9, lR10, lR11, lR12, lR13, lR14, lR15, lR16, lR17, lR18, lR19, lR20, lR21, lR22, lR23, lR24, lR25, lR26, lR27, lR28, lR29, lR30, rR5, rR6, rR7, rR8, rR9, rR10, rR11, rR12, rR13, rR14, rR15, rR16, rR17, rR18, rR19, rR20, rR21, rR22, rR23, rR24, rR25, rR26, rR27, rR28, rR29, rR30, R_i, R_si, R_rec, if_true, if_false, true_and, and_true, true_or, or_true, List.length_nil, List.length_cons, Nat.zero_le, c_I, c_R, c_V, h]
