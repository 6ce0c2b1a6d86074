/-! SHA-256: the reference's mix and digest -/
set_option maxHeartbeats 4000000 in
set_option maxRecDepth 20000 in
theorem R_mix2 : ∀ (d t : Nat) (s : S8) (f : Nat → Nat → Int32) (o10 o11 : Option mV), t + d = 64 → (∀ i, i < 64 → f 3 i = s_t3 i) → ∃ f' : Nat → Nat → Int32, ev 113 124 [some (.inr 4), some (.inl s.1), some (.inl s.2.1), some (.inl s.2.2.1), some (.inl s.2.2.2.1), some (.inl s.2.2.2.2.1), some (.inl s.2.2.2.2.2.1), some (.inl s.2.2.2.2.2.2.1), some (.inl s.2.2.2.2.2.2.2), some (.inl (nI t)), o10, o11] [] (mkR f) = some (none, mkR f') ∧ (∀ i, i < 8 → f' 28 i = f 28 i + s_at (rnds s_t3 (f 29) t d s) i) ∧ ∀ b j, b ≠ 28 → f' b j = f b j := by
  intro d
  induction d with
  | zero =>
    intro t s f o10 o11 h1 hK
    have h := e_113_124 4 s.1 s.2.1 s.2.2.1 s.2.2.2.1 s.2.2.2.2.1 s.2.2.2.2.2.1 s.2.2.2.2.2.2.1 s.2.2.2.2.2.2.2 (nI 64) o10 o11 (mkR f)
    rw [show t = 64 by omega]
    simp only [e_113_230, e_113_254, kR1, kR2, kR3, kR4, kR5, kR6, kR7, kR8, kR9, kR10, kR11, kR12, kR13, kR14, kR15, kR16, kR17, kR18, kR19, kR20, kR21, kR22, kR23, kR24, kR25, kR26, kR27, kR28, kR29, kR30, lR1, lR2, lR3, lR4, lR5, lR6, lR7, lR8, lR9, lR10, lR11, lR12, lR13, lR14, lR15, lR16, lR17, lR18, lR19, lR20, lR21, lR22, lR23, lR24, lR25, lR26, lR27, lR28, lR29, lR30, rR5, rR6, rR7, rR8, rR9, rR10, rR11, rR12, rR13, rR14, rR15, rR16, rR17, rR18, rR19, rR20, rR21, rR22, rR23, rR24, rR25, rR26, rR27, rR28, rR29, rR30, R_i, R_si, R_rec, if_true, if_false, true_and, and_true, true_or, or_true, List.length_nil, List.length_cons, Nat.zero_le, c_I, c_R, c_V, show (64 : Int32) ≤ nI 64 from by decide, show h_in 0 8 from by decide, show h_in 1 8 from by decide, show h_in 2 8 from by decide, show h_in 3 8 from by decide, show h_in 4 8 from by decide, show h_in 5 8 from by decide, show h_in 6 8 from by decide, show h_in 7 8 from by decide] at h
    refine ⟨_, h, fun i hi => ?_, fun b j hb => ?_⟩
    · rcases (show i = 0 ∨ i = 1 ∨ i = 2 ∨ i = 3 ∨ i = 4 ∨ i = 5 ∨ i = 6 ∨ i = 7 by omega) with rfl | rfl | rfl | rfl | rfl | rfl | rfl | rfl <;> simp [f_s, rnds, s_at]
    · simp [f_s, hb]
  | succ d ih =>
    intro t s f o10 o11 h1 hK
    have h3 := n_l (N := 64) (k := t) 64 rfl (by omega) (by decide)
    obtain ⟨f', hf1, hf2, hf3⟩ := ih (t + 1) (rnd s (s_t3 t) (f 29 t)) f (some (.inl (((((s.2.2.2.2.2.2.2 + ((rtn s.2.2.2.2.1 6 ^^^ rtn s.2.2.2.2.1 11) ^^^ rtn s.2.2.2.2.1 25)) + ((s.2.2.2.2.1 &&& s.2.2.2.2.2.1) ^^^ ((s.2.2.2.2.1 ^^^ (-1)) &&& s.2.2.2.2.2.2.1))) + s_t3 t) + f 29 t)))) (some (.inl ((((rtn s.1 2 ^^^ rtn s.1 13) ^^^ rtn s.1 22) + (((s.1 &&& s.2.1) ^^^ (s.1 &&& s.2.2.1)) ^^^ (s.2.1 &&& s.2.2.1)))))) (by omega) hK
    refine ⟨f', ?_, hf2, hf3⟩
    rw [← nI_1] at hf1
    rw [e_113_124, ← hf1]
    simp only [e_110_0, a_rec, kR1, kR2, kR3, kR4, kR5, kR6, kR7, kR8, kR9, kR10, kR11, kR12, kR13, kR14, kR15, kR16, kR17, kR18, kR19, kR20, kR21, kR22, kR23, kR24, kR25, kR26, kR27, kR28, kR29, kR30, lR1, lR2, lR3, lR4, lR5, lR6, lR7, lR8, lR9, lR10, lR11, lR12, lR13, lR14, lR15, lR16, lR17, lR18, lR19, lR20, lR21, lR22, lR23, lR24, lR25, lR26, lR27, lR28, lR29, lR30, rR5, rR6, rR7, rR8, rR9, rR10, rR11, rR12, rR13, rR14, rR15, rR16, rR17, rR18, rR19, rR20, rR21, rR22, rR23, rR24, rR25, rR26, rR27, rR28, rR29, rR30, R_i, R_si, R_rec, if_true, if_false, true_and, and_true, true_or, or_true, List.length_nil, List.length_cons, Nat.zero_le, c_I, c_R, c_V, h3, i_c (show t < 2 ^ 31 by omega), i_t (show t < 64 by omega) (by decide), hK t (by omega)]
    rfl
theorem R_mix {f : Nat → Nat → Int32} (hK : ∀ i, i < 64 → f 3 i = s_t3 i) : ∃ f' : Nat → Nat → Int32, ev 113 0 [some (.inr 4), none, none, none, none, none, none, none, none, none, none, none] [] (mkR f) = some (none, mkR f') ∧ (∀ i, i < 8 → f' 28 i = mixh s_t3 (f 28) (f 29) i) ∧ ∀ b j, b ≠ 28 → b ≠ 29 → f' b j = f b j := by
  obtain ⟨f1, g1, g2, g3⟩ := R_mix1 f 48 16 f none none rfl (by omega)
  obtain ⟨f2, k1, k2, k3⟩ := R_mix2 64 0 (s_of (f 28)) f1 none none rfl (fun i hi => by rw [g3 3 i (by omega)]; exact hK i hi)
  refine ⟨f2, ?_, fun i hi => ?_, fun b j h1 h2 => by rw [k3 b j h1, g3 b j h2]⟩
  · rw [e_113_0]
    exact g1.trans k1
  · rw [k2 i hi, g3 28 i (by omega), g2]
    rfl
/-- the text, filled up: t words, the end mark, zeros, the length -/
def pad (w : Nat → Int32) (t i : Nat) : Int32 := if i < t then w i else if i = t then -2147483648 else if i = 16 * ((t + 18) / 16) - 1 then nI (32 * t) else 0
def h_0 : Nat → Int32 := fun i => s_t1 i
/-- the digest's words behind b blocks -/
def dig (w : Nat → Int32) (t : Nat) : Nat → Nat → Int32
  | 0 => s_t1
  | b + 1 => mixh s_t3 (dig w t b) (fun k => pad w t (16 * b + k))
/-- the digest of t words -/
def dgs (w : Nat → Int32) (t : Nat) : Nat → Int32 := dig w t ((t + 18) / 16)
theorem rnds_congr {K w w' : Nat → Int32} : ∀ (d t : Nat) (s : S8), (∀ i, i < t + d → w i = w' i) → rnds K w t d s = rnds K w' t d s := by
  intro d
  induction d with
  | zero => intro t s _; rfl
  | succ d ih => intro t s h; rw [rnds, rnds, h t (by omega)]; exact ih _ _ (fun i hi => h i (by omega))
theorem sch_congr : ∀ (d t : Nat) (w w' : Nat → Int32), 16 ≤ t → (∀ i, i < t → w i = w' i) → ∀ i, i < t + d → sch t d w i = sch t d w' i := by
  intro d
  induction d with
  | zero => intro t w w' _ h i hi; exact h i (by omega)
  | succ d ih =>
    intro t w w' ht h i hi
    rw [sch, sch]
    refine ih (t + 1) _ _ (by omega) (fun k hk => ?_) i (by omega)
    unfold stp
    by_cases e : k = t
    · rw [if_pos e, if_pos e, h (t - 16) (by omega), h (t - 15) (by omega), h (t - 7) (by omega), h (t - 2) (by omega)]
    · rw [if_neg e, if_neg e, h k (by omega)]
theorem mixh_congr {K h h' w w' : Nat → Int32} (hh : ∀ i, i < 8 → h i = h' i) (hw : ∀ i, i < 16 → w i = w' i) {i : Nat} (hi : i < 8) : mixh K h w i = mixh K h' w' i := by
  unfold mixh
  rw [hh i hi, show s_of h = s_of h' from by unfold s_of; rw [hh 0 (by omega), hh 1 (by omega), hh 2 (by omega), hh 3 (by omega), hh 4 (by omega), hh 5 (by omega), hh 6 (by omega), hh 7 (by omega)], rnds_congr 64 0 _ (fun k hk => sch_congr 48 16 w w' (by omega) hw k (by omega))]
theorem dig_congr {w w' : Nat → Int32} {t : Nat} (h : ∀ i, i < t → w i = w' i) : ∀ (b i : Nat), i < 8 → dig w t b i = dig w' t b i := by
  intro b
  induction b with
  | zero => intro i _; rfl
  | succ b ih =>
    intro i hi
    refine mixh_congr ih (fun k _ => ?_) hi
    unfold pad
    by_cases e : 16 * b + k < t
    · rw [if_pos e, if_pos e, h _ e]
    · rw [if_neg e, if_neg e]
theorem dgs_congr {w w' : Nat → Int32} {t : Nat} (h : ∀ i, i < t → w i = w' i) {i : Nat} (hi : i < 8) : dgs w t i = dgs w' t i := dig_congr h _ i hi
