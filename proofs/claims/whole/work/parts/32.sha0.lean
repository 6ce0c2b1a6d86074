/-! SHA-256, one function for both sides; the reference's mix -/
def rtn (v b : Int32) : Int32 := (v.toUInt32 >>> (b.toUInt32 &&& Int32.toUInt32 31)).toInt32 ||| (v <<< ((32 - b) &&& 31))
def sg0 (x : Int32) : Int32 := (rtn x 7 ^^^ rtn x 18) ^^^ (x.toUInt32 >>> ((3 : Int32).toUInt32 &&& Int32.toUInt32 31)).toInt32
def sg1 (x : Int32) : Int32 := (rtn x 17 ^^^ rtn x 19) ^^^ (x.toUInt32 >>> ((10 : Int32).toUInt32 &&& Int32.toUInt32 31)).toInt32
def stp (w : Nat → Int32) (t : Nat) : Nat → Int32 := fun j => if j = t then ((w (t - 16) + sg0 (w (t - 15))) + w (t - 7)) + sg1 (w (t - 2)) else w j
def sch : Nat → Nat → (Nat → Int32) → Nat → Int32
  | _, 0, w => w
  | t, d + 1, w => sch (t + 1) d (stp w t)
abbrev S8 : Type := Int32 × Int32 × Int32 × Int32 × Int32 × Int32 × Int32 × Int32
def rnd (s : S8) (k w : Int32) : S8 :=
  (((((s.2.2.2.2.2.2.2 + ((rtn s.2.2.2.2.1 6 ^^^ rtn s.2.2.2.2.1 11) ^^^ rtn s.2.2.2.2.1 25)) + ((s.2.2.2.2.1 &&& s.2.2.2.2.2.1) ^^^ ((s.2.2.2.2.1 ^^^ (-1)) &&& s.2.2.2.2.2.2.1))) + k) + w) + (((rtn s.1 2 ^^^ rtn s.1 13) ^^^ rtn s.1 22) + (((s.1 &&& s.2.1) ^^^ (s.1 &&& s.2.2.1)) ^^^ (s.2.1 &&& s.2.2.1))), s.1, s.2.1, s.2.2.1, s.2.2.2.1 + ((((s.2.2.2.2.2.2.2 + ((rtn s.2.2.2.2.1 6 ^^^ rtn s.2.2.2.2.1 11) ^^^ rtn s.2.2.2.2.1 25)) + ((s.2.2.2.2.1 &&& s.2.2.2.2.2.1) ^^^ ((s.2.2.2.2.1 ^^^ (-1)) &&& s.2.2.2.2.2.2.1))) + k) + w), s.2.2.2.2.1, s.2.2.2.2.2.1, s.2.2.2.2.2.2.1)
def rnds (K w : Nat → Int32) : Nat → Nat → S8 → S8
  | _, 0, s => s
  | t, d + 1, s => rnds K w (t + 1) d (rnd s (K t) (w t))
def s_at (s : S8) (i : Nat) : Int32 := match i with
  | 0 => s.1
  | 1 => s.2.1
  | 2 => s.2.2.1
  | 3 => s.2.2.2.1
  | 4 => s.2.2.2.2.1
  | 5 => s.2.2.2.2.2.1
  | 6 => s.2.2.2.2.2.2.1
  | _ => s.2.2.2.2.2.2.2
def s_of (h : Nat → Int32) : S8 := (h 0, h 1, h 2, h 3, h 4, h 5, h 6, h 7)
/-- a block taken in -/
def mixh (K h w : Nat → Int32) (i : Nat) : Int32 := h i + s_at (rnds K (sch 16 48 w) 0 64 (s_of h)) i
theorem n_s {t k : Nat} (x : Int32) (hx : x = nI k) (h : k ≤ t) : nI t - x = nI (t - k) := by rw [hx]; exact pk_sub h
set_option maxHeartbeats 2000000 in
set_option maxRecDepth 20000 in
theorem R_mix1 (f0 : Nat → Nat → Int32) : ∀ (d t : Nat) (f : Nat → Nat → Int32) (o2 o3 : Option mV), t + d = 64 → 16 ≤ t → ∃ f' : Nat → Nat → Int32, ev 113 2 [some (.inr 4), some (.inl (nI t)), o2, o3, none, none, none, none, none, none, none, none] [] (mkR f) = ev 113 124 [some (.inr 4), some (.inl (f 28 0)), some (.inl (f 28 1)), some (.inl (f 28 2)), some (.inl (f 28 3)), some (.inl (f 28 4)), some (.inl (f 28 5)), some (.inl (f 28 6)), some (.inl (f 28 7)), some (.inl 0), none, none] [] (mkR f') ∧ f' 29 = sch t d (f 29) ∧ ∀ b j, b ≠ 29 → f' b j = f b j := by
  intro d
  induction d with
  | zero =>
    intro t f o2 o3 h1 h2
    refine ⟨f, ?_, rfl, fun _ _ _ => rfl⟩
    rw [show t = 64 by omega, e_113_2]
    have g0 := i_nn (show 0 < 8 by omega) (by decide)
    simp only [show (64 : Int32) ≤ nI 64 from by decide, kR1, kR2, kR3, kR4, kR5, kR6, kR7, kR8, kR9, kR10, kR11, kR12, kR13, kR14, kR15, kR16, kR17, kR18, kR19, kR20, kR21, kR22, kR23, kR24, kR25, kR26, kR27, kR28, kR29, kR30, lR1, lR2, lR3, lR4, lR5, lR6, lR7, lR8, lR9, lR10, lR11, lR12, lR13, lR14, lR15, lR16, lR17, lR18, lR19, lR20, lR21, lR22, lR23, lR24, lR25, lR26, lR27, lR28, lR29, lR30, rR5, rR6, rR7, rR8, rR9, rR10, rR11, rR12, rR13, rR14, rR15, rR16, rR17, rR18, rR19, rR20, rR21, rR22, rR23, rR24, rR25, rR26, rR27, rR28, rR29, rR30, R_i, R_si, R_rec, if_true, if_false, true_and, and_true, true_or, or_true, List.length_nil, List.length_cons, Nat.zero_le, c_I, c_R, c_V]
    rfl
  | succ d ih =>
    intro t f o2 o3 h1 h2
    have h3 := n_l (N := 64) (k := t) 64 rfl (by omega) (by decide)
    have a15 := n_s (t := t) 15 (k := 15) rfl (by omega)
    have a2 := n_s (t := t) 2 (k := 2) rfl (by omega)
    have a7 := n_s (t := t) 7 (k := 7) rfl (by omega)
    have a16 := n_s (t := t) 16 (k := 16) rfl (by omega)
    obtain ⟨f', hf1, hf2, hf3⟩ := ih (t + 1) (f_s f 29 t (((f 29 (t - 16) + sg0 (f 29 (t - 15))) + f 29 (t - 7)) + sg1 (f 29 (t - 2)))) (some (.inl (sg0 (f 29 (t - 15))))) (some (.inl (sg1 (f 29 (t - 2))))) (by omega) (by omega)
    refine ⟨f', ?_, ?_, fun b j hb => ?_⟩
    · rw [← nI_1] at hf1
      have e28 : ∀ i, f_s f 29 t (((f 29 (t - 16) + sg0 (f 29 (t - 15))) + f 29 (t - 7)) + sg1 (f 29 (t - 2))) 28 i = f 28 i := fun i => by unfold f_s; rw [if_neg (by omega)]
      simp only [e28] at hf1
      rw [e_113_2, ← hf1]
      simp only [e_110_0, a_rec, kR1, kR2, kR3, kR4, kR5, kR6, kR7, kR8, kR9, kR10, kR11, kR12, kR13, kR14, kR15, kR16, kR17, kR18, kR19, kR20, kR21, kR22, kR23, kR24, kR25, kR26, kR27, kR28, kR29, kR30, lR1, lR2, lR3, lR4, lR5, lR6, lR7, lR8, lR9, lR10, lR11, lR12, lR13, lR14, lR15, lR16, lR17, lR18, lR19, lR20, lR21, lR22, lR23, lR24, lR25, lR26, lR27, lR28, lR29, lR30, rR5, rR6, rR7, rR8, rR9, rR10, rR11, rR12, rR13, rR14, rR15, rR16, rR17, rR18, rR19, rR20, rR21, rR22, rR23, rR24, rR25, rR26, rR27, rR28, rR29, rR30, R_i, R_si, R_rec, if_true, if_false, true_and, and_true, true_or, or_true, List.length_nil, List.length_cons, Nat.zero_le, c_I, c_R, c_V, h3, a15, a2, a7, a16, i_c (show t < 2 ^ 31 by omega), i_c (show t - 15 < 2 ^ 31 by omega), i_c (show t - 2 < 2 ^ 31 by omega), i_c (show t - 7 < 2 ^ 31 by omega), i_c (show t - 16 < 2 ^ 31 by omega), i_t (show t < 64 by omega) (by decide), i_t (show t - 15 < 64 by omega) (by decide), i_t (show t - 2 < 64 by omega) (by decide), i_t (show t - 7 < 64 by omega) (by decide), i_t (show t - 16 < 64 by omega) (by decide)]
      rfl
    · rw [hf2, sch]
      congr 1
      funext j
      unfold f_s stp
      by_cases hj : j = t
      · simp [hj]
      · simp [hj]
    · rw [hf3 b j hb]
      unfold f_s
      rw [if_neg (by omega)]
