theorem ar_cp (M : mM) (a s b d n q : Nat) (as : List mV) : a_rec (h_cp M a s b d n) q as = a_rec M q as := rfl
def tA (t r o : Nat) (F : Nat → Nat → Int32) (k : Nat) : Nat → Nat → Int32 := f_r (f_r F 6 (32 * t + 1 + k) (32 * t + 9) (fun j => F 19 (8 * r + (j - (32 * t + 1))))) 6 (32 * t + 9 + k) (32 * t + 17) (fun j => F 11 (40 * o + (j - (32 * t + 9))))
theorem tA_s (t r o : Nat) (F : Nat → Nat → Int32) {k : Nat} (hk : k < 8) : tA t r o (f_s (f_s F 6 (32 * t + 1 + k) (F 19 (8 * r + k))) 6 (32 * t + 9 + k) (F 11 (40 * o + k))) (k + 1) = tA t r o F k := by
  unfold tA
  simp only [f_s_row (show 19 ≠ 6 by decide), f_s_row (show 11 ≠ 6 by decide)]
  funext b j
  unfold f_r f_s
  repeat' split
  all_goals first | rfl | (exfalso; omega) | (congr 1; omega)
theorem nk (a k c : Nat) (x : Int32) (hx : x = nI c) : nI a + x + nI k = nI (a + c + k) := by rw [hx, nI_add, nI_add]
theorem R_at1 {t r o : Nat} (ht : t < 96) (hr : r < 96) (ho : o < 96) (x : Int32) : ∀ (d k : Nat) (F : Nat → Nat → Int32), k + d = 8 → F 4 2 = nI r → ev 173 47 [some (.inr 4), some (.inl x), some (.inl (nI t)), some (.inl (nI o)), some (.inl (nI (32 * t))), some (.inl (nI k))] [] (mkR F) = ev 173 87 [some (.inr 4), some (.inl x), some (.inl (nI t)), some (.inl (nI o)), some (.inl (nI (32 * t))), some (.inl 1)] [] (mkR (tA t r o F k)) := by
  intro d
  induction d with
  | zero =>
    intro k F hk h1
    rw [e_173_47, if_pos (by rw [show k = 8 by omega]; decide)]
    unfold tA
    rw [show 32 * t + 1 + k = 32 * t + 9 by omega, show 32 * t + 9 + k = 32 * t + 17 by omega, f_r0, f_r0]
  | succ d ih =>
    intro k F hk h1
    rw [e_173_47]
    simp only [kR1, kR2, kR3, kR4, kR5, kR6, kR7, kR8, kR9, kR10, kR11, kR12, kR13, kR14, kR15, kR16, kR17, kR18, kR19, kR20, kR21, kR22, kR23, kR24, kR25, kR26, kR27, kR28, kR29, kR30, lR1, lR2, lR3, lR4, lR5, lR6, lR7, lR8, lR9, lR10, lR11, lR12, lR13, lR14, lR15, lR16, lR17, lR18, lR19, lR20, lR21, lR22, lR23, lR24, lR25, lR26, lR27, lR28, lR29, lR30, rR5, rR6, rR7, rR8, rR9, rR10, rR11, rR12, rR13, rR14, rR15, rR16, rR17, rR18, rR19, rR20, rR21, rR22, rR23, rR24, rR25, rR26, rR27, rR28, rR29, rR30, R_i, R_si, R_rec, if_true, if_false, true_and, and_true, true_or, or_true, List.length_nil, List.length_cons, Nat.zero_le, c_I, c_R, c_V, n_l (N := 8) (k := k) 8 rfl (by omega) (by decide), h1, n8, n40, nI_1, nI_add, nk (32 * t) k 9 9 rfl, i_t (show 8 * r + k < 768 by omega) (by decide), i_c (show 8 * r + k < 2 ^ 31 by omega), i_t (show 40 * o + k < 3840 by omega) (by decide), i_c (show 40 * o + k < 2 ^ 31 by omega), i_t (show 32 * t + 1 + k < 3072 by omega) (by decide), i_c (show 32 * t + 1 + k < 2 ^ 31 by omega), i_t (show 32 * t + 9 + k < 3072 by omega) (by decide), i_c (show 32 * t + 9 + k < 2 ^ 31 by omega), f_s_row (show 11 ≠ 6 by decide)]
    rw [ih (k + 1) _ (by omega) (by rw [f_s_row (show 4 ≠ 6 by decide), f_s_row (show 4 ≠ 6 by decide)]; exact h1), tA_s t r o F (by omega)]
theorem R_at3 {t o : Nat} (ht : t < 96) (x : Int32) : ∀ (d k : Nat) (F : Nat → Nat → Int32), k + d = 8 → ev 173 100 [some (.inr 4), some (.inl x), some (.inl (nI t)), some (.inl (nI o)), some (.inl (nI (32 * t))), some (.inl (nI k))] [] (mkR F) = ev 173 119 [some (.inr 4), some (.inl x), some (.inl (nI t)), some (.inl (nI o)), some (.inl (nI (32 * t))), some (.inl 0)] [] (mkR (f_r F 6 (32 * t + 17 + k) (32 * t + 25) (fun j => F 28 (j - (32 * t + 17))))) := by
  intro d
  induction d with
  | zero =>
    intro k F hk
    rw [e_173_100, if_pos (by rw [show k = 8 by omega]; decide), show 32 * t + 17 + k = 32 * t + 25 by omega, f_r0]
  | succ d ih =>
    intro k F hk
    rw [e_173_100]
    simp only [kR1, kR2, kR3, kR4, kR5, kR6, kR7, kR8, kR9, kR10, kR11, kR12, kR13, kR14, kR15, kR16, kR17, kR18, kR19, kR20, kR21, kR22, kR23, kR24, kR25, kR26, kR27, kR28, kR29, kR30, lR1, lR2, lR3, lR4, lR5, lR6, lR7, lR8, lR9, lR10, lR11, lR12, lR13, lR14, lR15, lR16, lR17, lR18, lR19, lR20, lR21, lR22, lR23, lR24, lR25, lR26, lR27, lR28, lR29, lR30, rR5, rR6, rR7, rR8, rR9, rR10, rR11, rR12, rR13, rR14, rR15, rR16, rR17, rR18, rR19, rR20, rR21, rR22, rR23, rR24, rR25, rR26, rR27, rR28, rR29, rR30, R_i, R_si, R_rec, if_true, if_false, true_and, and_true, true_or, or_true, List.length_nil, List.length_cons, Nat.zero_le, c_I, c_R, c_V, n_l (N := 8) (k := k) 8 rfl (by omega) (by decide), nI_1, nk (32 * t) k 17 17 rfl, i_t (show k < 8 by omega) (by decide), i_c (show k < 2 ^ 31 by omega), i_t (show 32 * t + 17 + k < 3072 by omega) (by decide), i_c (show 32 * t + 17 + k < 2 ^ 31 by omega)]
    rw [ih (k + 1) _ (by omega)]
    have e := f_rs2 (F := F) (a := 6) (b := 28) (lo := 32 * t + 17 + k) (hi := 32 * t + 25) (w := fun j => j - (32 * t + 17)) (by omega) (Or.inl (by decide))
    simp only [show 32 * t + 17 + k - (32 * t + 17) = k by omega] at e
    rw [← Nat.add_assoc, e]
theorem R_at5 {t o : Nat} (ht : t < 96) (x : Int32) : ∀ (d k : Nat) (F : Nat → Nat → Int32), k + d = 7 → ev 173 136 [some (.inr 4), some (.inl x), some (.inl (nI t)), some (.inl (nI o)), some (.inl (nI (32 * t))), some (.inl (nI k))] [] (mkR F) = some (some (.inl 0), mkR (f_r F 6 (32 * t + 25 + k) (32 * t + 32) (fun j => F 28 (j - (32 * t + 25))))) := by
  intro d
  induction d with
  | zero =>
    intro k F hk
    rw [e_173_136, if_pos (by rw [show k = 7 by omega]; decide), show 32 * t + 25 + k = 32 * t + 32 by omega, f_r0]
  | succ d ih =>
    intro k F hk
    rw [e_173_136]
    simp only [kR1, kR2, kR3, kR4, kR5, kR6, kR7, kR8, kR9, kR10, kR11, kR12, kR13, kR14, kR15, kR16, kR17, kR18, kR19, kR20, kR21, kR22, kR23, kR24, kR25, kR26, kR27, kR28, kR29, kR30, lR1, lR2, lR3, lR4, lR5, lR6, lR7, lR8, lR9, lR10, lR11, lR12, lR13, lR14, lR15, lR16, lR17, lR18, lR19, lR20, lR21, lR22, lR23, lR24, lR25, lR26, lR27, lR28, lR29, lR30, rR5, rR6, rR7, rR8, rR9, rR10, rR11, rR12, rR13, rR14, rR15, rR16, rR17, rR18, rR19, rR20, rR21, rR22, rR23, rR24, rR25, rR26, rR27, rR28, rR29, rR30, R_i, R_si, R_rec, if_true, if_false, true_and, and_true, true_or, or_true, List.length_nil, List.length_cons, Nat.zero_le, c_I, c_R, c_V, n_l (N := 7) (k := k) 7 rfl (by omega) (by decide), nI_1, nk (32 * t) k 25 25 rfl, i_t (show k < 8 by omega) (by decide), i_c (show k < 2 ^ 31 by omega), i_t (show 32 * t + 25 + k < 3072 by omega) (by decide), i_c (show 32 * t + 25 + k < 2 ^ 31 by omega)]
    rw [ih (k + 1) _ (by omega)]
    have e := f_rs2 (F := F) (a := 6) (b := 28) (lo := 32 * t + 25 + k) (hi := 32 * t + 32) (w := fun j => j - (32 * t + 25)) (by omega) (Or.inl (by decide))
    simp only [show 32 * t + 25 + k - (32 * t + 25) = k by omega] at e
    rw [← Nat.add_assoc, e]
theorem R_at4 {f0 : Nat → Nat → Int32} {t o : Nat} (ht : t < 96) (x : Int32) : ∀ (d k : Nat) (F : Nat → Nat → Int32) (wl : List Int32), k + d = 25 → wl.length + d ≤ 45 → rS f0 wl F → ∃ F', ev 173 119 [some (.inr 4), some (.inl x), some (.inl (nI t)), some (.inl (nI o)), some (.inl (nI (32 * t))), some (.inl (nI k))] [] (mkR F) = ev 173 119 [some (.inr 4), some (.inl x), some (.inl (nI t)), some (.inl (nI o)), some (.inl (nI (32 * t))), some (.inl (nI 25))] [] (mkR F') ∧ rS f0 (wl ++ rowL (fun j => f0 6 (32 * t + (k + j))) d) F' := by
  intro d
  induction d with
  | zero =>
    intro k F wl hk hl hS
    exact ⟨F, by rw [show k = 25 by omega], by simpa [rowL] using hS⟩
  | succ d ih =>
    intro k F wl hk hl hS
    obtain ⟨F1, e1, e2⟩ := rS_say hS (by omega) (f0 6 (32 * t + k))
    obtain ⟨F2, e3, e4⟩ := ih (k + 1) F1 (wl ++ [f0 6 (32 * t + k)]) (by omega) (by rw [List.length_append]; simp; omega) e2
    refine ⟨F2, ?_, ?_⟩
    · rw [e_173_119]
      have f6 : F 6 (32 * t + k) = f0 6 (32 * t + k) := hS.2.2 6 _ (by decide) (by omega)
      simp only [kR1, kR2, kR3, kR4, kR5, kR6, kR7, kR8, kR9, kR10, kR11, kR12, kR13, kR14, kR15, kR16, kR17, kR18, kR19, kR20, kR21, kR22, kR23, kR24, kR25, kR26, kR27, kR28, kR29, kR30, lR1, lR2, lR3, lR4, lR5, lR6, lR7, lR8, lR9, lR10, lR11, lR12, lR13, lR14, lR15, lR16, lR17, lR18, lR19, lR20, lR21, lR22, lR23, lR24, lR25, lR26, lR27, lR28, lR29, lR30, rR5, rR6, rR7, rR8, rR9, rR10, rR11, rR12, rR13, rR14, rR15, rR16, rR17, rR18, rR19, rR20, rR21, rR22, rR23, rR24, rR25, rR26, rR27, rR28, rR29, rR30, R_i, R_si, R_rec, if_true, if_false, true_and, and_true, true_or, or_true, List.length_nil, List.length_cons, Nat.zero_le, c_I, c_R, c_V, n_l (N := 25) (k := k) 25 rfl (by omega) (by decide), nI_1, nI_add, i_t (show 32 * t + k < 3072 by omega) (by decide), i_c (show 32 * t + k < 2 ^ 31 by omega), f6, e1]
      exact e3
    · rw [rowL_cons]
      rw [List.append_assoc] at e4
      rw [show (fun j => f0 6 (32 * t + (k + (j + 1)))) = (fun j => f0 6 (32 * t + (k + 1 + j))) from funext fun j => by rw [show k + (j + 1) = k + 1 + j by omega]]
      exact e4
theorem R_at2 {f0 F : Nat → Nat → Int32} {t o i : Nat} {wl : List Int32} (ho : o < 96) (x : Int32) (hS : rS f0 wl F) (hi : i < 5) (hl : wl.length + 8 ≤ 45) : ∃ F', ev 173 87 [some (.inr 4), some (.inl x), some (.inl (nI t)), some (.inl (nI o)), some (.inl (nI (32 * t))), some (.inl (nI i))] [] (mkR F) = ev 173 87 [some (.inr 4), some (.inl x), some (.inl (nI t)), some (.inl (nI o)), some (.inl (nI (32 * t))), some (.inl (nI (i + 1)))] [] (mkR F') ∧ rS f0 (wl ++ rowL (fun k => f0 11 (40 * o + 8 * i + k)) 8) F' := by
  obtain ⟨F1, e1, e2⟩ := rS_sayM hS (rd := o) (m := i) (by omega) ho hi
  refine ⟨F1, ?_, e2⟩
  rw [e_173_87, if_neg (show ¬ (4 : Int32) < nI i from nI_nlt (a := 4) (by omega) (by decide))]
  simp only [kR1, kR2, kR3, kR4, kR5, kR6, kR7, kR8, kR9, kR10, kR11, kR12, kR13, kR14, kR15, kR16, kR17, kR18, kR19, kR20, kR21, kR22, kR23, kR24, kR25, kR26, kR27, kR28, kR29, kR30, lR1, lR2, lR3, lR4, lR5, lR6, lR7, lR8, lR9, lR10, lR11, lR12, lR13, lR14, lR15, lR16, lR17, lR18, lR19, lR20, lR21, lR22, lR23, lR24, lR25, lR26, lR27, lR28, lR29, lR30, rR5, rR6, rR7, rR8, rR9, rR10, rR11, rR12, rR13, rR14, rR15, rR16, rR17, rR18, rR19, rR20, rR21, rR22, rR23, rR24, rR25, rR26, rR27, rR28, rR29, rR30, R_i, R_si, R_rec, if_true, if_false, true_and, and_true, true_or, or_true, List.length_nil, List.length_cons, Nat.zero_le, c_I, c_R, c_V, e1, nI_1]
section OP
variable {n : Nat} {M : mM} {f : Nat → Nat → Int32} {ρ τ κ : Nat → Nat}
theorem R0_row {F : Nat → Nat → Int32} (h : R0 n M F ρ τ κ) {o q k : Nat} (ho : o < n) (ho2 : F 5 o = 2) (hq : q < 5) (hk : k < 8) : h_i M (ρ o + 2 + q) k = F 11 (40 * o + 8 * q + k) := by
  have b := (at_d h ho ho2).1
  have := (h.2.2.2.2.2.2.1 o ho ho2).2.2.2.2.2.2.2.2.2 q k hq hk
  rw [i_si, if_neg (by omega)] at this
  exact this
theorem R0_word {F : Nat → Nat → Int32} (h : R0 n M F ρ τ κ) {t k : Nat} (ht : t < n) (hk : k < 32) : h_i M (Wd t) k = F 6 (32 * t + k) := by
  have := (h.2.2.2.2.2.1 t ht).2.2.1 k hk
  rw [i_si, if_neg (by unfold Wd; omega)] at this
  exact this
theorem R0_st {F : Nat → Nat → Int32} (h : R0 n M F ρ τ κ) : (∀ i, i < 8 → h_i M 1 i = s_t1 i) ∧ ∀ i, i < 64 → h_i M 2 i = s_t2 i := by
  obtain ⟨h1, h2⟩ := h.2.2.1
  refine ⟨fun i hi => ?_, fun i hi => ?_⟩
  · have := h1 i hi; rw [i_si, if_neg (by omega)] at this; exact this
  · have := h2 i hi; rw [i_si, if_neg (by omega)] at this; exact this
/-- the class's walk through a realm's measurements -/
theorem C_at2 {a q : Nat} (hX : X_d n M a) (hk : h_k M a = 4) (ha : 10 < a) (hD : D_sh M) (s1 : h_k M 4 = 7) (s2 : h_r M 4 1 = 5) {M1 : mM} {wl : List Int32} (h : dS M wl M1) {i w : Nat} (hi : i < 5) (hl : wl.length + 8 ≤ 45) : ∃ M2, ev 97 26 [some (.inr 4), some (.inr q), some (.inr w), some (.inr a), some (.inl (nI i))] [] M1 = ev 97 26 [some (.inr 4), some (.inr q), some (.inr w), some (.inr a), some (.inl (nI (i + 1)))] [] M2 ∧ dS M (wl ++ rowL (h_i M (a + 2 + i)) 8) M2 := by
  obtain ⟨x1, x2, x3, x4, x5, x6⟩ := hX
  obtain ⟨y1, y2, y3⟩ := x6 i hi
  obtain ⟨M2, e1, e2⟩ := dS_row hD h (n := 8) (a := a + 2 + i) (by omega) y2 (by omega) (by omega) (by omega) (by omega)
  obtain ⟨k1, k2, k3⟩ := dS_s h
  refine ⟨M2, ?_, e2⟩
  rw [show nI 8 = 8 from rfl] at e1
  rw [e_97_26, if_neg (n_l (N := 5) 5 rfl hi (by decide))]
  simp only [c_I, c_R, c_V, if_true, if_false, true_and, and_true, true_or, or_true, List.length_nil, List.length_cons, Nat.zero_le, k_si, l_si, r_si, k_sr, l_sr, i_sr, n_si, ar_si, ar_sr, ar_0, k1, k2, k3, s1, s2, hk, x3, x4, x5, i_t hi (N := 5) (by decide), i_c (show i < 2 ^ 31 by omega), y1, rc1 (show h_k M1 5 = 1 by rw [k1]; exact hD.1), e1, nI_1]
/-- a token, on both sides -/
theorem token_ (h : Rel n M f ρ τ κ) {r g o t : Nat} (hrn : rn_ n M f ρ κ r g o) (ht : t < n) (x : Int32) : ∃ M' F, ev 97 0 [some (.inr 4), some (.inr (κ r)), some (.inr (Wd t)), none, none] [] M = some (none, M') ∧ ev 173 47 [some (.inr 4), some (.inl x), some (.inl (nI t)), some (.inl (nI o)), some (.inl (nI (32 * t))), some (.inl 0)] [] (mkR (f_s (f_s f 4 1 0) 6 (32 * t) 1414482737)) = some (some (.inl 0), mkR F) ∧ Rel n (h_si M' 4 4 0) F ρ τ κ ∧ h_n M' = h_n M ∧ h_v M' = h_v M ∧ h_k M' 4 = 7 := by
  obtain ⟨⟨hr, hg, ho⟩, r1, r2, r3, r4, r5, r6, r7, r8, r9, r10, r11, r12, r13, r14, r15, r16⟩ := hrn
  have s1 := h.1.2.1.1
  have s2 := h.1.2.1.2.2.1
  have hD := h.1.1
  have hN := h.2.2.2.1.2.2.1
  obtain ⟨g1, g2, g3, g4, g5⟩ := h.1.2.2.2.2.1 t ht
  obtain ⟨d1, -, -, -, -, -, -, -, -, d10⟩ := h.2.2.2.2.2.2.1 o ho r12
  have hX := (h.2.1 (ρ o)).1 d1
  obtain ⟨y1, y2, y3, y4, y5, y6⟩ := id hX
  have cb := (at_c h hr r3).1
  have wt : Wd t ≤ 10 + 2 * n := by unfold Wd; omega
  have wt9 : 10 < Wd t := by unfold Wd; omega
  have h0 := R0_of h 0
  have n31 : f_s f 4 1 0 4 31 = 0 := (f4n (by decide)).trans h.2.2.2.1.2.2.2.1
  have ra := R_at1 (t := t) (r := r) (o := o) (by omega) (by omega) (by omega) x 8 0 (f_s (f_s f 4 1 0) 6 (32 * t) 1414482737) rfl (by rw [f_s_row (show 4 ≠ 6 by decide)]; exact (f4n (by decide)).trans r1)
  rw [show nI 0 = 0 from rfl] at ra
  -- the first part
  have eA : h_cp (h_cp (h_si M (Wd t) 0 1414482737) (κ r + 1) 0 (Wd t) 1 8) (ρ o + 2) 0 (Wd t) 9 8 = mkU M (f_c (f_c (f_s (h_i M) (Wd t) 0 1414482737) (κ r + 1) 0 (Wd t) 1 8) (ρ o + 2) 0 (Wd t) 9 8) := by rw [si_U, U_cp, U_cp]
  have hA : R0 n (mkU M (f_c (f_c (f_s (h_i M) (Wd t) 0 1414482737) (κ r + 1) 0 (Wd t) 1 8) (ρ o + 2) 0 (Wd t) 9 8)) (tA t r o (f_s (f_s f 4 1 0) 6 (32 * t) 1414482737) 0) ρ τ κ := by
    refine R0_tok h0 ht (o := 0) (m := 17) (by omega) (D := fun k => if k = 0 then 1414482737 else if k < 9 then f 19 (8 * r + (k - 1)) else f 11 (40 * o + (k - 9))) (fun k hk => ?_) (fun j hj => ?_) (fun b j q1 q2 => ?_) ?_ (fun b j q1 q2 q3 q4 => ?_)
    · rw [Nat.zero_add]
      unfold f_c
      by_cases e1 : k = 0
      · subst e1
        rw [if_neg (by omega), if_neg (by omega), f_s_eq]; rfl
      · by_cases e2 : k < 9
        · rw [if_neg (by omega), if_pos (by omega), f_s_ne (by omega)]
          simp only [e1, e2, if_true, if_false]
          rw [Nat.zero_add]; exact r16 (k - 1) (by omega)
        · rw [if_pos (by omega), if_neg (by omega), f_s_ne (by omega)]
          simp only [e1, e2, if_false]
          rw [Nat.zero_add]
          have := d10 0 (k - 9) (by decide) (by omega)
          rw [show ρ o + 2 + 0 = ρ o + 2 by omega, show 40 * o + 8 * 0 + (k - 9) = 40 * o + (k - 9) by omega] at this
          exact this
    · unfold f_c
      rw [if_neg (by omega), if_neg (by omega), f_s_ne (by omega)]
    · unfold f_c
      rw [if_neg (by omega), if_neg (by omega), f_s_ne (by omega)]
    · unfold tA
      rw [f_r_row (show 4 ≠ 6 by decide), f_r_row (show 4 ≠ 6 by decide), f_s_row (show 4 ≠ 6 by decide)]; exact n31
    · unfold tA
      simp only [f_s_row (show 19 ≠ 6 by decide), f_s_row (show 11 ≠ 6 by decide), f_s_row (show 19 ≠ 4 by decide), f_s_row (show 11 ≠ 4 by decide)]
      by_cases hb : b = 6
      · subst hb
        by_cases e0 : j = 32 * t
        · subst e0
          rw [f_r_ne (by omega), f_r_ne (by omega), f_s_eq, f_r_in (by omega) (by omega)]
          rw [Nat.add_zero, Nat.sub_self]; rfl
        · by_cases e1 : 32 * t < j ∧ j < 32 * t + 9
          · rw [f_r_ne (by omega), f_r_in (by omega) (by omega), f_r_in (by omega) (by omega)]
            simp only [Nat.add_zero, show ¬ j - 32 * t = 0 by omega, show j - 32 * t < 9 by omega, if_true, if_false]
            congr 1
          · by_cases e2 : 32 * t + 9 ≤ j ∧ j < 32 * t + 17
            · rw [f_r_in (by omega) (by omega), f_r_in (by omega) (by omega)]
              simp only [Nat.add_zero, show ¬ j - 32 * t = 0 by omega, show ¬ j - 32 * t < 9 by omega, if_false]
              congr 1
            · rw [f_r_ne (by omega), f_r_ne (by omega), f_s_ne (by omega), f_r_ne (by omega)]
      · rw [f_r_row hb, f_r_row hb, f_s_row hb, f_r_row hb]
  have FA4 : ∀ b, b ≠ 6 → tA t r o (f_s (f_s f 4 1 0) 6 (32 * t) 1414482737) 0 b = f_s f 4 1 0 b := fun b hb => by
    unfold tA
    rw [f_r_row hb, f_r_row hb, f_s_row hb]
  have smA := sm3_U M (f_c (f_c (f_s (h_i M) (Wd t) 0 1414482737) (κ r + 1) 0 (Wd t) 1 8) (ρ o + 2) 0 (Wd t) 9 8)
  have nA : h_n (mkU M (f_c (f_c (f_s (h_i M) (Wd t) 0 1414482737) (κ r + 1) 0 (Wd t) 1 8) (ρ o + 2) 0 (Wd t) 9 8)) = h_n M ∧ h_v (mkU M (f_c (f_c (f_s (h_i M) (Wd t) 0 1414482737) (κ r + 1) 0 (Wd t) 1 8) (ρ o + 2) 0 (Wd t) 9 8)) = h_v M := ⟨rfl, rfl⟩
  generalize mkU M (f_c (f_c (f_s (h_i M) (Wd t) 0 1414482737) (κ r + 1) 0 (Wd t) 1 8) (ρ o + 2) 0 (Wd t) 9 8) = MA at eA hA smA nA
  generalize tA t r o (f_s (f_s f 4 1 0) 6 (32 * t) 1414482737) 0 = FA at ra hA FA4
  obtain ⟨kA, lA, rA⟩ := smA
  have hDA : D_sh MA := hA.1.1
  have hX2 : X_d n MA (ρ o) := by
    have := (hA.2.1 (ρ o)).1 (by rw [k_si, kA]; exact d1)
    exact this
  have s1A : h_k MA 4 = 7 := by rw [kA]; exact s1
  have s2A : h_r MA 4 1 = 5 := by rw [rA]; exact s2
  have kAo : h_k MA (ρ o) = 4 := by rw [kA]; exact d1
  have FA5 : FA 5 o = 2 := by rw [FA4 5 (by decide), f_s_row (show 5 ≠ 4 by decide)]; exact r12
  -- the others' digest
  obtain ⟨N0, p0, D0⟩ := dS_start hDA
  obtain ⟨N1, p1, D1⟩ := C_at2 (q := κ r) (w := Wd t) hX2 kAo (by omega) hDA s1A s2A D0 (i := 1) (by decide) (by simp)
  obtain ⟨N2, p2, D2⟩ := C_at2 (q := κ r) (w := Wd t) hX2 kAo (by omega) hDA s1A s2A D1 (i := 2) (by decide) (by simp [rowL_len])
  obtain ⟨N3, p3, D3⟩ := C_at2 (q := κ r) (w := Wd t) hX2 kAo (by omega) hDA s1A s2A D2 (i := 3) (by decide) (by simp [rowL_len])
  obtain ⟨N4, p4, D4⟩ := C_at2 (q := κ r) (w := Wd t) hX2 kAo (by omega) hDA s1A s2A D3 (i := 4) (by decide) (by simp [rowL_len])
  have stA := R0_st hA
  have kAt : h_k MA (Wd t) = 9 := by rw [kA]; exact g4
  have lAt : h_l MA (Wd t) = 32 := by rw [lA]; exact g5
  obtain ⟨cB, p5, b1, b2, b3⟩ := dS_fin hDA D4 (a := Wd t) (o := 17) (n := 8) (by simp [rowL_len]) kAt (by omega) (by omega) (by omega) (by omega) stA.1 stA.2
  have FA31 : FA 4 31 = 0 := by rw [FA4 4 (by decide)]; exact n31
  have hK3 : ∀ j, j < 64 → FA 3 j = s_t3 j := fun j hj => by rw [FA4 3 (by decide), f_s_row (show 3 ≠ 4 by decide)]; exact h.2.2.2.1.2.2.2.2.1 j hj
  obtain ⟨G1, q1, S1⟩ := R_at2 (t := t) (o := o) (i := 1) (by omega) x (rS_nil FA31) (by decide) (by simp)
  obtain ⟨G2, q2, S2⟩ := R_at2 (t := t) (o := o) (i := 2) (by omega) x S1 (by decide) (by simp [rowL_len])
  obtain ⟨G3, q3, S3⟩ := R_at2 (t := t) (o := o) (i := 3) (by omega) x S2 (by decide) (by simp [rowL_len])
  obtain ⟨G4, q4, S4⟩ := R_at2 (t := t) (o := o) (i := 4) (by omega) x S3 (by decide) (by simp [rowL_len])
  obtain ⟨G5, q5, u1, u2, u3⟩ := rS_dig S4 (by simp [rowL_len]) hK3
  have q6 := R_at3 (t := t) (o := o) (by omega) x 8 0 G5 rfl
  have rw_ : ∀ i, i < 5 → rowL (h_i MA (ρ o + 2 + i)) 8 = rowL (fun k => FA 11 (40 * o + 8 * i + k)) 8 := fun i hi => rowL_congr (fun k hk => R0_row hA ho FA5 hi hk)
  rw [rw_ 1 (by decide), rw_ 2 (by decide), rw_ 3 (by decide), rw_ 4 (by decide)] at b1
  have hBB : R0 n (mkU MA cB) (f_r G5 6 (32 * t + 17) (32 * t + 25) (fun j => G5 28 (j - (32 * t + 17)))) ρ τ κ := by
    refine R0_tok hA ht (by omega) b1 b2 b3 ?_ (fun b j z1 z2 z3 z4 => ?_)
    · rw [f_r_row (show 4 ≠ 6 by decide)]; exact u1
    · by_cases hb : b = 6
      · subst hb
        by_cases e : 32 * t + 17 ≤ j ∧ j < 32 * t + 25
        · rw [f_r_in e.1 e.2, f_r_in (by omega) (by omega)]
          exact u2 _ (by omega)
        · rw [f_r_ne (by omega), f_r_ne (by omega)]; exact u3 6 j z1 z2 z3 z4
      · rw [f_r_row hb, f_r_row hb]; exact u3 b j z1 z2 z3 z4
  have nB : h_n (mkU MA cB) = h_n M ∧ h_v (mkU MA cB) = h_v M := nA
  have smB : h_k (mkU MA cB) = h_k M ∧ h_l (mkU MA cB) = h_l M ∧ h_r (mkU MA cB) = h_r M := ⟨kA, lA, rA⟩
  have FB3 : ∀ j, j < 64 → f_r G5 6 (32 * t + 17) (32 * t + 25) (fun j => G5 28 (j - (32 * t + 17))) 3 j = s_t3 j := fun j hj => by rw [f_r_row (show 3 ≠ 6 by decide), u3 3 j (by decide) (by decide) (by decide) (by omega)]; exact hK3 j hj
  have FB31 : f_r G5 6 (32 * t + 17) (32 * t + 25) (fun j => G5 28 (j - (32 * t + 17))) 4 31 = 0 := by rw [f_r_row (show 4 ≠ 6 by decide)]; exact u1
  have FB41 : f_r G5 6 (32 * t + 17) (32 * t + 25) (fun j => G5 28 (j - (32 * t + 17))) 4 1 = 0 := by rw [f_r_row (show 4 ≠ 6 by decide), u3 4 1 (by decide) (by decide) (by decide) (by decide), FA4 4 (by decide), f_s_eq]
  generalize mkU MA cB = MB at p5 hBB nB smB
  have q6' : ev 173 100 [some (.inr 4), some (.inl x), some (.inl (nI t)), some (.inl (nI o)), some (.inl (nI (32 * t))), some (.inl 0)] [] (mkR G5) = ev 173 119 [some (.inr 4), some (.inl x), some (.inl (nI t)), some (.inl (nI o)), some (.inl (nI (32 * t))), some (.inl 0)] [] (mkR (f_r G5 6 (32 * t + 17) (32 * t + 25) (fun j => G5 28 (j - (32 * t + 17))))) := q6
  generalize f_r G5 6 (32 * t + 17) (32 * t + 25) (fun j => G5 28 (j - (32 * t + 17))) = FB at q6' hBB FB3 FB31 FB41
  obtain ⟨kB, lB, rB⟩ := smB
  have hDB : D_sh MB := hBB.1.1
  have stB := R0_st hBB
  have kBt : h_k MB (Wd t) = 9 := by rw [kB]; exact g4
  have lBt : h_l MB (Wd t) = 32 := by rw [lB]; exact g5
  have s1B : h_k MB 4 = 7 := by rw [kB]; exact s1
  have s2B : h_r MB 4 1 = 5 := by rw [rB]; exact s2
  -- the seal
  obtain ⟨L0, a0, E0⟩ := dS_start hDB
  obtain ⟨L1, a1, E1⟩ := dS_row hDB E0 (n := 25) (a := Wd t) (by simp) kBt (by omega) (by omega) (by omega) (by omega)
  obtain ⟨cC, a2, v1, v2, v3⟩ := dS_fin hDB E1 (a := Wd t) (o := 25) (n := 7) (by simp [rowL_len]) kBt (by omega) (by omega) (by omega) (by omega) stB.1 stB.2
  obtain ⟨G6, q7, S6⟩ := R_at4 (t := t) (o := o) (by omega) x 25 0 FB [] rfl (by simp) (rS_nil FB31)
  obtain ⟨G7, q8, x1, x2, x3⟩ := rS_dig S6 (by simp [rowL_len]) FB3
  have q9 := R_at5 (t := t) (o := o) (by omega) x 7 0 G7 rfl
  rw [show rowL (h_i MB (Wd t)) 25 = rowL (fun j => FB 6 (32 * t + (0 + j))) 25 from rowL_congr (fun k hk => by rw [Nat.zero_add]; exact R0_word hBB ht (by omega))] at v1
  have hCC : R0 n (mkU MB cC) (f_r G7 6 (32 * t + 25 + 0) (32 * t + 32) (fun j => G7 28 (j - (32 * t + 25)))) ρ τ κ := by
    refine R0_tok hBB ht (by omega) v1 v2 v3 ?_ (fun b j z1 z2 z3 z4 => ?_)
    · rw [f_r_row (show 4 ≠ 6 by decide)]; exact x1
    · by_cases hb : b = 6
      · subst hb
        by_cases e : 32 * t + 25 ≤ j ∧ j < 32 * t + 32
        · rw [f_r_in (by omega) (by omega), f_r_in (by omega) (by omega)]
          exact x2 _ (by omega)
        · rw [f_r_ne (by omega), f_r_ne (by omega)]; exact x3 6 j z1 z2 z3 z4
      · rw [f_r_row hb, f_r_row hb]; exact x3 b j z1 z2 z3 z4
  have e41 : f_r G7 6 (32 * t + 25 + 0) (32 * t + 32) (fun j => G7 28 (j - (32 * t + 25))) 4 1 = 0 := by rw [f_r_row (show 4 ≠ 6 by decide), x3 4 1 (by decide) (by decide) (by decide) (by decide)]; exact FB41
  unfold R0 at hCC
  rw [e41] at hCC
  obtain ⟨kN0, -, rN0⟩ := dS_s D0
  obtain ⟨kN4, -, rN4⟩ := dS_s D4
  obtain ⟨kL0, -, rL0⟩ := dS_s E0
  obtain ⟨kL1, -, rL1⟩ := dS_s E1
  refine ⟨mkU MB cC, _, ?_, ?_, hCC, nB.1, nB.2, s1B⟩
  · have l0 : ¬ (0 : Int32) < 0 := by decide
    have l1 : ¬ (1 : Int32) < 0 := by decide
    have l8 : ¬ (8 : Int32) < 0 := by decide
    have l9 : ¬ (9 : Int32) < 0 := by decide
    have yq := y6 0 (by decide)
    rw [Nat.add_zero] at yq
    obtain ⟨yq1, yq2, yq3⟩ := yq
    have rim : ev 22 0 [some (.inr (ρ o))] [] (h_cp (h_si M (Wd t) 0 1414482737) (κ r + 1) 0 (Wd t) 1 8) = some (some (.inr (ρ o + 2)), h_cp (h_si M (Wd t) 0 1414482737) (κ r + 1) 0 (Wd t) 1 8) := C_rim hX d1 ⟨rfl, rfl, rfl⟩
    have fin : ev 97 26 [some (.inr 4), some (.inr (κ r)), some (.inr (Wd t)), some (.inr (ρ o)), some (.inl (nI 5))] [] N4 = some (none, mkU MB cC) := by
      rw [show nI 17 = 17 from rfl, show nI 8 = 8 from rfl] at p5
      rw [show nI 25 = 25 from rfl] at a1
      rw [show nI 25 = 25 from rfl, show nI 7 = 7 from rfl] at a2
      rw [e_97_26, if_pos (by decide)]
      simp only [c_I, c_R, c_V, if_true, if_false, true_and, and_true, true_or, or_true, List.length_nil, List.length_cons, Nat.zero_le, k_si, l_si, r_si, k_sr, l_sr, i_sr, n_si, ar_si, ar_sr, ar_0, kN4, rN4, s1A, s2A, rc1 (show h_k N4 5 = 1 by rw [kN4]; exact hDA.1), p5, s1B, s2B, rc1 hDB.1, a0, kL0, rL0, rc1 (show h_k L0 5 = 1 by rw [kL0]; exact hDB.1), a1, kL1, rL1, rc1 (show h_k L1 5 = 1 by rw [kL1]; exact hDB.1), a2]
    rw [show nI 1 = 1 from rfl] at p1
    have all : ev 97 26 [some (.inr 4), some (.inr (κ r)), some (.inr (Wd t)), some (.inr (ρ o)), some (.inl 1)] [] N0 = some (none, mkU MB cC) := by rw [p1, p2, p3, p4]; exact fin
    have kAc : h_k (h_cp (h_cp (h_si M (Wd t) 0 1414482737) (κ r + 1) 0 (Wd t) 1 8) (ρ o + 2) 0 (Wd t) 9 8) 4 = 7 := by simp only [k_cp, k_si, s1]
    simp only [e_97_0, c_I, c_R, c_V, if_true, if_false, true_and, and_true, true_or, or_true, List.length_nil, List.length_cons, Nat.zero_le, k_si, l_si, r_si, k_sr, l_sr, i_sr, n_si, ar_si, ar_sr, ar_0, r6, r7, r8, r9, r10, g4, g5, k_cp, l_cp, r_cp, ar_cp, il (show (0 : Int32) = nI 0 from rfl) (show 0 < 32 by decide) (by decide), l0, l1, l8, l9, not_false_eq_true, show 0 + 8 ≤ 8 from by decide, show 1 + 8 ≤ 32 from by decide, show 9 + 8 ≤ 32 from by decide, rc4 d1, rim, yq2, yq3, s1, s2, rc1 hD.1, eA, s1A, s2A, rc1 hDA.1, p0, all]
  · have fin : ev 173 87 [some (.inr 4), some (.inl x), some (.inl (nI t)), some (.inl (nI o)), some (.inl (nI (32 * t))), some (.inl (nI 5))] [] (mkR G4) = some (some (.inl 0), mkR (f_r G7 6 (32 * t + 25 + 0) (32 * t + 32) (fun j => G7 28 (j - (32 * t + 25))))) := by
      rw [e_173_87, if_pos (by decide)]
      simp only [kR1, kR2, kR3, kR4, kR5, kR6, kR7, kR8, kR9, kR10, kR11, kR12, kR13, kR14, kR15, kR16, kR17, kR18, kR19, kR20, kR21, kR22, kR23, kR24, kR25, kR26, kR27, kR28, kR29, kR30, lR1, lR2, lR3, lR4, lR5, lR6, lR7, lR8, lR9, lR10, lR11, lR12, lR13, lR14, lR15, lR16, lR17, lR18, lR19, lR20, lR21, lR22, lR23, lR24, lR25, lR26, lR27, lR28, lR29, lR30, rR5, rR6, rR7, rR8, rR9, rR10, rR11, rR12, rR13, rR14, rR15, rR16, rR17, rR18, rR19, rR20, rR21, rR22, rR23, rR24, rR25, rR26, rR27, rR28, rR29, rR30, R_i, R_si, R_rec, if_true, if_false, true_and, and_true, true_or, or_true, List.length_nil, List.length_cons, Nat.zero_le, c_I, c_R, c_V, q5]
      rw [q6']
      rw [show nI 0 = 0 from rfl] at q7 q9
      rw [q7, e_173_119, if_pos (by decide)]
      simp only [kR1, kR2, kR3, kR4, kR5, kR6, kR7, kR8, kR9, kR10, kR11, kR12, kR13, kR14, kR15, kR16, kR17, kR18, kR19, kR20, kR21, kR22, kR23, kR24, kR25, kR26, kR27, kR28, kR29, kR30, lR1, lR2, lR3, lR4, lR5, lR6, lR7, lR8, lR9, lR10, lR11, lR12, lR13, lR14, lR15, lR16, lR17, lR18, lR19, lR20, lR21, lR22, lR23, lR24, lR25, lR26, lR27, lR28, lR29, lR30, rR5, rR6, rR7, rR8, rR9, rR10, rR11, rR12, rR13, rR14, rR15, rR16, rR17, rR18, rR19, rR20, rR21, rR22, rR23, rR24, rR25, rR26, rR27, rR28, rR29, rR30, R_i, R_si, R_rec, if_true, if_false, true_and, and_true, true_or, or_true, List.length_nil, List.length_cons, Nat.zero_le, c_I, c_R, c_V, q8]
      exact q9
    rw [ra]
    rw [show nI 1 = 1 from rfl] at q1
    rw [q1, q2, q3, q4]
    exact fin
theorem op_attest (h : Rel n M f ρ τ κ) (x : Int32) : OK2 n M (ev 64 0 [some (.inr 4), some (.inl x), none, none] [] M) (ev 173 0 [some (.inr 4), some (.inl x), none, none, none, none] [] (mkR f)) := by
  have s1 := h.1.2.1.1
  have hN := h.2.2.2.1.2.2.1
  rcases run_ h with ⟨r1, r2⟩ | ⟨r, g, o, hrn⟩
  · exact OK2.of (v := -1) (by simp only [e_64_0, c_I, c_R, c_V, if_true, if_false, true_and, and_true, true_or, or_true, List.length_nil, List.length_cons, Nat.zero_le, k_si, l_si, r_si, k_sr, l_sr, i_sr, n_si, ar_si, ar_sr, ar_0, rc7 s1, s1, C_no, C_none, C_yes, C_done, C_bit0, C_bit1, C_fault, z10, z20, z30, z40, z50, z01, zm0, zm1, R_idle1 r1, r2]; try rfl) (by simp only [e_173_0, e_173_13, kR1, kR2, kR3, kR4, kR5, kR6, kR7, kR8, kR9, kR10, kR11, kR12, kR13, kR14, kR15, kR16, kR17, kR18, kR19, kR20, kR21, kR22, kR23, kR24, kR25, kR26, kR27, kR28, kR29, kR30, lR1, lR2, lR3, lR4, lR5, lR6, lR7, lR8, lR9, lR10, lR11, lR12, lR13, lR14, lR15, lR16, lR17, lR18, lR19, lR20, lR21, lR22, lR23, lR24, lR25, lR26, lR27, lR28, lR29, lR30, rR5, rR6, rR7, rR8, rR9, rR10, rR11, rR12, rR13, rR14, rR15, rR16, rR17, rR18, rR19, rR20, rR21, rR22, rR23, rR24, rR25, rR26, rR27, rR28, rR29, rR30, R_i, R_si, R_rec, if_true, if_false, true_and, and_true, true_or, or_true, List.length_nil, List.length_cons, Nat.zero_le, c_I, c_R, c_V, R_no, R_refuse, R_fault, f_s_row, f4c, f4k, f4n, ne_eq, not_false_eq_true, not_true_eq_false, Nat.reduceEqDiff, reduceCtorEq, Nat.succ_ne_zero, Nat.reduceAdd, ar_0, z10, z20, z30, z40, z50, z01, zm0, zm1, R_idle1 r1, r2]; try rfl) (U_status h 4) rfl rfl
  · obtain ⟨⟨hr, hg, ho⟩, r1, r2, r3, r4, r5, r6, r7, r8, r9, r10, r11, r12, r13, r14, r15, r16⟩ := id hrn
    rcases ix2048 x with ⟨hx, -⟩ | ⟨hx, -⟩ | ⟨P, hP, rfl, -⟩
    · exact OK2.of (v := 1) (by simp only [e_64_0, c_I, c_R, c_V, if_true, if_false, true_and, and_true, true_or, or_true, List.length_nil, List.length_cons, Nat.zero_le, k_si, l_si, r_si, k_sr, l_sr, i_sr, n_si, ar_si, ar_sr, ar_0, rc7 s1, s1, C_no, C_none, C_yes, C_done, C_bit0, C_bit1, C_fault, z10, z20, z30, z40, z50, z01, zm0, zm1, R_idle0 (r1.symm ▸ r2), r4, r5, C_isProt0 (Or.inl hx), R_isSafe0 (Or.inl hx)]; try rfl) (by simp only [e_173_0, e_173_13, kR1, kR2, kR3, kR4, kR5, kR6, kR7, kR8, kR9, kR10, kR11, kR12, kR13, kR14, kR15, kR16, kR17, kR18, kR19, kR20, kR21, kR22, kR23, kR24, kR25, kR26, kR27, kR28, kR29, kR30, lR1, lR2, lR3, lR4, lR5, lR6, lR7, lR8, lR9, lR10, lR11, lR12, lR13, lR14, lR15, lR16, lR17, lR18, lR19, lR20, lR21, lR22, lR23, lR24, lR25, lR26, lR27, lR28, lR29, lR30, rR5, rR6, rR7, rR8, rR9, rR10, rR11, rR12, rR13, rR14, rR15, rR16, rR17, rR18, rR19, rR20, rR21, rR22, rR23, rR24, rR25, rR26, rR27, rR28, rR29, rR30, R_i, R_si, R_rec, if_true, if_false, true_and, and_true, true_or, or_true, List.length_nil, List.length_cons, Nat.zero_le, c_I, c_R, c_V, R_no, R_refuse, R_fault, f_s_row, f4c, f4k, f4n, ne_eq, not_false_eq_true, not_true_eq_false, Nat.reduceEqDiff, reduceCtorEq, Nat.succ_ne_zero, Nat.reduceAdd, ar_0, z10, z20, z30, z40, z50, z01, zm0, zm1, R_idle0 (r1.symm ▸ r2), r4, r5, C_isProt0 (Or.inl hx), R_isSafe0 (Or.inl hx)]; try rfl) (U_fault h) rfl rfl
    · exact OK2.of (v := 1) (by simp only [e_64_0, c_I, c_R, c_V, if_true, if_false, true_and, and_true, true_or, or_true, List.length_nil, List.length_cons, Nat.zero_le, k_si, l_si, r_si, k_sr, l_sr, i_sr, n_si, ar_si, ar_sr, ar_0, rc7 s1, s1, C_no, C_none, C_yes, C_done, C_bit0, C_bit1, C_fault, z10, z20, z30, z40, z50, z01, zm0, zm1, R_idle0 (r1.symm ▸ r2), r4, r5, C_isProt0 (Or.inr hx), R_isSafe0 (Or.inr hx)]; try rfl) (by simp only [e_173_0, e_173_13, kR1, kR2, kR3, kR4, kR5, kR6, kR7, kR8, kR9, kR10, kR11, kR12, kR13, kR14, kR15, kR16, kR17, kR18, kR19, kR20, kR21, kR22, kR23, kR24, kR25, kR26, kR27, kR28, kR29, kR30, lR1, lR2, lR3, lR4, lR5, lR6, lR7, lR8, lR9, lR10, lR11, lR12, lR13, lR14, lR15, lR16, lR17, lR18, lR19, lR20, lR21, lR22, lR23, lR24, lR25, lR26, lR27, lR28, lR29, lR30, rR5, rR6, rR7, rR8, rR9, rR10, rR11, rR12, rR13, rR14, rR15, rR16, rR17, rR18, rR19, rR20, rR21, rR22, rR23, rR24, rR25, rR26, rR27, rR28, rR29, rR30, R_i, R_si, R_rec, if_true, if_false, true_and, and_true, true_or, or_true, List.length_nil, List.length_cons, Nat.zero_le, c_I, c_R, c_V, R_no, R_refuse, R_fault, f_s_row, f4c, f4k, f4n, ne_eq, not_false_eq_true, not_true_eq_false, Nat.reduceEqDiff, reduceCtorEq, Nat.succ_ne_zero, Nat.reduceAdd, ar_0, z10, z20, z30, z40, z50, z01, zm0, zm1, R_idle0 (r1.symm ▸ r2), r4, r5, C_isProt0 (Or.inr hx), R_isSafe0 (Or.inr hx)]; try rfl) (U_fault h) rfl rfl
    rcases reach_ h hrn (show P < 4096 by omega) with ⟨t, ht, c1, c2, c3⟩ | ⟨c1, c2, c3⟩ | ⟨c1, c2, c3⟩
    · obtain ⟨M', F, e1, e2, e3, m1, m2, m3⟩ := token_ h hrn ht (nI P)
      obtain ⟨g1, g2, g3, g4, g5⟩ := h.1.2.2.2.2.1 t ht
      refine OK2.of (v := 0) (M' := h_si M' 4 4 0) (f' := F) ?_ ?_ e3 m1 m2
      · simp only [e_64_0, c_I, c_R, c_V, if_true, if_false, true_and, and_true, true_or, or_true, List.length_nil, List.length_cons, Nat.zero_le, k_si, l_si, r_si, k_sr, l_sr, i_sr, n_si, ar_si, ar_sr, ar_0, rc7 s1, s1, C_no, C_none, C_yes, C_done, C_bit0, C_bit1, C_fault, z10, z20, z30, z40, z50, z01, zm0, zm1, r4, r5, r6, r10, C_isProt1 hP, c1, G_ne, g2, g3, e1, rc7 m3, C_done m3]
      · simp only [e_173_0, e_173_13, kR1, kR2, kR3, kR4, kR5, kR6, kR7, kR8, kR9, kR10, kR11, kR12, kR13, kR14, kR15, kR16, kR17, kR18, kR19, kR20, kR21, kR22, kR23, kR24, kR25, kR26, kR27, kR28, kR29, kR30, lR1, lR2, lR3, lR4, lR5, lR6, lR7, lR8, lR9, lR10, lR11, lR12, lR13, lR14, lR15, lR16, lR17, lR18, lR19, lR20, lR21, lR22, lR23, lR24, lR25, lR26, lR27, lR28, lR29, lR30, rR5, rR6, rR7, rR8, rR9, rR10, rR11, rR12, rR13, rR14, rR15, rR16, rR17, rR18, rR19, rR20, rR21, rR22, rR23, rR24, rR25, rR26, rR27, rR28, rR29, rR30, R_i, R_si, R_rec, if_true, if_false, true_and, and_true, true_or, or_true, List.length_nil, List.length_cons, Nat.zero_le, c_I, c_R, c_V, z10, z20, z30, z40, z50, z01, zm0, zm1, ar_0, R_idle0 (r1.symm ▸ r2), R_isSafe1 hP, c2, nI_m1 (show t < 2 ^ 31 by omega), nI_m2 (show t < 2 ^ 31 by omega), f4n (show 2 ≠ 1 by decide), f_s_row (show 7 ≠ 4 by decide), r1, r11, i_t (show r < 96 by omega) (show 96 < 2 ^ 31 by decide), i_c (show r < 2 ^ 31 by omega), n32', i_t (show 32 * t < 3072 by omega) (show 3072 < 2 ^ 31 by decide), i_c (show 32 * t < 2 ^ 31 by omega), e2]
    · exact OK2.of (v := 1) (by simp only [e_64_0, c_I, c_R, c_V, if_true, if_false, true_and, and_true, true_or, or_true, List.length_nil, List.length_cons, Nat.zero_le, k_si, l_si, r_si, k_sr, l_sr, i_sr, n_si, ar_si, ar_sr, ar_0, rc7 s1, s1, C_no, C_none, C_yes, C_done, C_bit0, C_bit1, C_fault, z10, z20, z30, z40, z50, z01, zm0, zm1, R_idle0 (r1.symm ▸ r2), r4, r5, r6, r10, C_isProt1 hP, R_isSafe1 hP, c1, c2, c3]; try rfl) (by simp only [e_173_0, e_173_13, kR1, kR2, kR3, kR4, kR5, kR6, kR7, kR8, kR9, kR10, kR11, kR12, kR13, kR14, kR15, kR16, kR17, kR18, kR19, kR20, kR21, kR22, kR23, kR24, kR25, kR26, kR27, kR28, kR29, kR30, lR1, lR2, lR3, lR4, lR5, lR6, lR7, lR8, lR9, lR10, lR11, lR12, lR13, lR14, lR15, lR16, lR17, lR18, lR19, lR20, lR21, lR22, lR23, lR24, lR25, lR26, lR27, lR28, lR29, lR30, rR5, rR6, rR7, rR8, rR9, rR10, rR11, rR12, rR13, rR14, rR15, rR16, rR17, rR18, rR19, rR20, rR21, rR22, rR23, rR24, rR25, rR26, rR27, rR28, rR29, rR30, R_i, R_si, R_rec, if_true, if_false, true_and, and_true, true_or, or_true, List.length_nil, List.length_cons, Nat.zero_le, c_I, c_R, c_V, R_no, R_refuse, R_fault, f_s_row, f4c, f4k, f4n, ne_eq, not_false_eq_true, not_true_eq_false, Nat.reduceEqDiff, reduceCtorEq, Nat.succ_ne_zero, Nat.reduceAdd, ar_0, z10, z20, z30, z40, z50, z01, zm0, zm1, R_idle0 (r1.symm ▸ r2), r4, r5, r6, r10, C_isProt1 hP, R_isSafe1 hP, c1, c2, c3]; try rfl) (U_fault h) rfl rfl
    · obtain ⟨M', e1, e2, e3, m1, m2, -⟩ := exit_ h hrn 5 (nI P) 1 0
      exact OK2.of (v := 2) (by simp only [e_64_0, c_I, c_R, c_V, if_true, if_false, true_and, and_true, true_or, or_true, List.length_nil, List.length_cons, Nat.zero_le, k_si, l_si, r_si, k_sr, l_sr, i_sr, n_si, ar_si, ar_sr, ar_0, rc7 s1, s1, C_no, C_none, C_yes, C_done, C_bit0, C_bit1, C_fault, z10, z20, z30, z40, z50, z01, zm0, zm1, R_idle0 (r1.symm ▸ r2), r4, r5, r6, r10, C_isProt1 hP, R_isSafe1 hP, c1, c2, c3 1 (by simp), e1, e2, m21]; try rfl) (by simp only [e_173_0, e_173_13, kR1, kR2, kR3, kR4, kR5, kR6, kR7, kR8, kR9, kR10, kR11, kR12, kR13, kR14, kR15, kR16, kR17, kR18, kR19, kR20, kR21, kR22, kR23, kR24, kR25, kR26, kR27, kR28, kR29, kR30, lR1, lR2, lR3, lR4, lR5, lR6, lR7, lR8, lR9, lR10, lR11, lR12, lR13, lR14, lR15, lR16, lR17, lR18, lR19, lR20, lR21, lR22, lR23, lR24, lR25, lR26, lR27, lR28, lR29, lR30, rR5, rR6, rR7, rR8, rR9, rR10, rR11, rR12, rR13, rR14, rR15, rR16, rR17, rR18, rR19, rR20, rR21, rR22, rR23, rR24, rR25, rR26, rR27, rR28, rR29, rR30, R_i, R_si, R_rec, if_true, if_false, true_and, and_true, true_or, or_true, List.length_nil, List.length_cons, Nat.zero_le, c_I, c_R, c_V, R_no, R_refuse, R_fault, f_s_row, f4c, f4k, f4n, ne_eq, not_false_eq_true, not_true_eq_false, Nat.reduceEqDiff, reduceCtorEq, Nat.succ_ne_zero, Nat.reduceAdd, ar_0, z10, z20, z30, z40, z50, z01, zm0, zm1, R_idle0 (r1.symm ▸ r2), r4, r5, r6, r10, C_isProt1 hP, R_isSafe1 hP, c1, c2, c3 1 (by simp), e1, e2, m21]; try rfl) (e3) m1 m2
end OP
