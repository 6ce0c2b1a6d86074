/-! the start: the heap of the static tables, both constructors -/
def c_st (b j : Nat) : Int32 := if b = 1 then s_t1 j else if b = 2 then s_t2 j else if b = 3 then s_t3 j else 0
def M_0 : mM := (3, 0, fun a => if a = 0 then 0 else if a ≤ 3 then 14 else 0, fun a => if a ≤ 3 then R_l a else 0, c_st, fun _ _ => 0)
theorem A_n (M : mM) (t l : Nat) : h_n (h_al M t l) = h_n M + 1 := rfl
theorem A_v (M : mM) (t l : Nat) : h_v (h_al M t l) = h_v M + l := rfl
theorem A_k (M : mM) (t l x : Nat) : h_k (h_al M t l) x = if x = h_n M + 1 then t else h_k M x := rfl
theorem A_l (M : mM) (t l x : Nat) : h_l (h_al M t l) x = if x = h_n M + 1 then l else h_l M x := rfl
theorem A_i (M : mM) (t l x j : Nat) : h_i (h_al M t l) x j = if x = h_n M + 1 then 0 else h_i M x j := rfl
theorem A_r (M : mM) (t l x j : Nat) : h_r (h_al M t l) x j = if x = h_n M + 1 then 0 else h_r M x j := rfl
theorem S_r (M : mM) (a k r x j : Nat) : h_r (h_sr M a k r) x j = if x = a ∧ j = k then r else h_r M x j := rfl
theorem S_i (M : mM) (a k : Nat) (v : Int32) (x j : Nat) : h_i (h_si M a k v) x j = if x = a ∧ j = k then v else h_i M x j := rfl
theorem S_n (M : mM) (a k r : Nat) : h_n (h_sr M a k r) = h_n M := rfl
theorem S_v (M : mM) (a k r : Nat) : h_v (h_sr M a k r) = h_v M := rfl
/-! the reference's constructor: a row at a time -/
def R_V (k : Nat) : Nat := ((R_ls.take (k + 1)).drop 4).foldr (· + ·) 0
def R_m (k : Nat) (f : Nat → Nat → Int32) : mM := (k, R_V k, fun a => if a ≤ k then R_k a else 0, fun a => if a ≤ k then R_l a else 0, f, fun a i => if a = 4 ∧ 5 ≤ i ∧ i ≤ k then i else 0)
theorem R_mn (k : Nat) (f : Nat → Nat → Int32) : h_n (R_m k f) = k := rfl
theorem R_mk {k : Nat} (f : Nat → Nat → Int32) (t l : Nat) (h : 4 ≤ k) : h_k (h_al (R_m k f) t l) 4 = 8 := by
  rw [A_k, R_mn, if_neg (by omega)]
  show (if 4 ≤ k then R_k 4 else 0) = 8
  rw [if_pos h]; rfl
theorem R_Vs : ∀ k, k < 30 → 4 ≤ k → R_V (k + 1) = R_V k + R_l (k + 1) := by decide
theorem R_st {k : Nat} {f : Nat → Nat → Int32} {t l : Nat} (h4 : 4 ≤ k) (h30 : k < 30) (ht : R_k (k + 1) = t) (hl : R_l (k + 1) = l) (hf : ∀ b j, 5 ≤ b → f b j = 0) : h_sr (h_al (R_m k f) t l) 4 (k + 1) (k + 1) = R_m (k + 1) f := by
  have e1 : (fun b => if b = k + 1 then t else if b ≤ k then R_k b else 0) = fun b => if b ≤ k + 1 then R_k b else 0 := funext fun b => by
    by_cases q : b = k + 1
    · subst q; rw [if_pos rfl, if_pos (Nat.le_refl _)]; exact ht.symm
    · rw [if_neg q]
      by_cases q2 : b ≤ k
      · rw [if_pos q2, if_pos (by omega)]
      · rw [if_neg q2, if_neg (by omega)]
  have e2 : (fun b => if b = k + 1 then l else if b ≤ k then R_l b else 0) = fun b => if b ≤ k + 1 then R_l b else 0 := funext fun b => by
    by_cases q : b = k + 1
    · subst q; rw [if_pos rfl, if_pos (Nat.le_refl _)]; exact hl.symm
    · rw [if_neg q]
      by_cases q2 : b ≤ k
      · rw [if_pos q2, if_pos (by omega)]
      · rw [if_neg q2, if_neg (by omega)]
  have e3 : (fun b j => if b = k + 1 then 0 else f b j) = f := funext fun b => funext fun j => by
    by_cases q : b = k + 1
    · rw [if_pos q, hf b j (by omega)]
    · rw [if_neg q]
  have e4 : (fun b j => if b = 4 ∧ j = k + 1 then k + 1 else if b = k + 1 then 0 else if b = 4 ∧ 5 ≤ j ∧ j ≤ k then j else 0) = fun b j => if b = 4 ∧ 5 ≤ j ∧ j ≤ k + 1 then j else 0 := funext fun b => funext fun j => by
    by_cases q : b = 4 ∧ j = k + 1
    · obtain ⟨rfl, rfl⟩ := q; rw [if_pos ⟨rfl, rfl⟩, if_pos (by omega)]
    · rw [if_neg q]
      by_cases q2 : b = k + 1
      · rw [if_pos q2, if_neg (by omega)]
      · rw [if_neg q2]
        by_cases q3 : b = 4 ∧ 5 ≤ j ∧ j ≤ k
        · rw [if_pos q3, if_pos (by omega)]
        · rw [if_neg q3, if_neg (by omega)]
  show ((k + 1, R_V k + l, (fun b => if b = k + 1 then t else if b ≤ k then R_k b else 0), (fun b => if b = k + 1 then l else if b ≤ k then R_l b else 0), (fun b j => if b = k + 1 then 0 else f b j), fun b j => if b = 4 ∧ j = k + 1 then k + 1 else if b = k + 1 then 0 else if b = 4 ∧ 5 ≤ j ∧ j ≤ k then j else 0) : mM) = _
  rw [e1, e2, e3, e4]
  show ((k + 1, R_V k + l, _, _, _, _) : mM) = (k + 1, R_V (k + 1), _, _, _, _)
  rw [R_Vs k h30 h4, hl]
theorem R_mK (f : Nat → Nat → Int32) : h_k (R_m 30 f) = h_k (mkR f) := by
  have e1 : (fun a => if a ≤ 30 then R_k a else 0) = R_k := funext fun a => by
    by_cases q : a ≤ 30
    · rw [if_pos q]
    · rw [if_neg q]; unfold R_k; rw [if_neg (by omega), if_neg (by omega), if_neg (by omega), if_neg (by omega), if_neg q]
  exact e1
theorem R_mL (f : Nat → Nat → Int32) : h_l (R_m 30 f) = h_l (mkR f) := by
  have e2 : (fun a => if a ≤ 30 then R_l a else 0) = R_l := funext fun a => by
    by_cases q : a ≤ 30
    · rw [if_pos q]
    · rw [if_neg q]; unfold R_l; rw [List.getD_eq_getElem?_getD, List.getElem?_eq_none (by show 31 ≤ a; omega)]; rfl
  exact e2
theorem R_mQ (f : Nat → Nat → Int32) : h_r (R_m 30 f) = h_r (mkR f) := rfl
theorem R_mI (k : Nat) (f : Nat → Nat → Int32) : h_i (R_m k f) = f := rfl
/-- the number of slots made so far stands in no picture -/
theorem s_w_v {cs : Nat → ClassId} {ad : Nat → Nat} {M M' : mM} (h1 : h_n M' = h_n M) (h2 : h_k M' = h_k M) (h3 : h_l M' = h_l M) (h4 : h_i M' = h_i M) (h5 : h_r M' = h_r M) : s_w cs ad M' = s_w cs ad M := by
  unfold s_w s_ce s_fs
  rw [h1, h2, h3, h4, h5]
theorem w_2_v {M M' : mM} (h1 : h_n M' = h_n M) (h2 : h_k M' = h_k M) (h3 : h_l M' = h_l M) (h4 : h_i M' = h_i M) (h5 : h_r M' = h_r M) (h : w_2 M) : w_2 M' := by
  unfold w_2 w_M w_S at h ⊢
  rw [h1, h2, h3, h4, h5]; exact h
theorem s_wR (cs : Nat → ClassId) (ad : Nat → Nat) (f : Nat → Nat → Int32) : s_w cs ad (R_m 30 f) = s_w cs ad (mkR f) := s_w_v rfl (R_mK f) (R_mL f) rfl (R_mQ f)
theorem w_2R {f : Nat → Nat → Int32} (h : w_2 (R_m 30 f)) : w_2 (mkR f) := w_2_v (M := R_m 30 f) rfl (R_mK f).symm (R_mL f).symm rfl (R_mQ f).symm h
def g_0 : Nat → Nat → Int32 := f_s c_st 4 2 (-1)
theorem g_0z : ∀ b j, 5 ≤ b → g_0 b j = 0 := fun b j h => by
  unfold g_0; rw [f_s_ne (by omega)]; unfold c_st; rw [if_neg (by omega), if_neg (by omega), if_neg (by omega)]
theorem R_0 : h_si (h_al M_0 8 32) 4 2 (-1) = R_m 4 g_0 := by
  have e1 : (fun b => if b = 4 then 8 else if b = 0 then 0 else if b ≤ 3 then 14 else 0) = fun a => if a ≤ 4 then R_k a else 0 := funext fun b => by
    rcases (show b = 0 ∨ b = 1 ∨ b = 2 ∨ b = 3 ∨ b = 4 ∨ 4 < b by omega) with rfl | rfl | rfl | rfl | rfl | q
    · rfl
    · rfl
    · rfl
    · rfl
    · rfl
    · rw [if_neg (by omega), if_neg (by omega), if_neg (by omega), if_neg (by omega)]
  have e2 : (fun b => if b = 4 then 32 else if b ≤ 3 then R_l b else 0) = fun a => if a ≤ 4 then R_l a else 0 := funext fun b => by
    by_cases q : b = 4
    · subst q; rfl
    · rw [if_neg q]
      by_cases q2 : b ≤ 3
      · rw [if_pos q2, if_pos (by omega)]
      · rw [if_neg q2, if_neg (by omega)]
  have e3 : (fun b j => if b = 4 ∧ j = 2 then (-1 : Int32) else if b = 4 then 0 else c_st b j) = g_0 := funext fun b => funext fun j => by
    unfold g_0
    by_cases q : b = 4 ∧ j = 2
    · obtain ⟨rfl, rfl⟩ := q; rw [if_pos ⟨rfl, rfl⟩, f_s_eq]
    · rw [if_neg q, f_s_ne (by omega)]
      by_cases q2 : b = 4
      · subst q2; rw [if_pos rfl]; rfl
      · rw [if_neg q2]
  have e4 : (fun b (j : Nat) => if b = 4 then 0 else (0 : Nat)) = fun a i => if a = 4 ∧ 5 ≤ i ∧ i ≤ 4 then i else 0 := funext fun b => funext fun j => by
    rw [if_neg (show ¬ (b = 4 ∧ 5 ≤ j ∧ j ≤ 4) by omega)]
    by_cases q : b = 4
    · rw [if_pos q]
    · rw [if_neg q]
  show ((4, 32, (fun b => if b = 4 then 8 else if b = 0 then 0 else if b ≤ 3 then 14 else 0), (fun b => if b = 4 then 32 else if b ≤ 3 then R_l b else 0), (fun b j => if b = 4 ∧ j = 2 then (-1 : Int32) else if b = 4 then 0 else c_st b j), fun b (j : Nat) => if b = 4 then 0 else (0 : Nat)) : mM) = _
  rw [e1, e2, e3, e4]
  rfl
theorem st5 : h_sr (h_al (R_m 4 g_0) 9 96) 4 5 5 = R_m 5 g_0 := R_st (k := 4) (by decide) (by decide) rfl rfl g_0z
theorem kt5 : h_k (h_al (R_m 4 g_0) 9 96) 4 = 8 := R_mk g_0 _ _ (by decide)
theorem st6 : h_sr (h_al (R_m 5 g_0) 9 3072) 4 6 6 = R_m 6 g_0 := R_st (k := 5) (by decide) (by decide) rfl rfl g_0z
theorem kt6 : h_k (h_al (R_m 5 g_0) 9 3072) 4 = 8 := R_mk g_0 _ _ (by decide)
theorem st7 : h_sr (h_al (R_m 6 g_0) 9 96) 4 7 7 = R_m 7 g_0 := R_st (k := 6) (by decide) (by decide) rfl rfl g_0z
theorem kt7 : h_k (h_al (R_m 6 g_0) 9 96) 4 = 8 := R_mk g_0 _ _ (by decide)
theorem st8 : h_sr (h_al (R_m 7 g_0) 9 96) 4 8 8 = R_m 8 g_0 := R_st (k := 7) (by decide) (by decide) rfl rfl g_0z
theorem kt8 : h_k (h_al (R_m 7 g_0) 9 96) 4 = 8 := R_mk g_0 _ _ (by decide)
theorem st9 : h_sr (h_al (R_m 8 g_0) 9 96) 4 9 9 = R_m 9 g_0 := R_st (k := 8) (by decide) (by decide) rfl rfl g_0z
theorem kt9 : h_k (h_al (R_m 8 g_0) 9 96) 4 = 8 := R_mk g_0 _ _ (by decide)
theorem st10 : h_sr (h_al (R_m 9 g_0) 9 96) 4 10 10 = R_m 10 g_0 := R_st (k := 9) (by decide) (by decide) rfl rfl g_0z
theorem kt10 : h_k (h_al (R_m 9 g_0) 9 96) 4 = 8 := R_mk g_0 _ _ (by decide)
theorem st11 : h_sr (h_al (R_m 10 g_0) 9 3840) 4 11 11 = R_m 11 g_0 := R_st (k := 10) (by decide) (by decide) rfl rfl g_0z
theorem kt11 : h_k (h_al (R_m 10 g_0) 9 3840) 4 = 8 := R_mk g_0 _ _ (by decide)
theorem st12 : h_sr (h_al (R_m 11 g_0) 9 96) 4 12 12 = R_m 12 g_0 := R_st (k := 11) (by decide) (by decide) rfl rfl g_0z
theorem kt12 : h_k (h_al (R_m 11 g_0) 9 96) 4 = 8 := R_mk g_0 _ _ (by decide)
theorem st13 : h_sr (h_al (R_m 12 g_0) 9 96) 4 13 13 = R_m 13 g_0 := R_st (k := 12) (by decide) (by decide) rfl rfl g_0z
theorem kt13 : h_k (h_al (R_m 12 g_0) 9 96) 4 = 8 := R_mk g_0 _ _ (by decide)
theorem st14 : h_sr (h_al (R_m 13 g_0) 9 768) 4 14 14 = R_m 14 g_0 := R_st (k := 13) (by decide) (by decide) rfl rfl g_0z
theorem kt14 : h_k (h_al (R_m 13 g_0) 9 768) 4 = 8 := R_mk g_0 _ _ (by decide)
theorem st15 : h_sr (h_al (R_m 14 g_0) 9 768) 4 15 15 = R_m 15 g_0 := R_st (k := 14) (by decide) (by decide) rfl rfl g_0z
theorem kt15 : h_k (h_al (R_m 14 g_0) 9 768) 4 = 8 := R_mk g_0 _ _ (by decide)
theorem st16 : h_sr (h_al (R_m 15 g_0) 9 768) 4 16 16 = R_m 16 g_0 := R_st (k := 15) (by decide) (by decide) rfl rfl g_0z
theorem kt16 : h_k (h_al (R_m 15 g_0) 9 768) 4 = 8 := R_mk g_0 _ _ (by decide)
theorem st17 : h_sr (h_al (R_m 16 g_0) 9 96) 4 17 17 = R_m 17 g_0 := R_st (k := 16) (by decide) (by decide) rfl rfl g_0z
theorem kt17 : h_k (h_al (R_m 16 g_0) 9 96) 4 = 8 := R_mk g_0 _ _ (by decide)
theorem st18 : h_sr (h_al (R_m 17 g_0) 10 96) 4 18 18 = R_m 18 g_0 := R_st (k := 17) (by decide) (by decide) rfl rfl g_0z
theorem kt18 : h_k (h_al (R_m 17 g_0) 10 96) 4 = 8 := R_mk g_0 _ _ (by decide)
theorem st19 : h_sr (h_al (R_m 18 g_0) 9 768) 4 19 19 = R_m 19 g_0 := R_st (k := 18) (by decide) (by decide) rfl rfl g_0z
theorem kt19 : h_k (h_al (R_m 18 g_0) 9 768) 4 = 8 := R_mk g_0 _ _ (by decide)
theorem st20 : h_sr (h_al (R_m 19 g_0) 9 96) 4 20 20 = R_m 20 g_0 := R_st (k := 19) (by decide) (by decide) rfl rfl g_0z
theorem kt20 : h_k (h_al (R_m 19 g_0) 9 96) 4 = 8 := R_mk g_0 _ _ (by decide)
theorem st21 : h_sr (h_al (R_m 20 g_0) 9 96) 4 21 21 = R_m 21 g_0 := R_st (k := 20) (by decide) (by decide) rfl rfl g_0z
theorem kt21 : h_k (h_al (R_m 20 g_0) 9 96) 4 = 8 := R_mk g_0 _ _ (by decide)
theorem st22 : h_sr (h_al (R_m 21 g_0) 9 96) 4 22 22 = R_m 22 g_0 := R_st (k := 21) (by decide) (by decide) rfl rfl g_0z
theorem kt22 : h_k (h_al (R_m 21 g_0) 9 96) 4 = 8 := R_mk g_0 _ _ (by decide)
theorem st23 : h_sr (h_al (R_m 22 g_0) 9 96) 4 23 23 = R_m 23 g_0 := R_st (k := 22) (by decide) (by decide) rfl rfl g_0z
theorem kt23 : h_k (h_al (R_m 22 g_0) 9 96) 4 = 8 := R_mk g_0 _ _ (by decide)
theorem st24 : h_sr (h_al (R_m 23 g_0) 9 96) 4 24 24 = R_m 24 g_0 := R_st (k := 23) (by decide) (by decide) rfl rfl g_0z
theorem kt24 : h_k (h_al (R_m 23 g_0) 9 96) 4 = 8 := R_mk g_0 _ _ (by decide)
theorem st25 : h_sr (h_al (R_m 24 g_0) 9 96) 4 25 25 = R_m 25 g_0 := R_st (k := 24) (by decide) (by decide) rfl rfl g_0z
theorem kt25 : h_k (h_al (R_m 24 g_0) 9 96) 4 = 8 := R_mk g_0 _ _ (by decide)
theorem st26 : h_sr (h_al (R_m 25 g_0) 9 96) 4 26 26 = R_m 26 g_0 := R_st (k := 25) (by decide) (by decide) rfl rfl g_0z
theorem kt26 : h_k (h_al (R_m 25 g_0) 9 96) 4 = 8 := R_mk g_0 _ _ (by decide)
theorem st27 : h_sr (h_al (R_m 26 g_0) 9 96) 4 27 27 = R_m 27 g_0 := R_st (k := 26) (by decide) (by decide) rfl rfl g_0z
theorem kt27 : h_k (h_al (R_m 26 g_0) 9 96) 4 = 8 := R_mk g_0 _ _ (by decide)
theorem st28 : h_sr (h_al (R_m 27 g_0) 9 8) 4 28 28 = R_m 28 g_0 := R_st (k := 27) (by decide) (by decide) rfl rfl g_0z
theorem kt28 : h_k (h_al (R_m 27 g_0) 9 8) 4 = 8 := R_mk g_0 _ _ (by decide)
theorem st29 : h_sr (h_al (R_m 28 g_0) 9 64) 4 29 29 = R_m 29 g_0 := R_st (k := 28) (by decide) (by decide) rfl rfl g_0z
theorem kt29 : h_k (h_al (R_m 28 g_0) 9 64) 4 = 8 := R_mk g_0 _ _ (by decide)
theorem st30 : h_sr (h_al (R_m 29 g_0) 9 64) 4 30 30 = R_m 30 g_0 := R_st (k := 29) (by decide) (by decide) rfl rfl g_0z
theorem kt30 : h_k (h_al (R_m 29 g_0) 9 64) 4 = 8 := R_mk g_0 _ _ (by decide)
/-- how many granules -/
def n_of (x : Int32) : Nat := if x < 16 ∨ 96 < x then 32 else x.toNatClampNeg
theorem n_eq (x : Int32) : 16 ≤ n_of x ∧ n_of x ≤ 96 ∧ ((x < 16 ∧ n_of x = 32) ∨ (¬ x < 16 ∧ 96 < x ∧ ¬ x ≤ 96 ∧ n_of x = 32) ∨ (¬ x < 16 ∧ ¬ 96 < x ∧ x ≤ 96 ∧ x = nI (n_of x))) := by
  unfold n_of
  have e16 : (16 : Int32).toInt = 16 := rfl
  have e96 : (96 : Int32).toInt = 96 := rfl
  have lt := Int32.lt_iff_toInt_lt (x := x) (y := 16)
  have gt := Int32.lt_iff_toInt_lt (x := 96) (y := x)
  have le := Int32.le_iff_toInt_le (x := x) (y := 96)
  rw [e16] at lt
  rw [e96] at gt le
  by_cases h1 : x < 16
  · rw [if_pos (Or.inl h1)]
    exact ⟨by decide, by decide, Or.inl ⟨h1, rfl⟩⟩
  · by_cases h2 : 96 < x
    · rw [if_pos (Or.inr h2)]
      exact ⟨by decide, by decide, Or.inr (Or.inl ⟨h1, h2, fun q => by have := le.mp q; have := gt.mp h2; omega, rfl⟩)⟩
    · rw [if_neg (by rintro (q | q); exact h1 q; exact h2 q)]
      have a1 : 16 ≤ x.toInt := by
        rcases (show x.toInt < 16 ∨ 16 ≤ x.toInt by omega) with q | q
        · exact absurd (lt.mpr q) h1
        · exact q
      have a2 : x.toInt ≤ 96 := by
        rcases (show 96 < x.toInt ∨ x.toInt ≤ 96 by omega) with q | q
        · exact absurd (gt.mpr q) h2
        · exact q
      rcases ix2 x (show 97 < 2 ^ 31 by decide) with (q | q) | ⟨g, hg, rfl⟩
      · have e0 : (0 : Int32).toInt = 0 := rfl
        rw [Int32.lt_iff_toInt_lt, e0] at q; omega
      · have e97 : (nI 97).toInt = 97 := rfl
        rw [Int32.le_iff_toInt_le, e97] at q; omega
      · rw [i_c (by omega)]
        have : (nI g).toInt = g := nI_toInt (by omega)
        exact ⟨by omega, by omega, Or.inr (Or.inr ⟨h1, h2, le.mpr a2, rfl⟩)⟩
def f_0 (n : Nat) : Nat → Nat → Int32 := f_s g_0 4 0 (nI n)
theorem R_init (x : Int32) : ev 104 0 [some (.inr 4), some (.inl x)] [] (h_al M_0 8 32) = some (none, R_m 30 (f_0 (n_of x))) := by
  have k0 : h_k (h_al M_0 8 32) 4 = 8 := rfl
  have hp : ∀ k : Int32, (k = 96 ∨ k = 3072 ∨ k = 3840 ∨ k = 768 ∨ k = 8 ∨ k = 64) → (k < 0) = False := fun k h => by rcases h with rfl | rfl | rfl | rfl | rfl | rfl <;> exact eq_false (by decide)
  have k8 : h_k (R_m 30 g_0) 4 = 8 := rfl
  have fin : ∀ y : Int32, h_si (R_m 30 g_0) 4 0 y = R_m 30 (f_s g_0 4 0 y) := fun y => rfl
  have q1 : ((4 : Nat) = 0) = False := eq_false (by decide)
  obtain ⟨-, -, h⟩ := n_eq x
  simp only [e_104_0, e_104_21, e_104_41, e_104_61, e_104_81, e_104_101, q1, not_false_eq_true, true_and, if_true, List.length_nil, Nat.zero_le, k0, R_0, R_mn, Nat.reduceAdd, Nat.reduceLeDiff, st5, kt5, st6, kt6, st7, kt7, st8, kt8, st9, kt9, st10, kt10, st11, kt11, st12, kt12, st13, kt13, st14, kt14, st15, kt15, st16, kt16, st17, kt17, st18, kt18, st19, kt19, st20, kt20, st21, kt21, st22, kt22, st23, kt23, st24, kt24, st25, kt25, st26, kt26, st27, kt27, st28, kt28, st29, kt29, st30, kt30, hp 96 (by simp), hp 3072 (by simp), hp 3840 (by simp), hp 768 (by simp), hp 8 (by simp), hp 64 (by simp)]
  rcases h with ⟨h1, e⟩ | ⟨h1, h2, h3, e⟩ | ⟨h1, h2, h3, e⟩
  · simp only [h1, if_true, e_104_116, e_104_119, k8, fin]
    rw [e]; rfl
  · simp only [h1, h3, if_false, e_104_116, e_104_119, k8, fin, if_true]
    rw [e]; rfl
  · simp only [h1, h3, if_false, e_104_119, k8, fin, if_true]
    unfold f_0; rw [← e]
