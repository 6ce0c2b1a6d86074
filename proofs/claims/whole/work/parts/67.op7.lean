def r_s (R : Nat → Nat → Nat) (a k v : Nat) : Nat → Nat → Nat := fun b j => if b = a ∧ j = k then v else R b j
theorem K_si (M : mM) (a k : Nat) (x : Int32) : h_k (h_si M a k x) = h_k M := rfl
theorem L_si (M : mM) (a k : Nat) (x : Int32) : h_l (h_si M a k x) = h_l M := rfl
theorem I_si (M : mM) (a k : Nat) (x : Int32) : h_i (h_si M a k x) = f_s (h_i M) a k x := rfl
theorem Q_si (M : mM) (a k : Nat) (x : Int32) : h_r (h_si M a k x) = h_r M := rfl
theorem K_sr (M : mM) (a k r : Nat) : h_k (h_sr M a k r) = h_k M := rfl
theorem L_sr (M : mM) (a k r : Nat) : h_l (h_sr M a k r) = h_l M := rfl
theorem I_sr (M : mM) (a k r : Nat) : h_i (h_sr M a k r) = h_i M := rfl
theorem Q_sr (M : mM) (a k r : Nat) : h_r (h_sr M a k r) = r_s (h_r M) a k r := rfl
theorem r_s_ne {R : Nat → Nat → Nat} {a k v b j : Nat} (h : b ≠ a ∨ j ≠ k) : r_s R a k v b j = R b j := if_neg (by omega)
theorem r_s_eq {R : Nat → Nat → Nat} {a k v : Nat} : r_s R a k v a k = v := if_pos ⟨rfl, rfl⟩
/-- a granule becomes something else -/
def bcm (M : mM) (g : Nat) (s : Int32) (a : Nat) (m : Int32) : mM := (h_n M, h_v M, h_k M, h_l M, f_r (f_s (f_s (h_i M) (G_ g) 2 s) (G_ g) 4 m) (Wd g) 0 32 (fun _ => 0), r_s (r_s (r_s (h_r M) (G_ g) 3 a) (G_ g) 5 0) (G_ g) 6 0)
theorem C_become {M : mM} {g : Nat} (g2 : h_k M (G_ g) = 3) (g3 : h_r M (G_ g) 1 = Wd g) (g4 : h_k M (Wd g) = 9) (g5 : h_l M (Wd g) = 32) (s : Int32) (a : Nat) (m : Int32) : ev 17 0 [some (.inr (G_ g)), some (.inl s), some (.inr a), some (.inl m)] [] M = some (none, bcm M g s a m) := by
  have hf := C_fill (M := h_sr (h_sr (h_si (h_sr (h_si M (G_ g) 2 s) (G_ g) 3 a) (G_ g) 4 m) (G_ g) 5 0) (G_ g) 6 0) (a := Wd g) (N := 32) (x := 0) (by decide) (by simp only [k_si, k_sr, g4]) (by simp only [l_si, l_sr, g5])
  have er : h_r (h_sr (h_sr (h_si (h_sr (h_si M (G_ g) 2 s) (G_ g) 3 a) (G_ g) 4 m) (G_ g) 5 0) (G_ g) 6 0) (G_ g) 1 = Wd g := by
    simp only [Q_si, Q_sr]
    rw [r_s_ne (by omega), r_s_ne (by omega), r_s_ne (by omega)]; exact g3
  simp only [e_17_0, c_I, c_R, c_V, if_true, if_false, true_and, and_true, true_or, or_true, List.length_nil, List.length_cons, Nat.zero_le, k_si, l_si, r_si, k_sr, l_sr, i_sr, n_si, ar_si, ar_sr, ar_0, g2, er, hf]
  unfold mkU bcm
  simp only [K_si, L_si, I_si, Q_si, K_sr, L_sr, I_sr, Q_sr, n_si, n_sr, v_si, v_sr]
section B
variable {n : Nat} {M : mM} {f : Nat → Nat → Int32} {ρ τ κ : Nat → Nat}
theorem bI {g : Nat} {s m : Int32} {a : Nat} : h_i (bcm M g s a m) = f_r (f_s (f_s (h_i M) (G_ g) 2 s) (G_ g) 4 m) (Wd g) 0 32 (fun _ => 0) := rfl
theorem bR {g : Nat} {s m : Int32} {a : Nat} : h_r (bcm M g s a m) = r_s (r_s (r_s (h_r M) (G_ g) 3 a) (G_ g) 5 0) (G_ g) 6 0 := rfl
theorem b_i {g : Nat} {s m : Int32} {a x k : Nat} (h1 : ¬ (x = G_ g ∧ (k = 2 ∨ k = 4))) (h2 : ¬ (x = Wd g ∧ k < 32)) : h_i (bcm M g s a m) x k = h_i M x k := by
  rw [bI, f_r_ne (by omega), f_s_ne (by omega), f_s_ne (by omega)]
theorem b_i2 {g : Nat} {s m : Int32} {a : Nat} : h_i (bcm M g s a m) (G_ g) 2 = s := by
  rw [bI, f_r_ne (by unfold G_ Wd; omega), f_s_ne (by omega), f_s_eq]
theorem b_i4 {g : Nat} {s m : Int32} {a : Nat} : h_i (bcm M g s a m) (G_ g) 4 = m := by
  rw [bI, f_r_ne (by unfold G_ Wd; omega), f_s_eq]
theorem b_iw {g k : Nat} {s m : Int32} {a : Nat} (hk : k < 32) : h_i (bcm M g s a m) (Wd g) k = 0 := by
  rw [bI, f_r_in (Nat.zero_le _) hk]
theorem b_r {g : Nat} {s m : Int32} {a x k : Nat} (h1 : ¬ (x = G_ g ∧ (k = 3 ∨ k = 5 ∨ k = 6))) : h_r (bcm M g s a m) x k = h_r M x k := by
  rw [bR, r_s_ne (by omega), r_s_ne (by omega), r_s_ne (by omega)]
theorem b_r3 {g : Nat} {s m : Int32} {a : Nat} : h_r (bcm M g s a m) (G_ g) 3 = a := by
  rw [bR, r_s_ne (by omega), r_s_ne (by omega), r_s_eq]
theorem b_r5 {g : Nat} {s m : Int32} {a : Nat} : h_r (bcm M g s a m) (G_ g) 5 = 0 := by
  rw [bR, r_s_ne (by omega), r_s_eq]
theorem b_r6 {g : Nat} {s m : Int32} {a : Nat} : h_r (bcm M g s a m) (G_ g) 6 = 0 := r_s_eq
theorem fb5 {g : Nat} {x o : Int32} : f_b f g x o 5 g = x := by unfold f_b; rw [if_neg (by omega), f_s_row (by decide), f_s_eq]
theorem fb7 {g : Nat} {x o : Int32} : f_b f g x o 7 g = o := by unfold f_b; rw [if_neg (by omega), f_s_eq]
theorem fb6 {g k : Nat} {x o : Int32} (hk : k < 32) : f_b f g x o 6 (32 * g + k) = 0 := by unfold f_b; rw [if_pos (by omega)]
theorem fbn {g b j : Nat} {x o : Int32} (h5 : ¬ (b = 5 ∧ j = g)) (h7 : ¬ (b = 7 ∧ j = g)) (h6 : ¬ (b = 6 ∧ 32 * g ≤ j ∧ j < 32 * g + 32)) : f_b f g x o b j = f b j := by unfold f_b; rw [if_neg h6, f_s_ne (by omega), f_s_ne (by omega)]
theorem fbr {g b : Nat} {x o : Int32} (h5 : b ≠ 5) (h6 : b ≠ 6) (h7 : b ≠ 7) : f_b f g x o b = f b := funext fun j => fbn (by omega) (by omega) (by omega)
/-- a granule that is free -/
theorem z_free {M' : mM} {f' : Nat → Nat → Int32} {ρ' τ' κ' : Nat → Nat} {g : Nat} (h0 : h_i M' (G_ g) 0 = nI g) (h2 : h_i M' (G_ g) 2 = f' 5 g) (hx : f' 5 g = 0 ∨ f' 5 g = 1) (h4 : h_i M' (G_ g) 4 = -1) (hr3 : h_r M' (G_ g) 3 = 0) (hr5 : h_r M' (G_ g) 5 = 0) (hr6 : h_r M' (G_ g) 6 = 0) (hw : ∀ k, k < 32 → h_i M' (Wd g) k = f' 6 (32 * g + k)) : z_g M' f' ρ' τ' κ' g ∧ (f' 5 g = 2 → z_d n M' f' ρ' τ' g) ∧ (f' 5 g = 4 → z_t M' f' τ' g) ∧ (f' 5 g = 3 → z_c M' f' ρ' κ' g) := by
  refine ⟨⟨h0, h2, hw, Or.inl ⟨hx, hr3, h4, hr5, hr6⟩⟩, fun e => ?_, fun e => ?_, fun e => ?_⟩ <;> (rw [e] at hx; exact absurd hx (by decide))
/-- the reference's rows, when a granule that nothing hangs on changes -/
theorem q_one {f' : Nat → Nat → Int32} (hq : q_ref n f) {g : Nat} (hg : g < n) (hg0 : f 5 g = 0 ∨ f 5 g = 1 ∨ f 5 g = 3) (hg1 : f' 5 g = 0 ∨ f' 5 g = 1 ∨ f' 5 g = 3) (hown : f' 5 g = 3 → q_own n f' g) (k0 : f' 4 0 = f 4 0) (k31 : f' 4 31 = 0) (r3 : f' 3 = f 3) (hK : ∀ i, i < n → i ≠ g → f' 5 i = f 5 i ∧ f' 7 i = f 7 i ∧ f' 9 i = f 9 i ∧ f' 12 i = f 12 i ∧ f' 13 i = f 13 i ∧ f' 27 i = f 27 i) (hE : ∀ i e, i < n → e < 8 → f' 14 (8 * i + e) = f 14 (8 * i + e) ∧ f' 15 (8 * i + e) = f 15 (8 * i + e) ∧ f' 16 (8 * i + e) = f 16 (8 * i + e)) : q_ref n f' := by
  obtain ⟨q1, q2, q3, q4, q5, q6, q7, q8, q9⟩ := hq
  have sne : ∀ i w, f 5 i = w → (w = 2 ∨ w = 4 ∨ w = 5) → i ≠ g := fun i w e hw q => by
    subst q
    rw [e] at hg0
    rcases hw with rfl | rfl | rfl <;> exact absurd hg0 (by decide)
  have nst : ∀ i w, f' 5 i = w → (w = 2 ∨ w = 4 ∨ w = 5) → i ≠ g := fun i w e hw q => by
    subst q
    rw [e] at hg1
    rcases hw with rfl | rfl | rfl <;> exact absurd hg1 (by decide)
  have hE' : ∀ i e, i < n → i ≠ g → e < 8 → ¬ (i = n ∧ e = 0) → f' 14 (8 * i + e) = f 14 (8 * i + e) ∧ f' 15 (8 * i + e) = f 15 (8 * i + e) ∧ f' 16 (8 * i + e) = f 16 (8 * i + e) := fun i e hi _ he _ => hE i e hi he
  refine ⟨by rw [k0]; exact q1, q2, q3, k31, by rw [r3]; exact q5, ⟨q6.1, fun p hp p4 => ?_, fun o ho o2 => ?_⟩, fun i hi i5 => ?_, fun i hi i3 => ?_, fun i hi i2 => ?_⟩
  · have pg := nst p 4 p4 (by simp)
    have p4' : f 5 p = 4 := by rw [← (hK p hp pg).1]; exact p4
    have a := q_keep (fun i => i ≠ g) n 0 q6 hK hE' hp p4' pg (sne _ 2 (q6.2.1 p hp p4').1.2.2 (by simp)) (fun p' e h1 h2 h3 h4 h5 => ⟨sne p' 4 h3 (by simp), by omega⟩) (fun e he _ h1 h2 => by
      rcases ((q6.2.1 p hp p4').2.2 e he).1 with ⟨w, -⟩ | ⟨w, -, -, -, w5⟩ | ⟨w, -, -, -, w5, -⟩
      · exact absurd w h1
      · rcases h2 with h2 | h2
        · rw [w] at h2; exact absurd h2 (by decide)
        · exact sne _ 5 (w5 h2).1 (by simp)
      · exact sne _ 4 w5 (by simp))
    exact ⟨a.1, a.2.1, fun e he => a.2.2 e he (by omega)⟩
  · have og := nst o 2 o2 (by simp)
    exact q_rootk (fun i => i ≠ g) hK ho og (fun t _ _ t4 _ => sne t 4 t4 (by simp)) (q6.2.2 o ho (by rw [← (hK o ho og).1]; exact o2))
  · have ig := nst i 5 i5 (by simp)
    have i5' : f 5 i = 5 := by rw [← (hK i hi ig).1]; exact i5
    exact q_datak (fun i => i ≠ g) n 0 hK hE' hi ig (sne _ 2 (q7 i hi i5').1.2.2 (by simp)) (fun p e h1 h2 h3 _ _ _ => ⟨sne p 4 h3 (by simp), by omega⟩) (q7 i hi i5')
  · by_cases ig : i = g
    · subst ig; exact hown i3
    · have i3' : f 5 i = 3 := by rw [← (hK i hi ig).1]; exact i3
      exact q_ownk (fun i => i ≠ g) hK hi ig (sne _ 2 (q8 i hi i3').2.2 (by simp)) (q8 i hi i3')
  · have ig := nst i 2 i2 (by simp)
    rw [(hK i hi ig).2.1]
    exact q9 i hi (by rw [← (hK i hi ig).1]; exact i2)
theorem b_BX (h : Rel n M f ρ τ κ) {g : Nat} (hg : g < n) (s m : Int32) (a : Nat) : B_sh n (bcm M g s a m) ∧ X_sh n (bcm M g s a m) :=
  BX_r h.1 h.2.1 rfl rfl rfl (fun x k _ h2 _ => b_r (fun q => h2 ⟨by rw [q.1]; exact (h.1.2.2.2.2.1 g hg).2.1, by omega⟩))
theorem b_st (h : Rel n M f ρ τ κ) {g : Nat} (s m : Int32) (a : Nat) : q_st (bcm M g s a m) := ⟨fun i hi => (b_i (by unfold G_; omega) (by unfold Wd; omega)).trans (h.2.2.1.1 i hi), fun i hi => (b_i (by unfold G_; omega) (by unfold Wd; omega)).trans (h.2.2.1.2 i hi)⟩
/-- delegate, undelegate -/
theorem W_free (h : Rel n M f ρ τ κ) {g : Nat} (hg : g < n) (hg0 : f 5 g = 0 ∨ f 5 g = 1) {x : Int32} (hx : x = 0 ∨ x = 1) : Rel n (bcm M g x 0 (-1)) (f_b f g x (-1)) ρ τ κ := by
  have n5 : ∀ i, i ≠ g → ∀ b, b ≠ 6 → f_b f g x (-1) b i = f b i := fun i hi b hb => fbn (by omega) (by omega) (by omega)
  have hq : q_ref n (f_b f g x (-1)) := by
    refine q_one h.2.2.2.1 hg (by rcases hg0 with e | e <;> simp [e]) ?_ ?_ ?_ ?_ ?_ (fun i hi ig => ⟨n5 i ig 5 (by decide), n5 i ig 7 (by decide), n5 i ig 9 (by decide), n5 i ig 12 (by decide), n5 i ig 13 (by decide), n5 i ig 27 (by decide)⟩) (fun i e hi he => ⟨?_, ?_, ?_⟩)
    · rw [fb5]; rcases hx with e | e <;> simp [e]
    · intro e; rw [fb5] at e; rcases hx with q | q <;> (rw [q] at e; exact absurd e (by decide))
    · rw [fbr (by decide) (by decide) (by decide)]
    · rw [fbr (by decide) (by decide) (by decide)]; exact h.2.2.2.1.2.2.2.1
    · rw [fbr (by decide) (by decide) (by decide)]
    · rw [fbr (by decide) (by decide) (by decide)]
    · rw [fbr (by decide) (by decide) (by decide)]
    · rw [fbr (by decide) (by decide) (by decide)]
  have sg : ∀ i w, f 5 i = w → (w = 2 ∨ w = 3 ∨ w = 4 ∨ w = 5) → i ≠ g := fun i w e hw q => by
    subst q; rw [e] at hg0; rcases hw with rfl | rfl | rfl | rfl <;> exact absurd hg0 (by decide)
  refine Rel_tr h (fun i => i = g) (b_BX h hg _ _ _) (b_st h _ _ _) hq ?_ (fun _ _ => rfl) (fun y k hy => ?_) (fun _ _ _ _ => rfl) (fun _ _ _ _ => rfl) (fun _ _ _ _ => rfl) (fun b i hi hs h5 h27 h6 _ _ _ _ _ _ => n5 i hs b h6) (fun i k hi hs hk => fbn (by omega) (by omega) (by omega)) (fun i k hi hs hk => by rw [fbr (by decide) (by decide) (by decide)]) (fun b i e hi hs he h1 h2 => by rw [fbr (by omega) (by omega) (by omega)]) (fun i k hi hs hk => by rw [fbr (by decide) (by decide) (by decide)]) (fun i hi hs h2 => ?_) (fun i hi hs => ?_)
  · obtain ⟨a1, a2, a3, a4⟩ := h.2.2.2.2.1
    unfold z_h
    rw [b_i (by unfold G_; omega) (by unfold Wd; omega), b_i (by unfold G_; omega) (by unfold Wd; omega), b_i (by unfold G_; omega) (by unfold Wd; omega), b_r (by unfold G_; omega), fbr (show 4 ≠ 5 by decide) (by decide) (by decide), fbr (show 26 ≠ 5 by decide) (by decide) (by decide)]
    refine ⟨a1, a2, a3, ?_⟩
    rcases a4 with a4 | ⟨r, g', b1, b2, b3, b4, b5, b6, b7⟩
    · exact Or.inl a4
    · refine Or.inr ⟨r, g', b1, b2, b3, by rw [n5 r (sg r 3 b4 (by simp)) 5 (by decide)]; exact b4, b5, b6, ?_⟩
      have := (at_c h b1 b4).1
      rw [b_r (by unfold G_; omega)]; exact b7
  · have : ¬ (y = G_ g) ∧ ¬ (y = Wd g) := ⟨fun q => hy (Or.inl ⟨g, hg, rfl, Or.inl q⟩), fun q => hy (Or.inl ⟨g, hg, rfl, Or.inr (Or.inl q)⟩)⟩
    exact ⟨b_i (fun q => this.1 q.1) (fun q => this.2 q.1), b_r (fun q => this.1 q.1)⟩
  · have e : ∀ w : Int32, (w = 3 ∨ w = 4 ∨ w = 5) → cn n (f_b f g x (-1)) w i = cn n f w i := fun w hw => cn_same (fun j hj => by
      by_cases jg : j = g
      · subst jg
        rw [fb5]
        constructor
        · rintro ⟨e, -⟩; rw [e] at hg0; rcases hw with rfl | rfl | rfl <;> exact absurd hg0 (by decide)
        · rintro ⟨e, -⟩; rw [e] at hx; rcases hw with rfl | rfl | rfl <;> exact absurd hx (by decide)
      · rw [n5 j jg 5 (by decide), n5 j jg 7 (by decide)])
    exact ⟨e 3 (by simp), e 4 (by simp), e 5 (by simp)⟩
  · subst hs
    exact z_free ((b_i (by omega) (by unfold G_ Wd; omega)).trans (h.2.2.2.2.2.1 i hi).1) (by rw [b_i2, fb5]) (by rw [fb5]; exact hx) b_i4 b_r3 b_r5 b_r6 (fun k hk => by rw [b_iw hk, fb6 hk])
theorem op_hand (h : Rel n M f ρ τ κ) (x y z : Int32) (hy : (y = 0 ∧ z = 1) ∨ (y = 1 ∧ z = 0)) : OK2 n M (ev 90 0 [some (.inr 4), some (.inl x), some (.inl y), some (.inl z), none] [] M) (ev 129 0 [some (.inr 4), some (.inl x), some (.inl y), some (.inl z)] [] (mkR f)) := by
  have hB := h.1
  have s1 := h.1.2.1.1
  have hn := h.2.2.2.1.1
  have hN := h.2.2.2.1.2.2.1
  rcases ix2 x (show n < 2 ^ 31 by omega) with hx | ⟨g, hg, rfl⟩
  · exact OK2.of (v := 0) (by simp only [e_90_0, c_I, c_R, c_V, if_true, if_false, true_and, and_true, true_or, or_true, List.length_nil, List.length_cons, Nat.zero_le, k_si, l_si, r_si, k_sr, l_sr, i_sr, n_si, ar_si, ar_sr, ar_0, rc7 s1, s1, C_no, C_none, C_yes, C_done, C_bit0, C_bit1, C_fault, z10, z20, z30, z40, z50, z01, zm0, zm1, C_at0 hB hx, R_isG0 hn hx]; try rfl) (by simp only [e_129_0, kR1, kR2, kR3, kR4, kR5, kR6, kR7, kR8, kR9, kR10, kR11, kR12, kR13, kR14, kR15, kR16, kR17, kR18, kR19, kR20, kR21, kR22, kR23, kR24, kR25, kR26, kR27, kR28, kR29, kR30, lR1, lR2, lR3, lR4, lR5, lR6, lR7, lR8, lR9, lR10, lR11, lR12, lR13, lR14, lR15, lR16, lR17, lR18, lR19, lR20, lR21, lR22, lR23, lR24, lR25, lR26, lR27, lR28, lR29, lR30, rR5, rR6, rR7, rR8, rR9, rR10, rR11, rR12, rR13, rR14, rR15, rR16, rR17, rR18, rR19, rR20, rR21, rR22, rR23, rR24, rR25, rR26, rR27, rR28, rR29, rR30, R_i, R_si, R_rec, if_true, if_false, true_and, and_true, true_or, or_true, List.length_nil, List.length_cons, Nat.zero_le, c_I, c_R, c_V, R_no, R_refuse, R_fault, f_s_row, f4c, f4k, f4n, ne_eq, not_false_eq_true, not_true_eq_false, Nat.reduceEqDiff, reduceCtorEq, Nat.succ_ne_zero, Nat.reduceAdd, ar_0, z10, z20, z30, z40, z50, z01, zm0, zm1, C_at0 hB hx, R_isG0 hn hx]; try rfl) (U_status h 1) rfl rfl
  · obtain ⟨g1, g2, g3, g4, g5⟩ := hB.2.2.2.2.1 g hg
    have z2 := (h.2.2.2.2.2.1 g hg).2.1
    by_cases hs : f 5 g = y
    · have h1 := W_free h hg (by rw [hs]; rcases hy with ⟨e, -⟩ | ⟨e, -⟩ <;> simp [e]) (x := z) (by rcases hy with ⟨-, e⟩ | ⟨-, e⟩ <;> simp [e])
      have kb : h_k (bcm M g z 0 (-1)) 4 = 7 := s1
      exact OK2.of (v := 1) (by simp only [e_90_0, c_I, c_R, c_V, if_true, if_false, true_and, and_true, true_or, or_true, List.length_nil, List.length_cons, Nat.zero_le, k_si, l_si, r_si, k_sr, l_sr, i_sr, n_si, ar_si, ar_sr, ar_0, rc7 s1, s1, C_no, C_none, C_yes, C_done, C_bit0, C_bit1, C_fault, z10, z20, z30, z40, z50, z01, zm0, zm1, C_at1 hB hN hg, G_ne, g2, z2, hs, rc3 g2, C_become g2 g3 g4 g5, rc7 kb, C_yes kb]) (by simp only [e_129_0, kR1, kR2, kR3, kR4, kR5, kR6, kR7, kR8, kR9, kR10, kR11, kR12, kR13, kR14, kR15, kR16, kR17, kR18, kR19, kR20, kR21, kR22, kR23, kR24, kR25, kR26, kR27, kR28, kR29, kR30, lR1, lR2, lR3, lR4, lR5, lR6, lR7, lR8, lR9, lR10, lR11, lR12, lR13, lR14, lR15, lR16, lR17, lR18, lR19, lR20, lR21, lR22, lR23, lR24, lR25, lR26, lR27, lR28, lR29, lR30, rR5, rR6, rR7, rR8, rR9, rR10, rR11, rR12, rR13, rR14, rR15, rR16, rR17, rR18, rR19, rR20, rR21, rR22, rR23, rR24, rR25, rR26, rR27, rR28, rR29, rR30, R_i, R_si, R_rec, if_true, if_false, true_and, and_true, true_or, or_true, List.length_nil, List.length_cons, Nat.zero_le, c_I, c_R, c_V, R_no, R_refuse, R_fault, f_s_row, f4c, f4k, f4n, ne_eq, not_false_eq_true, not_true_eq_false, Nat.reduceEqDiff, reduceCtorEq, Nat.succ_ne_zero, Nat.reduceAdd, ar_0, z10, z20, z30, z40, z50, z01, zm0, zm1, R_isG1 hn hg (show n < 2 ^ 31 by omega), R_is (show g < 96 by omega), hs, R_become (show g < 96 by omega)]) (W_status h1 0) rfl rfl
    · exact OK2.of (v := 0) (by simp only [e_90_0, c_I, c_R, c_V, if_true, if_false, true_and, and_true, true_or, or_true, List.length_nil, List.length_cons, Nat.zero_le, k_si, l_si, r_si, k_sr, l_sr, i_sr, n_si, ar_si, ar_sr, ar_0, rc7 s1, s1, C_no, C_none, C_yes, C_done, C_bit0, C_bit1, C_fault, z10, z20, z30, z40, z50, z01, zm0, zm1, C_at1 hB hN hg, R_isG1 hn hg (by omega), G_ne, R_is (show g < 96 by omega), g2, z2, hs]; try rfl) (by simp only [e_129_0, kR1, kR2, kR3, kR4, kR5, kR6, kR7, kR8, kR9, kR10, kR11, kR12, kR13, kR14, kR15, kR16, kR17, kR18, kR19, kR20, kR21, kR22, kR23, kR24, kR25, kR26, kR27, kR28, kR29, kR30, lR1, lR2, lR3, lR4, lR5, lR6, lR7, lR8, lR9, lR10, lR11, lR12, lR13, lR14, lR15, lR16, lR17, lR18, lR19, lR20, lR21, lR22, lR23, lR24, lR25, lR26, lR27, lR28, lR29, lR30, rR5, rR6, rR7, rR8, rR9, rR10, rR11, rR12, rR13, rR14, rR15, rR16, rR17, rR18, rR19, rR20, rR21, rR22, rR23, rR24, rR25, rR26, rR27, rR28, rR29, rR30, R_i, R_si, R_rec, if_true, if_false, true_and, and_true, true_or, or_true, List.length_nil, List.length_cons, Nat.zero_le, c_I, c_R, c_V, R_no, R_refuse, R_fault, f_s_row, f4c, f4k, f4n, ne_eq, not_false_eq_true, not_true_eq_false, Nat.reduceEqDiff, reduceCtorEq, Nat.succ_ne_zero, Nat.reduceAdd, ar_0, z10, z20, z30, z40, z50, z01, zm0, zm1, C_at1 hB hN hg, R_isG1 hn hg (by omega), G_ne, R_is (show g < 96 by omega), g2, z2, hs]; try rfl) (U_status h 2) rfl rfl
theorem OK2.map {oc orf oc' orf' : Option mR} (h : OK2 n M oc orf) (h1 : ∀ v M', oc = some (some (.inl v), M') → oc' = some (some (.inl v), M')) (h2 : ∀ v M', orf = some (some (.inl v), M') → orf' = some (some (.inl v), M')) : OK2 n M oc' orf' := by
  obtain ⟨v, M', f', ρ', τ', κ', a, b, c⟩ := h
  exact ⟨v, M', f', ρ', τ', κ', h1 _ _ a, h2 _ _ b, c⟩
end B
