/-! the class's cells lie apart; single changes on both sides keep the relation -/
theorem f_s_ne {f : Nat → Nat → Int32} {a k b j : Nat} {x : Int32} (h : b ≠ a ∨ j ≠ k) : f_s f a k x b j = f b j := by unfold f_s; rw [if_neg (by omega)]
theorem f_s_eq {f : Nat → Nat → Int32} {a k : Nat} {x : Int32} : f_s f a k x a k = x := by unfold f_s; rw [if_pos ⟨rfl, rfl⟩]
theorem f_s_row {f : Nat → Nat → Int32} {a k b : Nat} {x : Int32} (h : b ≠ a) : f_s f a k x b = f b := by funext j; exact f_s_ne (Or.inl h)
section DJ
variable {n : Nat} {M : mM} {f : Nat → Nat → Int32} {ρ τ κ : Nat → Nat}
theorem k_d (hX : X_sh n M) {a x : Nat} (h : h_k M a = 4) (h1 : a < x) (h2 : x ≤ a + 6) : h_k M x = 13 ∨ h_k M x = 9 := by
  obtain ⟨-, -, -, x4, -, x6⟩ := (hX a).1 h
  rcases Nat.lt_or_ge x (a + 2) with h3 | h3
  · rw [show x = a + 1 by omega]; exact Or.inl x4
  · have := (x6 (x - (a + 2)) (by omega)).2.1
    rw [show a + 2 + (x - (a + 2)) = x by omega] at this
    exact Or.inr this
theorem k_t (hX : X_sh n M) {a x : Nat} (h : h_k M a = 6) (h1 : a < x) (h2 : x ≤ a + 9) : h_k M x = 12 ∨ h_k M x = 2 := by
  obtain ⟨-, -, -, x4, -, x6⟩ := (hX a).2.1 h
  rcases Nat.lt_or_ge x (a + 2) with h3 | h3
  · rw [show x = a + 1 by omega]; exact Or.inl x4
  · have := (x6 (x - (a + 2)) (by omega)).2
    rw [show a + 2 + (x - (a + 2)) = x by omega] at this
    exact Or.inr this
theorem k_c (hX : X_sh n M) {a x : Nat} (h : h_k M a = 5) (h1 : a < x) (h2 : x ≤ a + 1) : h_k M x = 9 := by
  obtain ⟨-, -, -, x4, -⟩ := (hX a).2.2 h
  rw [show x = a + 1 by omega]; exact x4
theorem ap_tt (hX : X_sh n M) {a b : Nat} (ha : h_k M a = 6) (hb : h_k M b = 6) (hne : a ≠ b) : a + 10 ≤ b ∨ b + 10 ≤ a := by
  rcases Nat.lt_or_ge a b with h | h
  · rcases Nat.lt_or_ge (a + 9) b with h2 | h2
    · omega
    · rcases k_t hX ha h h2 with q | q <;> omega
  · rcases Nat.lt_or_ge (b + 9) a with h2 | h2
    · omega
    · rcases k_t hX hb (by omega) h2 with q | q <;> omega
theorem ap_dd (hX : X_sh n M) {a b : Nat} (ha : h_k M a = 4) (hb : h_k M b = 4) (hne : a ≠ b) : a + 7 ≤ b ∨ b + 7 ≤ a := by
  rcases Nat.lt_or_ge a b with h | h
  · rcases Nat.lt_or_ge (a + 6) b with h2 | h2
    · omega
    · rcases k_d hX ha h h2 with q | q <;> omega
  · rcases Nat.lt_or_ge (b + 6) a with h2 | h2
    · omega
    · rcases k_d hX hb (by omega) h2 with q | q <;> omega
theorem ap_cc (hX : X_sh n M) {a b : Nat} (ha : h_k M a = 5) (hb : h_k M b = 5) (hne : a ≠ b) : a + 2 ≤ b ∨ b + 2 ≤ a := by
  rcases Nat.lt_or_ge a b with h | h
  · rcases Nat.lt_or_ge (a + 1) b with h2 | h2
    · omega
    · have q := k_c hX ha h h2; omega
  · rcases Nat.lt_or_ge (b + 1) a with h2 | h2
    · omega
    · have q := k_c hX hb (by omega) h2; omega
theorem ap_td (hX : X_sh n M) {a b : Nat} (ha : h_k M a = 6) (hb : h_k M b = 4) : a + 10 ≤ b ∨ b + 7 ≤ a := by
  have hne : a ≠ b := fun e => by rw [e] at ha; omega
  rcases Nat.lt_or_ge a b with h | h
  · rcases Nat.lt_or_ge (a + 9) b with h2 | h2
    · omega
    · rcases k_t hX ha h h2 with q | q <;> omega
  · rcases Nat.lt_or_ge (b + 6) a with h2 | h2
    · omega
    · rcases k_d hX hb (by omega) h2 with q | q <;> omega
theorem ap_tc (hX : X_sh n M) {a b : Nat} (ha : h_k M a = 6) (hb : h_k M b = 5) : a + 10 ≤ b ∨ b + 2 ≤ a := by
  have hne : a ≠ b := fun e => by rw [e] at ha; omega
  rcases Nat.lt_or_ge a b with h | h
  · rcases Nat.lt_or_ge (a + 9) b with h2 | h2
    · omega
    · rcases k_t hX ha h h2 with q | q <;> omega
  · rcases Nat.lt_or_ge (b + 1) a with h2 | h2
    · omega
    · have q := k_c hX hb (by omega) h2; omega
theorem ap_dc (hX : X_sh n M) {a b : Nat} (ha : h_k M a = 4) (hb : h_k M b = 5) : a + 7 ≤ b ∨ b + 2 ≤ a := by
  have hne : a ≠ b := fun e => by rw [e] at ha; omega
  rcases Nat.lt_or_ge a b with h | h
  · rcases Nat.lt_or_ge (a + 6) b with h2 | h2
    · omega
    · rcases k_d hX ha h h2 with q | q <;> omega
  · rcases Nat.lt_or_ge (b + 1) a with h2 | h2
    · omega
    · have q := k_c hX hb (by omega) h2; omega
/-- where the things of a relation lie -/
theorem at_d (h : Rel n M f ρ τ κ) {i : Nat} (hi : i < n) (h2 : f 5 i = 2) : 10 + 2 * n < ρ i ∧ h_k M (ρ i) = 4 := ⟨((h.2.1 _).1 (h.2.2.2.2.2.2.1 i hi h2).1).1, (h.2.2.2.2.2.2.1 i hi h2).1⟩
theorem at_t (h : Rel n M f ρ τ κ) {i : Nat} (hi : i < n) (h2 : f 5 i = 4) : 10 + 2 * n < τ i ∧ h_k M (τ i) = 6 := ⟨((h.2.1 _).2.1 (h.2.2.2.2.2.2.2.1 i hi h2).1).1, (h.2.2.2.2.2.2.2.1 i hi h2).1⟩
theorem at_c (h : Rel n M f ρ τ κ) {i : Nat} (hi : i < n) (h2 : f 5 i = 3) : 10 + 2 * n < κ i ∧ h_k M (κ i) = 5 := ⟨((h.2.1 _).2.2 (h.2.2.2.2.2.2.2.2 i hi h2).1).1, (h.2.2.2.2.2.2.2.2 i hi h2).1⟩
theorem G_inj {i j : Nat} (h : G_ i = G_ j) : i = j := by unfold G_ at h; omega
theorem dj_tt (h : Rel n M f ρ τ κ) {i p : Nat} (hi : i < n) (hp : p < n) (h2 : f 5 i = 4) (h3 : f 5 p = 4) (hne : i ≠ p) : τ i + 10 ≤ τ p ∨ τ p + 10 ≤ τ i := ap_tt h.2.1 (at_t h hi h2).2 (at_t h hp h3).2 (fun e => by
  have e1 := (h.2.2.2.2.2.2.2.1 i hi h2).2.1
  have e2 := (h.2.2.2.2.2.2.2.1 p hp h3).2.1
  rw [e, e2] at e1
  exact hne (G_inj e1).symm)
theorem dj_dd (h : Rel n M f ρ τ κ) {i p : Nat} (hi : i < n) (hp : p < n) (h2 : f 5 i = 2) (h3 : f 5 p = 2) (hne : i ≠ p) : ρ i + 7 ≤ ρ p ∨ ρ p + 7 ≤ ρ i := ap_dd h.2.1 (at_d h hi h2).2 (at_d h hp h3).2 (fun e => by
  have e1 := (h.2.2.2.2.2.2.1 i hi h2).2.1
  have e2 := (h.2.2.2.2.2.2.1 p hp h3).2.1
  rw [e, e2] at e1
  exact hne (G_inj e1).symm)
theorem dj_cc (h : Rel n M f ρ τ κ) {i p : Nat} (hi : i < n) (hp : p < n) (h2 : f 5 i = 3) (h3 : f 5 p = 3) (hne : i ≠ p) : κ i + 2 ≤ κ p ∨ κ p + 2 ≤ κ i := ap_cc h.2.1 (at_c h hi h2).2 (at_c h hp h3).2 (fun e => by
  have e1 := (h.2.2.2.2.2.2.2.2 i hi h2).2.1
  have e2 := (h.2.2.2.2.2.2.2.2 p hp h3).2.1
  rw [e, e2] at e1
  exact hne (G_inj e1).symm)
theorem dj_td (h : Rel n M f ρ τ κ) {i p : Nat} (hi : i < n) (hp : p < n) (h2 : f 5 i = 4) (h3 : f 5 p = 2) : τ i + 10 ≤ ρ p ∨ ρ p + 7 ≤ τ i := ap_td h.2.1 (at_t h hi h2).2 (at_d h hp h3).2
theorem dj_tc (h : Rel n M f ρ τ κ) {i p : Nat} (hi : i < n) (hp : p < n) (h2 : f 5 i = 4) (h3 : f 5 p = 3) : τ i + 10 ≤ κ p ∨ κ p + 2 ≤ τ i := ap_tc h.2.1 (at_t h hi h2).2 (at_c h hp h3).2
theorem dj_dc (h : Rel n M f ρ τ κ) {i p : Nat} (hi : i < n) (hp : p < n) (h2 : f 5 i = 2) (h3 : f 5 p = 3) : ρ i + 7 ≤ κ p ∨ κ p + 2 ≤ ρ i := ap_dc h.2.1 (at_d h hi h2).2 (at_c h hp h3).2
/-- ints of the class that the relation does not look at -/
def scr (n a k : Nat) : Prop := (5 ≤ a ∧ a ≤ 9) ∨ ∃ i, i < n ∧ a = G_ i ∧ (k = 7 ∨ k = 8)
theorem Rel_c {c : Nat → Nat → Int32} (h : Rel n M f ρ τ κ) (hc : ∀ a k, ¬ scr n a k → c a k = h_i M a k) : Rel n (mkU M c) f ρ τ κ := by
  obtain ⟨hB, hX, hst, hq, hh, hg, hd, ht, hcx⟩ := id h
  have n1 : ∀ a k, a ≤ 4 → ¬ scr n a k := fun a k ha hs => by
    rcases hs with hs | ⟨i, -, hs, -⟩
    · omega
    · unfold G_ at hs; omega
  have n2 : ∀ a k, 10 + 2 * n < a → ¬ scr n a k := fun a k ha hs => by
    rcases hs with hs | ⟨i, hi, hs, -⟩
    · omega
    · unfold G_ at hs; omega
  have n3 : ∀ i k, k < 7 → ¬ scr n (G_ i) k := fun i k hk hs => by
    rcases hs with hs | ⟨j, hj, hs, hs2⟩
    · unfold G_ at hs; omega
    · omega
  have n4 : ∀ i k, ¬ scr n (Wd i) k := fun i k hs => by
    rcases hs with hs | ⟨j, hj, hs, hs2⟩
    · unfold Wd at hs; omega
    · unfold Wd G_ at hs; omega
  refine ⟨hB, hX, ⟨fun i hi => ?_, fun i hi => ?_⟩, hq, ?_, fun i hi => ?_, fun i hi h2 => ?_, fun i hi h2 => ?_, fun i hi h2 => ?_⟩
  · rw [U_i, hc _ _ (n1 _ _ (by omega))]; exact hst.1 i hi
  · rw [U_i, hc _ _ (n1 _ _ (by omega))]; exact hst.2 i hi
  · unfold z_h at hh ⊢
    rw [U_i, U_i, U_i, hc _ _ (n1 4 4 (by omega)), hc _ _ (n1 4 5 (by omega)), hc _ _ (n1 4 6 (by omega))]
    exact hh
  · have z := hg i hi
    unfold z_g at z ⊢
    rw [U_i, U_i, U_i, hc _ _ (n3 i 0 (by omega)), hc _ _ (n3 i 2 (by omega)), hc _ _ (n3 i 4 (by omega))]
    exact ⟨z.1, z.2.1, fun k hk => by rw [U_i, hc _ _ (n4 i k)]; exact z.2.2.1 k hk, z.2.2.2⟩
  · obtain ⟨b1, b2⟩ := at_d h hi h2
    obtain ⟨a1, a2, a3, a4, a5, a6, a7, a8, a9, a10⟩ := hd i hi h2
    refine ⟨a1, a2, a3, ?_, a5, ?_, ?_, ?_, ?_, fun q k h3 h4 => ?_⟩
    · rw [U_i, hc _ _ (n2 _ _ b1)]; exact a4
    · rw [U_i, hc _ _ (n2 _ _ b1)]; exact a6
    · rw [U_i, hc _ _ (n2 _ _ b1)]; exact a7
    · rw [U_i, hc _ _ (n2 _ _ b1)]; exact a8
    · rw [U_i, hc _ _ (n2 _ _ b1)]; exact a9
    · rw [U_i, hc _ _ (n2 _ _ (by omega))]; exact a10 q k h3 h4
  · obtain ⟨b1, b2⟩ := at_t h hi h2
    obtain ⟨a1, a2, a3, a4⟩ := ht i hi h2
    refine ⟨a1, a2, ?_, fun e he => ?_⟩
    · rw [U_i, hc _ _ (n2 _ _ b1)]; exact a3
    · obtain ⟨c1, c2, c3, c4, c5⟩ := a4 e he
      refine ⟨?_, ?_, ?_, c4, c5⟩
      · rw [U_i, hc _ _ (n2 _ _ (by omega))]; exact c1
      · rw [U_i, hc _ _ (n2 _ _ (by omega))]; exact c2
      · rw [U_i, hc _ _ (n2 _ _ (by omega))]; exact c3
  · obtain ⟨b1, b2⟩ := at_c h hi h2
    obtain ⟨a1, a2, a3, a4, a5, a6, a7, a8, a9, a10, a11⟩ := hcx i hi h2
    have e0 : ∀ k, c (κ i) k = h_i M (κ i) k := fun k => hc _ _ (n2 _ _ b1)
    refine ⟨a1, a2, a3, ?_, a5, fun k hk => ?_, ?_, a8, fun h3 => ?_, fun h3 => ?_, ?_⟩
    · rw [U_i, e0]; exact a4
    · rw [U_i, hc _ _ (n2 _ _ (by omega))]; exact a6 k hk
    · rw [U_i, e0]; exact a7
    · rw [U_i, e0]; exact a9 h3
    · rw [U_i, U_i, U_i, e0, e0, e0]; exact a10 h3
    · rw [U_i, e0]; exact a11
/-- ints of the reference that the relation does not look at -/
theorem Rel_f {f' : Nat → Nat → Int32} (h : Rel n M f ρ τ κ) (h31 : f' 4 31 = 0) (hf : ∀ b j, b ≠ 28 → b ≠ 29 → b ≠ 30 → ¬ (b = 4 ∧ j = 31) → f' b j = f b j) : Rel n M f' ρ τ κ := by
  have r : ∀ b, b ≠ 28 → b ≠ 29 → b ≠ 30 → b ≠ 4 → f' b = f b := fun b h1 h2 h3 h4 => funext fun j => hf b j h1 h2 h3 (by omega)
  have r3 := r 3 (by omega) (by omega) (by omega) (by omega)
  have r5 := r 5 (by omega) (by omega) (by omega) (by omega)
  have r6 := r 6 (by omega) (by omega) (by omega) (by omega)
  have r7 := r 7 (by omega) (by omega) (by omega) (by omega)
  have r8 := r 8 (by omega) (by omega) (by omega) (by omega)
  have r9 := r 9 (by omega) (by omega) (by omega) (by omega)
  have r10 := r 10 (by omega) (by omega) (by omega) (by omega)
  have r11 := r 11 (by omega) (by omega) (by omega) (by omega)
  have r12 := r 12 (by omega) (by omega) (by omega) (by omega)
  have r13 := r 13 (by omega) (by omega) (by omega) (by omega)
  have r14 := r 14 (by omega) (by omega) (by omega) (by omega)
  have r15 := r 15 (by omega) (by omega) (by omega) (by omega)
  have r16 := r 16 (by omega) (by omega) (by omega) (by omega)
  have r17 := r 17 (by omega) (by omega) (by omega) (by omega)
  have r18 := r 18 (by omega) (by omega) (by omega) (by omega)
  have r19 := r 19 (by omega) (by omega) (by omega) (by omega)
  have r20 := r 20 (by omega) (by omega) (by omega) (by omega)
  have r21 := r 21 (by omega) (by omega) (by omega) (by omega)
  have r22 := r 22 (by omega) (by omega) (by omega) (by omega)
  have r23 := r 23 (by omega) (by omega) (by omega) (by omega)
  have r24 := r 24 (by omega) (by omega) (by omega) (by omega)
  have r25 := r 25 (by omega) (by omega) (by omega) (by omega)
  have r26 := r 26 (by omega) (by omega) (by omega) (by omega)
  have r27 := r 27 (by omega) (by omega) (by omega) (by omega)
  have k0 := hf 4 0 (by omega) (by omega) (by omega) (by omega)
  have k1 := hf 4 1 (by omega) (by omega) (by omega) (by omega)
  have k2 := hf 4 2 (by omega) (by omega) (by omega) (by omega)
  have k3 := hf 4 3 (by omega) (by omega) (by omega) (by omega)
  have k4 := hf 4 4 (by omega) (by omega) (by omega) (by omega)
  obtain ⟨hB, hX, hst, hq, hh, hg, hd, ht, hcx⟩ := h
  refine ⟨hB, hX, hst, ?_, ?_, ?_, ?_, ?_, ?_⟩
  · obtain ⟨q1, q2, q3, q4, q5, q6, q7, q8, q9⟩ := hq
    refine ⟨by rw [k0]; exact q1, q2, q3, h31, by rw [r3]; exact q5, ?_, ?_, ?_, ?_⟩
    · simp only [q_tree, q_tab, q_own, q_T1, q_T2, q_rip, q_root, lv, bs, ow, tg, r5, r7, r9, r12, r13, r14, r15, r16, r27]; exact q6
    · simp only [q_own, q_T3, lv, bs, ow, r5, r7, r12, r13, r14, r15]; exact q7
    · simp only [q_own, ow, r5, r7]; exact q8
    · rw [r5, r7]; exact q9
  · simp only [z_h, k1, k2, k3, k4, r5, r26]; exact hh
  · simp only [z_g, ow, r5, r6, r7, r12, r17, r27]; exact hg
  · simp only [z_d, rt, cn, r5, r7, r8, r9, r10, r11]; exact hd
  · simp only [z_t, z_e, lv, bs, tg, r5, r12, r13, r14, r15, r16]; exact ht
  · simp only [z_c, ow, r5, r7, r18, r19, r20, r21, r22, r23, r24, r25]; exact hcx
end DJ
