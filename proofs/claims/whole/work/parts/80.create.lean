section E
variable {n : Nat} {M N : mM} {f : Nat → Nat → Int32} {ρ τ κ : Nat → Nat}
/-- a new realm -/
def nD (N : mM) (g A : Nat) : mM := h_sr (h_sr (h_si (h_si (h_sr (h_mn (h_al N 4 8) 5 8) (h_n N + 1) 2 (h_n N + 2)) (h_n N + 1) 3 0) (h_n N + 1) 6 1) (h_n N + 1) 0 g) (h_n N + 1) 1 A
theorem nD_n {g A : Nat} : h_n (nD N g A) = h_n N + 1 + 1 + 5 := rfl
theorem nD_v {g A : Nat} : h_v (nD N g A) = h_v N + 8 + 5 + 5 * 8 := rfl
theorem nD_k {g A x : Nat} : h_k (nD N g A) x = if x = h_n N + 2 then 13 else if h_n N + 2 < x ∧ x ≤ h_n N + 2 + 5 then 9 else if x = h_n N + 1 then 4 else h_k N x := rfl
theorem nD_l {g A x : Nat} : h_l (nD N g A) x = if x = h_n N + 2 then 5 else if h_n N + 2 < x ∧ x ≤ h_n N + 2 + 5 then 8 else if x = h_n N + 1 then 8 else h_l N x := rfl
theorem nD_i {g A x j : Nat} : h_i (nD N g A) x j = if x = h_n N + 1 ∧ j = 6 then 1 else if x = h_n N + 1 ∧ j = 3 then 0 else if h_n N + 1 < x ∧ x ≤ h_n N + 2 + 5 then 0 else if x = h_n N + 1 then 0 else h_i N x j := rfl
theorem nD_r {g A x j : Nat} : h_r (nD N g A) x j = if x = h_n N + 1 ∧ j = 1 then A else if x = h_n N + 1 ∧ j = 0 then g else if x = h_n N + 1 ∧ j = 2 then h_n N + 2 else if x = h_n N + 2 then (if j < 5 then h_n N + 1 + 2 + j else 0) else if h_n N + 2 < x ∧ x ≤ h_n N + 2 + 5 then 0 else if x = h_n N + 1 then 0 else h_r N x j := rfl
theorem C_Realm {g A : Nat} : ev 21 0 [some (.inr (h_n N + 1)), some (.inr g), some (.inr A)] [] (h_al N 4 8) = some (none, nD N g A) := by
  have k0 : h_k (h_mn (h_al N 4 8) 5 8) (h_n N + 1) = 4 := by
    show (if h_n N + 1 = h_n N + 1 + 1 then 13 else if h_n N + 1 + 1 < h_n N + 1 ∧ h_n N + 1 ≤ h_n N + 1 + 1 + 5 then 9 else if h_n N + 1 = h_n N + 1 then 4 else h_k N (h_n N + 1)) = 4
    rw [if_neg (by omega), if_neg (by omega), if_pos rfl]
  rw [e_21_0]
  simp only [c_I, c_R, c_V, if_true, if_false, true_and, and_true, true_or, or_true, List.length_nil, List.length_cons, Nat.zero_le, k_si, l_si, r_si, k_sr, l_sr, i_sr, n_si, ar_si, ar_sr, ar_0, k0, Nat.succ_ne_zero, not_false_eq_true]
  rfl
def dI (N : mM) (g A : Nat) (Q : mM) : Prop := h_n Q = h_n N + 7 ∧ h_v Q = h_v N + 53 ∧ (∀ x, x ≤ h_n N → h_k Q x = h_k N x ∧ h_l Q x = h_l N x ∧ ∀ j, h_i Q x j = h_i N x j ∧ h_r Q x j = h_r N x j) ∧ (∀ x, h_n N + 7 < x → h_k Q x = 0) ∧ h_k Q (h_n N + 1) = 4 ∧ h_r Q (h_n N + 1) 0 = g ∧ h_r Q (h_n N + 1) 1 = A ∧ h_r Q (h_n N + 1) 2 = h_n N + 2 ∧ (h_i Q (h_n N + 1) 3 = 0 ∧ h_i Q (h_n N + 1) 4 = 0 ∧ h_i Q (h_n N + 1) 5 = 0 ∧ h_i Q (h_n N + 1) 6 = 1 ∧ h_i Q (h_n N + 1) 7 = 0) ∧ h_k Q (h_n N + 2) = 13 ∧ h_l Q (h_n N + 2) = 5 ∧ ∀ q, q < 5 → h_r Q (h_n N + 2) q = h_n N + 3 + q ∧ h_k Q (h_n N + 3 + q) = 9 ∧ h_l Q (h_n N + 3 + q) = 8 ∧ ∀ k, h_i Q (h_n N + 3 + q) k = 0
theorem dI_of (hz : ∀ x, h_n N < x → h_k N x = 0) {g A : Nat} : dI N g A (nD N g A) := by
  refine ⟨by rw [nD_n], by rw [nD_v], fun x hx => ⟨?_, ?_, fun j => ⟨?_, ?_⟩⟩, fun x hx => ?_, ?_, ?_, ?_, ?_, ⟨?_, ?_, ?_, ?_, ?_⟩, ?_, ?_, fun q hq => ⟨?_, ?_, ?_, fun k => ?_⟩⟩
  · rw [nD_k, if_neg (by omega), if_neg (by omega), if_neg (by omega)]
  · rw [nD_l, if_neg (by omega), if_neg (by omega), if_neg (by omega)]
  · rw [nD_i, if_neg (by omega), if_neg (by omega), if_neg (by omega), if_neg (by omega)]
  · rw [nD_r, if_neg (by omega), if_neg (by omega), if_neg (by omega), if_neg (by omega), if_neg (by omega), if_neg (by omega)]
  · rw [nD_k, if_neg (by omega), if_neg (by omega), if_neg (by omega)]; exact hz x (by omega)
  · rw [nD_k, if_neg (by omega), if_neg (by omega), if_pos rfl]
  · rw [nD_r, if_neg (by omega), if_pos ⟨rfl, rfl⟩]
  · rw [nD_r, if_pos ⟨rfl, rfl⟩]
  · rw [nD_r, if_neg (by omega), if_neg (by omega), if_pos ⟨rfl, rfl⟩]
  · rw [nD_i, if_neg (by omega), if_pos ⟨rfl, rfl⟩]
  · rw [nD_i, if_neg (by omega), if_neg (by omega), if_neg (by omega), if_pos rfl]
  · rw [nD_i, if_neg (by omega), if_neg (by omega), if_neg (by omega), if_pos rfl]
  · rw [nD_i, if_pos ⟨rfl, rfl⟩]
  · rw [nD_i, if_neg (by omega), if_neg (by omega), if_neg (by omega), if_pos rfl]
  · rw [nD_k, if_pos rfl]
  · rw [nD_l, if_pos rfl]
  · rw [nD_r, if_neg (by omega), if_neg (by omega), if_neg (by omega), if_pos rfl, if_pos hq]
  · rw [nD_k, if_neg (by omega), if_pos (by omega)]
  · rw [nD_l, if_neg (by omega), if_pos (by omega)]
  · rw [nD_i, if_neg (by omega), if_neg (by omega), if_pos (by omega)]
def crt (Q : mM) (o t B A : Nat) : mM := h_sr (bcm (bcm Q o 2 B (-1)) t 4 B 0) (G_ t) 6 A
theorem crK (Q : mM) (o t B A : Nat) : h_k (crt Q o t B A) = h_k Q := rfl
theorem crL (Q : mM) (o t B A : Nat) : h_l (crt Q o t B A) = h_l Q := rfl
theorem crN (Q : mM) (o t B A : Nat) : h_n (crt Q o t B A) = h_n Q := rfl
theorem crV (Q : mM) (o t B A : Nat) : h_v (crt Q o t B A) = h_v Q := rfl
/-- the reference's rows of a new realm -/
def f_rd (f : Nat → Nat → Int32) (o t : Nat) : Nat → Nat → Int32 := f_r (f_s (f_s (f_s (f_b f o 2 (nI o)) 8 o 0) 9 o (nI t)) 10 o 0) 11 (40 * o) (40 * o + 40) (fun _ => 0)
theorem W_create (h : Rel n M f ρ τ κ) {o t : Nat} {N Q : mM} (ho : o < n) (o5 : f 5 o = 1) (ht : t < n) (t5 : f 5 t = 1) (ot : o ≠ t) (hT : tI M (G_ t) 0 (fun e => nI (0 + e * spn 0)) 0 8 N) (hQ : dI N (G_ o) (h_n M + 1) Q) : Rel n (crt Q o t (h_n M + 11) (h_n M + 1)) (f_la (f_rd f o t) t (nI o) 0 0 0) (fun j => if j = o then h_n M + 11 else ρ j) (fun j => if j = t then h_n M + 1 else τ j) κ := by
  have hN := h.2.2.2.1.2.2.1
  have hTr := h.2.2.2.1.2.2.2.2.2.1
  have hq0 := h.2.2.2.1
  have hnn := h.1.2.2.2.2.2.1
  unfold f_la f_rd
  have F5o : f_3 (f_s (f_s (f_b (f_r (f_s (f_s (f_s (f_b f o 2 (nI o)) 8 o 0) 9 o (nI t)) 10 o 0) 11 (40 * o) (40 * o + 40) (fun _ => 0)) t 4 (nI o)) 12 t 0) 13 t 0) (8 * t) (8 * t + 8) 0 (-1) 0 5 o = 2 := by rw [f3n (by omega), f_s_ne (by omega), f_s_ne (by omega), fbn (by omega) (by omega) (by omega), f_r_ne (by omega), f_s_ne (by omega), f_s_ne (by omega), f_s_ne (by omega), fb5]
  have F7o : f_3 (f_s (f_s (f_b (f_r (f_s (f_s (f_s (f_b f o 2 (nI o)) 8 o 0) 9 o (nI t)) 10 o 0) 11 (40 * o) (40 * o + 40) (fun _ => 0)) t 4 (nI o)) 12 t 0) 13 t 0) (8 * t) (8 * t + 8) 0 (-1) 0 7 o = nI o := by rw [f3n (by omega), f_s_ne (by omega), f_s_ne (by omega), fbn (by omega) (by omega) (by omega), f_r_ne (by omega), f_s_ne (by omega), f_s_ne (by omega), f_s_ne (by omega), fb7]
  have F8 : f_3 (f_s (f_s (f_b (f_r (f_s (f_s (f_s (f_b f o 2 (nI o)) 8 o 0) 9 o (nI t)) 10 o 0) 11 (40 * o) (40 * o + 40) (fun _ => 0)) t 4 (nI o)) 12 t 0) 13 t 0) (8 * t) (8 * t + 8) 0 (-1) 0 8 o = 0 := by rw [f3n (by omega), f_s_ne (by omega), f_s_ne (by omega), fbn (by omega) (by omega) (by omega), f_r_ne (by omega), f_s_ne (by omega), f_s_ne (by omega), f_s_eq]
  have F9 : f_3 (f_s (f_s (f_b (f_r (f_s (f_s (f_s (f_b f o 2 (nI o)) 8 o 0) 9 o (nI t)) 10 o 0) 11 (40 * o) (40 * o + 40) (fun _ => 0)) t 4 (nI o)) 12 t 0) 13 t 0) (8 * t) (8 * t + 8) 0 (-1) 0 9 o = nI t := by rw [f3n (by omega), f_s_ne (by omega), f_s_ne (by omega), fbn (by omega) (by omega) (by omega), f_r_ne (by omega), f_s_ne (by omega), f_s_eq]
  have F10 : f_3 (f_s (f_s (f_b (f_r (f_s (f_s (f_s (f_b f o 2 (nI o)) 8 o 0) 9 o (nI t)) 10 o 0) 11 (40 * o) (40 * o + 40) (fun _ => 0)) t 4 (nI o)) 12 t 0) 13 t 0) (8 * t) (8 * t + 8) 0 (-1) 0 10 o = 0 := by rw [f3n (by omega), f_s_ne (by omega), f_s_ne (by omega), fbn (by omega) (by omega) (by omega), f_r_ne (by omega), f_s_eq]
  have F11 : ∀ k, k < 40 → f_3 (f_s (f_s (f_b (f_r (f_s (f_s (f_s (f_b f o 2 (nI o)) 8 o 0) 9 o (nI t)) 10 o 0) 11 (40 * o) (40 * o + 40) (fun _ => 0)) t 4 (nI o)) 12 t 0) 13 t 0) (8 * t) (8 * t + 8) 0 (-1) 0 11 (40 * o + k) = 0 := fun k hk => by rw [f3n (by omega), f_s_ne (by omega), f_s_ne (by omega), fbn (by omega) (by omega) (by omega), f_r_in (by omega) (by omega)]
  have F6 : ∀ i k, i = o ∨ i = t → k < 32 → f_3 (f_s (f_s (f_b (f_r (f_s (f_s (f_s (f_b f o 2 (nI o)) 8 o 0) 9 o (nI t)) 10 o 0) 11 (40 * o) (40 * o + 40) (fun _ => 0)) t 4 (nI o)) 12 t 0) 13 t 0) (8 * t) (8 * t + 8) 0 (-1) 0 6 (32 * i + k) = 0 := fun i k hi hk => by
    rcases hi with rfl | rfl
    · rw [f3n (by omega), f_s_ne (by omega), f_s_ne (by omega), fbn (by omega) (by omega) (by omega), f_r_ne (by omega), f_s_ne (by omega), f_s_ne (by omega), f_s_ne (by omega), fb6 hk]
    · rw [f3n (by omega), f_s_ne (by omega), f_s_ne (by omega), fb6 hk]
  have F5t : f_3 (f_s (f_s (f_b (f_r (f_s (f_s (f_s (f_b f o 2 (nI o)) 8 o 0) 9 o (nI t)) 10 o 0) 11 (40 * o) (40 * o + 40) (fun _ => 0)) t 4 (nI o)) 12 t 0) 13 t 0) (8 * t) (8 * t + 8) 0 (-1) 0 5 t = 4 := by rw [f3n (by omega), f_s_ne (by omega), f_s_ne (by omega), fb5]
  have F7t : f_3 (f_s (f_s (f_b (f_r (f_s (f_s (f_s (f_b f o 2 (nI o)) 8 o 0) 9 o (nI t)) 10 o 0) 11 (40 * o) (40 * o + 40) (fun _ => 0)) t 4 (nI o)) 12 t 0) 13 t 0) (8 * t) (8 * t + 8) 0 (-1) 0 7 t = nI o := by rw [f3n (by omega), f_s_ne (by omega), f_s_ne (by omega), fb7]
  have F12 : f_3 (f_s (f_s (f_b (f_r (f_s (f_s (f_s (f_b f o 2 (nI o)) 8 o 0) 9 o (nI t)) 10 o 0) 11 (40 * o) (40 * o + 40) (fun _ => 0)) t 4 (nI o)) 12 t 0) 13 t 0) (8 * t) (8 * t + 8) 0 (-1) 0 12 t = 0 := by rw [f3n (by omega), f_s_ne (by omega), f_s_eq]
  have F13 : f_3 (f_s (f_s (f_b (f_r (f_s (f_s (f_s (f_b f o 2 (nI o)) 8 o 0) 9 o (nI t)) 10 o 0) 11 (40 * o) (40 * o + 40) (fun _ => 0)) t 4 (nI o)) 12 t 0) 13 t 0) (8 * t) (8 * t + 8) 0 (-1) 0 13 t = 0 := by rw [f3n (by omega), f_s_eq]
  have FG : ∀ k, k < 8 → _ := fun k hk => f3a (f := f_s (f_s (f_b (f_r (f_s (f_s (f_s (f_b f o 2 (nI o)) 8 o 0) 9 o (nI t)) 10 o 0) 11 (40 * o) (40 * o + 40) (fun _ => 0)) t 4 (nI o)) 12 t 0) 13 t 0) (lo := 8 * t) (hi := 8 * t + 8) (j := 8 * t + k) (x := 0) (y := -1) (z := 0) (by omega)
  have Fn : ∀ b i, i ≠ o → i ≠ t → b ≠ 6 → b ≠ 11 → b ≠ 14 → b ≠ 15 → b ≠ 16 → f_3 (f_s (f_s (f_b (f_r (f_s (f_s (f_s (f_b f o 2 (nI o)) 8 o 0) 9 o (nI t)) 10 o 0) 11 (40 * o) (40 * o + 40) (fun _ => 0)) t 4 (nI o)) 12 t 0) 13 t 0) (8 * t) (8 * t + 8) 0 (-1) 0 b i = f b i := fun b i h1 h2 h3 h4 h5 h6 h7 => by rw [f3n (by omega), f_s_ne (by omega), f_s_ne (by omega), fbn (by omega) (by omega) (by omega), f_r_ne (by omega), f_s_ne (by omega), f_s_ne (by omega), f_s_ne (by omega), fbn (by omega) (by omega) (by omega)]
  have Fr : ∀ b, b ≠ 5 → b ≠ 6 → b ≠ 7 → b ≠ 8 → b ≠ 9 → b ≠ 10 → b ≠ 11 → b ≠ 12 → b ≠ 13 → b ≠ 14 → b ≠ 15 → b ≠ 16 → f_3 (f_s (f_s (f_b (f_r (f_s (f_s (f_s (f_b f o 2 (nI o)) 8 o 0) 9 o (nI t)) 10 o 0) 11 (40 * o) (40 * o + 40) (fun _ => 0)) t 4 (nI o)) 12 t 0) 13 t 0) (8 * t) (8 * t + 8) 0 (-1) 0 b = f b := fun b h1 h2 h3 h4 h5 h6 h7 h8 h9 h10 h11 h12 => funext fun i => by rw [f3n (by omega), f_s_ne (by omega), f_s_ne (by omega), fbn (by omega) (by omega) (by omega), f_r_ne (by omega), f_s_ne (by omega), f_s_ne (by omega), f_s_ne (by omega), fbn (by omega) (by omega) (by omega)]
  have F6n : ∀ i k, i ≠ o → i ≠ t → k < 32 → f_3 (f_s (f_s (f_b (f_r (f_s (f_s (f_s (f_b f o 2 (nI o)) 8 o 0) 9 o (nI t)) 10 o 0) 11 (40 * o) (40 * o + 40) (fun _ => 0)) t 4 (nI o)) 12 t 0) 13 t 0) (8 * t) (8 * t + 8) 0 (-1) 0 6 (32 * i + k) = f 6 (32 * i + k) := fun i k h1 h2 h3 => by rw [f3n (by omega), f_s_ne (by omega), f_s_ne (by omega), fbn (by omega) (by omega) (by omega), f_r_ne (by omega), f_s_ne (by omega), f_s_ne (by omega), f_s_ne (by omega), fbn (by omega) (by omega) (by omega)]
  have F11n : ∀ i k, i ≠ o → k < 40 → f_3 (f_s (f_s (f_b (f_r (f_s (f_s (f_s (f_b f o 2 (nI o)) 8 o 0) 9 o (nI t)) 10 o 0) 11 (40 * o) (40 * o + 40) (fun _ => 0)) t 4 (nI o)) 12 t 0) 13 t 0) (8 * t) (8 * t + 8) 0 (-1) 0 11 (40 * i + k) = f 11 (40 * i + k) := fun i k h1 h3 => by rw [f3n (by omega), f_s_ne (by omega), f_s_ne (by omega), fbn (by omega) (by omega) (by omega), f_r_ne (by omega), f_s_ne (by omega), f_s_ne (by omega), f_s_ne (by omega), fbn (by omega) (by omega) (by omega)]
  have FE : ∀ b i e', 14 ≤ b → b ≤ 16 → i ≠ t → e' < 8 → f_3 (f_s (f_s (f_b (f_r (f_s (f_s (f_s (f_b f o 2 (nI o)) 8 o 0) 9 o (nI t)) 10 o 0) 11 (40 * o) (40 * o + 40) (fun _ => 0)) t 4 (nI o)) 12 t 0) 13 t 0) (8 * t) (8 * t + 8) 0 (-1) 0 b (8 * i + e') = f b (8 * i + e') := fun b i e' h0 h0' h1 h2 => by rw [f3n (by omega), f_s_ne (by omega), f_s_ne (by omega), fbn (by omega) (by omega) (by omega), f_r_ne (by omega), f_s_ne (by omega), f_s_ne (by omega), f_s_ne (by omega), fbn (by omega) (by omega) (by omega)]
  generalize f_3 (f_s (f_s (f_b (f_r (f_s (f_s (f_s (f_b f o 2 (nI o)) 8 o 0) 9 o (nI t)) 10 o 0) 11 (40 * o) (40 * o + 40) (fun _ => 0)) t 4 (nI o)) 12 t 0) 13 t 0) (8 * t) (8 * t + 8) 0 (-1) 0 = F at F5o F7o F8 F9 F10 F11 F6 F5t F7t F12 F13 FG Fn Fr F6n F11n FE ⊢
  have F4 : F 4 = f 4 := Fr 4 (by decide) (by decide) (by decide) (by decide) (by decide) (by decide) (by decide) (by decide) (by decide) (by decide) (by decide) (by decide)
  have F3 : F 3 = f 3 := Fr 3 (by decide) (by decide) (by decide) (by decide) (by decide) (by decide) (by decide) (by decide) (by decide) (by decide) (by decide) (by decide)
  have F19 : F 19 = f 19 := Fr 19 (by decide) (by decide) (by decide) (by decide) (by decide) (by decide) (by decide) (by decide) (by decide) (by decide) (by decide) (by decide)
  have F26 : F 26 = f 26 := Fr 26 (by decide) (by decide) (by decide) (by decide) (by decide) (by decide) (by decide) (by decide) (by decide) (by decide) (by decide) (by decide)
  have hlt : lv F t = 0 := by unfold lv; rw [F12]; rfl
  have hbt : bs F t = 0 := by unfold bs; rw [F13]; rfl
  have how : ow F t = o := by unfold ow; rw [F7t]; exact i_c (by omega)
  have hrt : rt F o = t := by unfold rt; rw [F9]; exact i_c (by omega)
  have hj : ∀ j, j ≠ o → j ≠ t → F 5 j = f 5 j ∧ F 7 j = f 7 j := fun j h1 h2 => ⟨Fn 5 j h1 h2 (by decide) (by decide) (by decide) (by decide) (by decide), Fn 7 j h1 h2 (by decide) (by decide) (by decide) (by decide) (by decide)⟩
  have sne : ∀ i w, f 5 i = w → (w = 2 ∨ w = 3 ∨ w = 4 ∨ w = 5) → i ≠ o ∧ i ≠ t := fun i w e hw => by
    constructor
    · intro q; rw [q, o5] at e; rcases hw with rfl | rfl | rfl | rfl <;> exact absurd e (by decide)
    · intro q; rw [q, t5] at e; rcases hw with rfl | rfl | rfl | rfl <;> exact absurd e (by decide)
  have ownn : ∀ i, i < n → (f 5 i = 3 ∨ f 5 i = 4 ∨ f 5 i = 5) → q_own n f i := fun i hi a => by
    rcases a with a | a | a
    · exact hq0.2.2.2.2.2.2.2.1 i hi a
    · exact (hTr.2.1 i hi a).1
    · exact (hq0.2.2.2.2.2.2.1 i hi a).1
  have hq : q_ref n F := by
    refine q_two hq0 (a := o) (b := t) (by rw [F4]) (by rw [F4]; exact hq0.2.2.2.1) F3 (fun i _ hk => ⟨(hj i hk.1 hk.2).1, (hj i hk.1 hk.2).2, Fn 9 i hk.1 hk.2 (by decide) (by decide) (by decide) (by decide) (by decide), Fn 12 i hk.1 hk.2 (by decide) (by decide) (by decide) (by decide) (by decide), Fn 13 i hk.1 hk.2 (by decide) (by decide) (by decide) (by decide) (by decide), Fn 27 i hk.1 hk.2 (by decide) (by decide) (by decide) (by decide) (by decide)⟩) (fun i e _ hk he => ⟨FE 14 i e (by omega) (by omega) hk.2 he, FE 15 i e (by omega) (by omega) hk.2 he, FE 16 i e (by omega) (by omega) hk.2 he⟩) (fun i hi _ a => sne _ 2 (ownn i hi a).2.2 (by simp)) (fun p e hp he p4 _ kk => ?_) (fun p e _ _ p4 _ => sne p 4 p4 (by simp)) (fun o' t' _ _ _ _ t4' _ => sne t' 4 t4' (by simp)) (fun x hx => ?_)
    · rcases ((hTr.2.1 p hp p4).2.2 e he).1 with ⟨v, -⟩ | ⟨v1, v2, v3, v4, v5⟩ | ⟨v1, v2, v3, v4, v5, -⟩
      · rw [v] at kk; exact absurd kk (by simp)
      · rcases kk with kk | kk
        · rw [v1] at kk; exact absurd kk (by decide)
        · exact sne _ 5 (v5 kk.2).1 (by simp)
      · exact sne _ 4 v5 (by simp)
    · rcases hx with rfl | rfl
      · rw [F5o]
        exact ⟨fun q => absurd q (by decide), fun _ => ⟨⟨t, ht, F9, F5t, F7t, hlt⟩, F7o⟩, by decide, by decide⟩
      · rw [F5t]
        refine ⟨fun _ => ⟨⟨by rw [how]; exact ho, by rw [how]; exact F7t, by rw [how]; exact F5o⟩, ⟨⟨by rw [hlt]; exact F12, by omega⟩, ⟨by rw [hbt]; exact F13, by omega, by rw [hbt]; exact Nat.zero_mod _⟩, fun _ => by rw [how]; exact F9, fun q => by omega⟩, fun e he => ⟨Or.inl ⟨(FG e he).1, (FG e he).2.1⟩, Or.inl (FG e he).2.2, fun _ => (FG e he).2.2⟩⟩, fun q => absurd q (by decide), by decide, by decide⟩
  have c0 : ∀ w : Int32, (w = 3 ∨ w = 4 ∨ w = 5) → cn n f w o = 0 := fun w hw => cn_zero (fun j hj' q => by
    have a := ownn j hj' (by rcases hw with rfl | rfl | rfl <;> simp [q.1])
    have e : ow f j = o := by unfold ow; rw [q.2]; exact i_c (by omega)
    have := a.2.2
    rw [e, o5] at this; exact absurd this (by decide))
  have cS : ∀ (w : Int32) (i : Nat), i < n → (w = 3 ∨ w = 5 ∨ (w = 4 ∧ i ≠ o)) → cn n F w i = cn n f w i := fun w i hi hw => cn_same (fun j hj' => by
    by_cases jo : j = o
    · subst jo
      rw [F5o, o5]
      exact ⟨fun q => by rcases hw with rfl | rfl | ⟨rfl, -⟩ <;> exact absurd q.1 (by decide), fun q => by rcases hw with rfl | rfl | ⟨rfl, -⟩ <;> exact absurd q.1 (by decide)⟩
    · by_cases jt : j = t
      · subst jt
        rw [F5t, F7t, t5]
        exact ⟨fun q => by rcases hw with rfl | rfl | ⟨rfl, -⟩ <;> exact absurd q.1 (by decide), fun q => by
          rcases hw with rfl | rfl | ⟨rfl, io⟩
          · exact absurd q.1 (by decide)
          · exact absurd q.1 (by decide)
          · exact absurd (nI_inj (by omega) (by omega) q.2).symm io⟩
      · rw [(hj j jo jt).1, (hj j jo jt).2])
  have c1 : cn n F 4 o = 1 := by
    have : cn n F 4 o = cn n f 4 o + 1 := by
      unfold cn
      refine cnt_one (k := t) (decide_eq_false (fun q => by rw [t5] at q; exact absurd q.1 (by decide))) (decide_eq_true ⟨F5t, F7t⟩) n 0 (Nat.zero_le _) (by omega) (fun j _ _ jt => ?_)
      by_cases jo : j = o
      · subst jo
        show decide (f 5 j = 4 ∧ _) = decide (F 5 j = 4 ∧ _)
        rw [decide_eq_false (fun q => by rw [o5] at q; exact absurd q.1 (by decide)), decide_eq_false (fun q => by rw [F5o] at q; exact absurd q.1 (by decide))]
      · show decide (f 5 j = 4 ∧ f 7 j = nI o) = decide (F 5 j = 4 ∧ F 7 j = nI o)
        rw [(hj j jo jt).1, (hj j jo jt).2]
    rw [this, c0 4 (by simp)]
  obtain ⟨a1, a2, a3, a4, a5, a6, a7, a8, a9, a10, a11⟩ := hT
  obtain ⟨b1, b2, b3, b4, b5, b6, b7, b8, b9, b10, b11, b12⟩ := hQ
  have e11 : h_n N + 1 = h_n M + 11 := by omega
  have e12 : h_n N + 2 = h_n M + 12 := by omega
  rw [e11] at b5 b6 b7 b8 b9
  rw [e12] at b8 b10 b11
  have b12' : ∀ q, q < 5 → h_r Q (h_n M + 12) q = h_n M + 13 + q ∧ h_k Q (h_n M + 13 + q) = 9 ∧ h_l Q (h_n M + 13 + q) = 8 ∧ ∀ k, h_i Q (h_n M + 13 + q) k = 0 := fun q hq' => by
    have := b12 q hq'
    rw [e12, show h_n N + 3 + q = h_n M + 13 + q by omega] at this
    exact this
  -- what the old cells and the table's cells say
  have O : ∀ x, x ≤ h_n M → h_k Q x = h_k M x ∧ h_l Q x = h_l M x ∧ ∀ j, h_i Q x j = h_i M x j ∧ h_r Q x j = h_r M x j := fun x hx => by
    obtain ⟨u1, u2, u3⟩ := b3 x (by omega)
    obtain ⟨v1, v2, v3⟩ := a3 x hx
    exact ⟨u1.trans v1, u2.trans v2, fun j => ⟨(u3 j).1.trans (v3 j).1, (u3 j).2.trans (v3 j).2⟩⟩
  have T : ∀ x, x ≤ h_n M + 10 → h_k Q x = h_k N x ∧ h_l Q x = h_l N x ∧ ∀ j, h_i Q x j = h_i N x j ∧ h_r Q x j = h_r N x j := fun x hx => b3 x (by omega)
  have GA : (G_ o ≤ 10 + 2 * n ∧ Wd o ≤ 10 + 2 * n) ∧ (G_ t ≤ 10 + 2 * n ∧ Wd t ≤ 10 + 2 * n) := by unfold G_ Wd; omega
  have GW : G_ o ≠ Wd t ∧ G_ t ≠ Wd o ∧ Wd o ≠ Wd t ∧ G_ o ≠ G_ t ∧ G_ o ≠ Wd o ∧ G_ t ≠ Wd t := by unfold G_ Wd; omega
  have hI : ∀ x k, x ≠ G_ o → x ≠ Wd o → x ≠ G_ t → x ≠ Wd t → h_i (crt Q o t (h_n M + 11) (h_n M + 1)) x k = h_i Q x k := fun x k h1 h2 h3 h4 => by
    unfold crt; rw [I_sr, b_i (fun q => h3 q.1) (fun q => h4 q.1), b_i (fun q => h1 q.1) (fun q => h2 q.1)]
  have hR : ∀ x k, ¬ (x = G_ o ∧ (k = 3 ∨ k = 5 ∨ k = 6)) → ¬ (x = G_ t ∧ (k = 3 ∨ k = 5 ∨ k = 6)) → h_r (crt Q o t (h_n M + 11) (h_n M + 1)) x k = h_r Q x k := fun x k h1 h2 => by
    unfold crt; rw [Q_sr, r_s_ne (by omega), b_r h2, b_r h1]
  have zo : h_i (crt Q o t (h_n M + 11) (h_n M + 1)) (G_ o) 0 = nI o ∧ h_i (crt Q o t (h_n M + 11) (h_n M + 1)) (G_ o) 2 = 2 ∧ (∀ k, k < 32 → h_i (crt Q o t (h_n M + 11) (h_n M + 1)) (Wd o) k = 0) ∧ h_r (crt Q o t (h_n M + 11) (h_n M + 1)) (G_ o) 3 = h_n M + 11 ∧ h_i (crt Q o t (h_n M + 11) (h_n M + 1)) (G_ o) 4 = -1 ∧ h_r (crt Q o t (h_n M + 11) (h_n M + 1)) (G_ o) 5 = 0 ∧ h_r (crt Q o t (h_n M + 11) (h_n M + 1)) (G_ o) 6 = 0 := by
    unfold crt
    simp only [I_sr, Q_sr]
    refine ⟨?_, ?_, fun k hk => ?_, ?_, ?_, ?_, ?_⟩
    · rw [b_i (by omega) (by omega), b_i (by omega) (by omega)]
      exact ((O _ (by omega)).2.2 0).1.trans (h.2.2.2.2.2.1 o ho).1
    · rw [b_i (by omega) (by omega), b_i2]
    · rw [b_i (by omega) (by omega), b_iw hk]
    · rw [r_s_ne (by omega), b_r (by omega), b_r3]
    · rw [b_i (by omega) (by omega), b_i4]
    · rw [r_s_ne (by omega), b_r (by omega), b_r5]
    · rw [r_s_ne (by omega), b_r (by omega), b_r6]
  have zt : h_i (crt Q o t (h_n M + 11) (h_n M + 1)) (G_ t) 0 = nI t ∧ h_i (crt Q o t (h_n M + 11) (h_n M + 1)) (G_ t) 2 = 4 ∧ (∀ k, k < 32 → h_i (crt Q o t (h_n M + 11) (h_n M + 1)) (Wd t) k = 0) ∧ h_r (crt Q o t (h_n M + 11) (h_n M + 1)) (G_ t) 3 = h_n M + 11 ∧ h_i (crt Q o t (h_n M + 11) (h_n M + 1)) (G_ t) 4 = 0 ∧ h_r (crt Q o t (h_n M + 11) (h_n M + 1)) (G_ t) 5 = 0 ∧ h_r (crt Q o t (h_n M + 11) (h_n M + 1)) (G_ t) 6 = h_n M + 1 := by
    unfold crt
    simp only [I_sr, Q_sr]
    refine ⟨?_, ?_, fun k hk => ?_, ?_, ?_, ?_, ?_⟩
    · rw [b_i (by omega) (by omega), b_i (by omega) (by omega)]
      exact ((O _ (by omega)).2.2 0).1.trans (h.2.2.2.2.2.1 t ht).1
    · rw [b_i2]
    · rw [b_iw hk]
    · rw [r_s_ne (by omega), b_r3]
    · rw [b_i4]
    · rw [r_s_ne (by omega), b_r5]
    · rw [r_s_eq]
  have hkk := crK Q o t (h_n M + 11) (h_n M + 1)
  have hll := crL Q o t (h_n M + 11) (h_n M + 1)
  have hn1 := crN Q o t (h_n M + 11) (h_n M + 1)
  generalize crt Q o t (h_n M + 11) (h_n M + 1) = M' at hI hR zo zt hkk hll hn1 ⊢
  have nI' : ∀ x k, h_n M < x → h_i M' x k = h_i Q x k := fun x k hx => hI x k (by omega) (by omega) (by omega) (by omega)
  have nR' : ∀ x k, h_n M < x → h_r M' x k = h_r Q x k := fun x k hx => hR x k (by omega) (by omega)
  refine Rel_tr h (fun i => i = o ∨ i = t) ?_ ?_ hq ?_ (fun x hx => by rw [hkk]; exact (O x hx).1) (fun y k hy => ?_) (fun j _ j2 _ => if_neg (sne j 2 j2 (by simp)).1) (fun j _ j4 _ => if_neg (sne j 4 j4 (by simp)).2) (fun _ _ _ _ => rfl) (fun b i hi hs h5 h27 h6 h11 h14 h15 h16 _ _ => Fn b i (by omega) (by omega) h6 h11 h14 h15 h16) (fun i k hi hs hk => F6n i k (by omega) (by omega) hk) (fun i k hi hs hk => F11n i k (by omega) hk) (fun b i e hi hs he h1 h2 => FE b i e h1 h2 (by omega) he) (fun i k hi hs hk => by rw [F19]) (fun i hi hs h2 => ⟨cS 3 i hi (by simp), cS 4 i hi (Or.inr (Or.inr ⟨rfl, by omega⟩)), cS 5 i hi (by simp)⟩) (fun i hi hs => ?_)
  · refine BX_al h.1 h.2.1 (by omega) (fun x hx => by rw [hkk]; exact (O x hx).1) (fun x hx => by rw [hll]; exact (O x hx).2.1) (fun x hx => by rw [hkk]; exact b4 x (by omega)) (fun x k hx _ h2 _ => (hR x k (fun q => h2 ⟨by rw [q.1]; exact (h.1.2.2.2.2.1 o ho).2.1, by omega⟩) (fun q => h2 ⟨by rw [q.1]; exact (h.1.2.2.2.2.1 t ht).2.1, by omega⟩)).trans ((O x hx).2.2 k).2) (fun a ha ha2 => ?_)
    rw [hkk]
    by_cases c1 : a = h_n M + 1
    · subst c1
      have k6 : h_k Q (h_n M + 1) = 6 := ((T _ (by omega)).1).trans a5
      refine ⟨fun q => by omega, fun _ => ⟨by omega, by omega, (nR' _ 2 (by omega)).trans (((T _ (by omega)).2.2 2).2.trans a8), by rw [hkk]; exact ((T _ (by omega)).1).trans a9, by rw [hll]; exact ((T _ (by omega)).2.1).trans a10, fun e' he' => ?_⟩, fun q => by omega⟩
      obtain ⟨u1, u2, -⟩ := a11 e' he'
      rw [show h_n M + 1 + 1 = h_n M + 2 by omega, show h_n M + 1 + 2 + e' = h_n M + 3 + e' by omega, nR' _ _ (by omega), hkk, ((T _ (by omega)).2.2 _).2, (T _ (by omega)).1]
      exact ⟨u1, u2⟩
    · by_cases c2 : a = h_n M + 11
      · subst c2
        refine ⟨fun _ => ⟨by omega, by omega, (nR' _ 2 (by omega)).trans b8, by rw [hkk]; exact b10, by rw [hll]; exact b11, fun q hq' => ?_⟩, fun q => by omega, fun q => by omega⟩
        obtain ⟨u1, u2, u3, -⟩ := b12' q hq'
        rw [show h_n M + 11 + 1 = h_n M + 12 by omega, show h_n M + 11 + 2 + q = h_n M + 13 + q by omega, nR' _ _ (by omega), hkk, hll]
        exact ⟨u1, u2, u3⟩
      · have k2 : h_k Q a = 12 ∨ h_k Q a = 2 ∨ h_k Q a = 13 ∨ h_k Q a = 9 := by
          rcases (show a = h_n M + 2 ∨ (h_n M + 3 ≤ a ∧ a ≤ h_n M + 10) ∨ a = h_n M + 12 ∨ h_n M + 13 ≤ a by omega) with rfl | a3' | rfl | a3'
          · exact Or.inl (((T _ (by omega)).1).trans a9)
          · have := (a11 (a - (h_n M + 3)) (by omega)).2.1
            rw [show h_n M + 3 + (a - (h_n M + 3)) = a by omega] at this
            exact Or.inr (Or.inl (((T _ (by omega)).1).trans this))
          · exact Or.inr (Or.inr (Or.inl b10))
          · have := (b12' (a - (h_n M + 13)) (by omega)).2.1
            rw [show h_n M + 13 + (a - (h_n M + 13)) = a by omega] at this
            exact Or.inr (Or.inr (Or.inr this))
        exact ⟨fun q => by omega, fun q => by omega, fun q => by omega⟩
  · exact ⟨fun i hi => ((hI 1 i (by unfold G_; omega) (by unfold Wd; omega) (by unfold G_; omega) (by unfold Wd; omega)).trans ((O 1 (by omega)).2.2 i).1).trans (h.2.2.1.1 i hi), fun i hi => ((hI 2 i (by unfold G_; omega) (by unfold Wd; omega) (by unfold G_; omega) (by unfold Wd; omega)).trans ((O 2 (by omega)).2.2 i).1).trans (h.2.2.1.2 i hi)⟩
  · refine zh_keep h (fun k => (hI 4 k (by unfold G_; omega) (by unfold Wd; omega) (by unfold G_; omega) (by unfold Wd; omega)).trans ((O 4 (by omega)).2.2 k).1) ((hR 4 3 (by unfold G_; omega) (by unfold G_; omega)).trans ((O 4 (by omega)).2.2 3).2) F4 (fun r hr1 r3 r4 => ?_)
    have s := sne r 3 r3 (by simp)
    have ac := at_c h hr1 r3
    have ax := ((h.2.1 (κ r)).2.2 ac.2).2.1
    exact ⟨by rw [(hj r s.1 s.2).1]; exact r3, rfl, by rw [F26], (hR _ 9 (by omega) (by omega)).trans ((O _ (by omega)).2.2 9).2⟩
  · have t0 := ntc_n hy
    have t1 := ntc_i hy ho (Or.inl rfl)
    have t2 := ntc_i hy ht (Or.inr rfl)
    exact ⟨(hI y k t1.1 t1.2.1 t2.1 t2.2.1).trans ((O y t0.1).2.2 k).1, (hR y k (fun q => t1.1 q.1) (fun q => t2.1 q.1)).trans ((O y t0.1).2.2 k).2⟩
  · rcases hs with rfl | rfl
    · refine ⟨⟨zo.1, by rw [F5o]; exact zo.2.1, fun k hk => by rw [zo.2.2.1 k hk, F6 i k (Or.inl rfl) hk], Or.inr (Or.inl ⟨F5o, ?_, zo.2.2.2.2.1, zo.2.2.2.2.2.1, zo.2.2.2.2.2.2⟩)⟩, fun _ => ?_, fun q => by rw [F5o] at q; exact absurd q (by decide), fun q => by rw [F5o] at q; exact absurd q (by decide)⟩
      · simp only [if_true]; exact zo.2.2.2.1
      · unfold z_d
        simp only [if_true, hrt]
        rw [hkk, nR' _ 0 (by omega), nR' _ 1 (by omega), nI' _ 3 (by omega), nI' _ 4 (by omega), nI' _ 5 (by omega), nI' _ 6 (by omega), nI' _ 7 (by omega), F8, F10, c1, cS 3 i hi (by simp), cS 5 i hi (by simp), c0 3 (by simp), c0 5 (by simp)]
        refine ⟨b5, b6, b7, b9.1, Or.inl rfl, b9.2.1, b9.2.2.1, b9.2.2.2.1, b9.2.2.2.2, fun q k hq' hk' => ?_⟩
        rw [show h_n M + 11 + 2 + q = h_n M + 13 + q by omega, nI' _ k (by omega), (b12' q hq').2.2.2 k, Nat.add_assoc (40 * i), F11 _ (by omega)]
    · refine ⟨⟨zt.1, by rw [F5t]; exact zt.2.1, fun k hk => by rw [zt.2.2.1 k hk, F6 i k (Or.inr rfl) hk], Or.inr (Or.inr (Or.inr (Or.inl ⟨F5t, ?_, ?_, zt.2.2.2.2.2.1, ?_⟩)))⟩, fun q => by rw [F5t] at q; exact absurd q (by decide), fun _ => ?_, fun q => by rw [F5t] at q; exact absurd q (by decide)⟩
      · simp only [how, if_true]; exact zt.2.2.2.1
      · rw [F12]; exact zt.2.2.2.2.1
      · simp only [if_true]; exact zt.2.2.2.2.2.2
      · unfold z_t
        simp only [if_true]
        rw [hkk, nR' _ 0 (by omega), nI' _ 1 (by omega), F12, (T _ (by omega)).1, ((T _ (by omega)).2.2 0).2, ((T _ (by omega)).2.2 1).1]
        refine ⟨a5, a6, a7, fun e' he' => ?_⟩
        obtain ⟨u1, u2, u3, u4, u5, u6, u7⟩ := a11 e' he'
        unfold z_e
        simp only [if_true]
        rw [show h_n M + 1 + 2 + e' = h_n M + 3 + e' by omega, nI' _ 0 (by omega), nI' _ 1 (by omega), nI' _ 2 (by omega), nR' _ 3 (by omega), nR' _ 4 (by omega), ((T _ (by omega)).2.2 0).1, ((T _ (by omega)).2.2 1).1, ((T _ (by omega)).2.2 2).1, ((T _ (by omega)).2.2 3).2, ((T _ (by omega)).2.2 4).2, (FG e' he').1, (FG e' he').2.2, F12, hbt, hlt, if_pos rfl, if_neg (by decide)]
        exact ⟨u3, u4, u5, u6, u7⟩
end E
