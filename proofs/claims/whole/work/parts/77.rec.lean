section E
variable {n : Nat} {M M' : mM} {f : Nat → Nat → Int32} {ρ τ κ : Nat → Nat}
/-- a context that has been made, its registers copied -/
def cI (M : mM) (g b : Nat) (v : Int32) (w : Nat → Int32) (N : mM) : Prop := h_n N = h_n M + 2 ∧ h_v N = h_v M + 19 ∧ (∀ x, x ≤ h_n M → h_k N x = h_k M x ∧ h_l N x = h_l M x ∧ ∀ j, h_i N x j = h_i M x j ∧ h_r N x j = h_r M x j) ∧ (∀ x, h_n M + 2 < x → h_k N x = 0) ∧ h_k N (h_n M + 1) = 5 ∧ h_r N (h_n M + 1) 0 = g ∧ h_r N (h_n M + 1) 1 = b ∧ h_i N (h_n M + 1) 2 = v ∧ h_r N (h_n M + 1) 3 = h_n M + 2 ∧ h_i N (h_n M + 1) 4 = 0 ∧ h_i N (h_n M + 1) 10 = 0 ∧ h_k N (h_n M + 2) = 9 ∧ h_l N (h_n M + 2) = 8 ∧ ∀ k, k < 8 → h_i N (h_n M + 2) k = w k
def nC (M : mM) (g b : Nat) (v : Int32) : mM := h_si (h_sr (h_sr (h_si (h_sr (h_al (h_al M 5 11) 9 8) (h_n M + 1) 3 (h_n M + 2)) (h_n M + 1) 4 0) (h_n M + 1) 0 g) (h_n M + 1) 1 b) (h_n M + 1) 2 v
theorem P_k (M : mM) (a s b d n : Nat) : h_k (h_cp M a s b d n) = h_k M := rfl
theorem P_l (M : mM) (a s b d n : Nat) : h_l (h_cp M a s b d n) = h_l M := rfl
theorem P_r (M : mM) (a s b d n : Nat) : h_r (h_cp M a s b d n) = h_r M := rfl
theorem P_n (M : mM) (a s b d n : Nat) : h_n (h_cp M a s b d n) = h_n M := rfl
theorem P_v (M : mM) (a s b d n : Nat) : h_v (h_cp M a s b d n) = h_v M := rfl
theorem P_i (M : mM) (a s b d n c j : Nat) : h_i (h_cp M a s b d n) c j = if c = b ∧ d ≤ j ∧ j < d + n then h_i M a (s + (j - d)) else h_i M c j := rfl
theorem nC_n (M : mM) (g b : Nat) (v : Int32) : h_n (nC M g b v) = h_n M + 2 := rfl
theorem nC_v (M : mM) (g b : Nat) (v : Int32) : h_v (nC M g b v) = h_v M + 11 + 8 := rfl
theorem nC_k {g b x : Nat} {v : Int32} : h_k (nC M g b v) x = if x = h_n M + 2 then 9 else if x = h_n M + 1 then 5 else h_k M x := rfl
theorem nC_l {g b x : Nat} {v : Int32} : h_l (nC M g b v) x = if x = h_n M + 2 then 8 else if x = h_n M + 1 then 11 else h_l M x := rfl
theorem nC_i {g b x j : Nat} {v : Int32} : h_i (nC M g b v) x j = if x = h_n M + 1 ∧ j = 2 then v else if x = h_n M + 1 ∧ j = 4 then 0 else if x = h_n M + 2 then 0 else if x = h_n M + 1 then 0 else h_i M x j := rfl
theorem nC_r {g b x j : Nat} {v : Int32} : h_r (nC M g b v) x j = if x = h_n M + 1 ∧ j = 1 then b else if x = h_n M + 1 ∧ j = 0 then g else if x = h_n M + 1 ∧ j = 3 then h_n M + 2 else if x = h_n M + 2 then 0 else if x = h_n M + 1 then 0 else h_r M x j := rfl
theorem C_Rec {g b : Nat} {v : Int32} (hv : v = 0 ∨ v = 1) : ev 25 0 [some (.inr (h_n M + 1)), some (.inr g), some (.inr b), some (.inl v)] [] (h_al M 5 11) = some (none, nC M g b v) := by
  have k0 : h_k (h_al (h_al M 5 11) 9 8) (h_n M + 1) = 5 := by
    show (if h_n M + 1 = h_n M + 1 + 1 then 9 else if h_n M + 1 = h_n M + 1 then 5 else h_k M (h_n M + 1)) = 5
    rw [if_neg (by omega), if_pos rfl]
  rw [e_25_0]
  simp only [c_I, c_R, c_V, if_true, if_false, true_and, and_true, true_or, or_true, List.length_nil, List.length_cons, Nat.zero_le, k_si, l_si, r_si, k_sr, l_sr, i_sr, n_si, ar_si, ar_sr, ar_0, k0, Nat.succ_ne_zero, not_false_eq_true, show ¬ (8 : Int32) < 0 from by decide, show (8 : Nat) ≤ 100000 from by decide, hv]
  rfl
theorem cI_of (hz : ∀ x, h_n M < x → h_k M x = 0) {g b s : Nat} {v : Int32} (hs : s ≤ h_n M) : cI M g b v (h_i M s) (h_cp (nC M g b v) s 0 (h_n M + 2) 0 8) := by
  have ci : ∀ x j, ¬ (x = h_n M + 2 ∧ j < 8) → h_i (h_cp (nC M g b v) s 0 (h_n M + 2) 0 8) x j = h_i (nC M g b v) x j := fun x j q => by rw [P_i, if_neg (by omega)]
  refine ⟨by rw [P_n, nC_n], ?_, fun x hx => ⟨?_, ?_, fun j => ⟨?_, ?_⟩⟩, fun x hx => ?_, ?_, ?_, ?_, ?_, ?_, ?_, ?_, ?_, ?_, fun k hk => ?_⟩
  · rw [P_v, nC_v]
  · rw [P_k, nC_k, if_neg (by omega), if_neg (by omega)]
  · rw [P_l, nC_l, if_neg (by omega), if_neg (by omega)]
  · rw [ci _ _ (by omega), nC_i, if_neg (by omega), if_neg (by omega), if_neg (by omega), if_neg (by omega)]
  · rw [P_r, nC_r, if_neg (by omega), if_neg (by omega), if_neg (by omega), if_neg (by omega), if_neg (by omega)]
  · rw [P_k, nC_k, if_neg (by omega), if_neg (by omega)]; exact hz x (by omega)
  · rw [P_k, nC_k, if_neg (by omega), if_pos rfl]
  · rw [P_r, nC_r, if_neg (by omega), if_pos ⟨rfl, rfl⟩]
  · rw [P_r, nC_r, if_pos ⟨rfl, rfl⟩]
  · rw [ci _ _ (by omega), nC_i, if_pos ⟨rfl, rfl⟩]
  · rw [P_r, nC_r, if_neg (by omega), if_neg (by omega), if_pos ⟨rfl, rfl⟩]
  · rw [ci _ _ (by omega), nC_i, if_neg (by omega), if_pos ⟨rfl, rfl⟩]
  · rw [ci _ _ (by omega), nC_i, if_neg (by omega), if_neg (by omega), if_neg (by omega), if_pos rfl]
  · rw [P_k, nC_k, if_pos rfl]
  · rw [P_l, nC_l, if_pos rfl]
  · rw [P_i, if_pos (by omega), Nat.zero_add, Nat.sub_zero, nC_i, if_neg (by omega), if_neg (by omega), if_neg (by omega), if_neg (by omega)]
/-- the context's granule -/
def bcr (N : mM) (g b A : Nat) (m : Int32) : mM := h_sr (bcm N g 3 b m) (G_ g) 5 A
def rcn (N : mM) (g b A : Nat) (m : Int32) : mM := h_si (h_si (bcr N g b A m) b 4 (h_i (bcr N g b A m) b 4 + 1)) b 5 (h_i (h_si (bcr N g b A m) b 4 (h_i (bcr N g b A m) b 4 + 1)) b 5 + 1)
/-- the reference's rows of a new context -/
def f_nc (f : Nat → Nat → Int32) (g o : Nat) (v : Int32) : Nat → Nat → Int32 := f_s (f_s (f_s (f_s (f_s (f_b f g 3 (nI o)) 17 g (f 10 o)) 10 o (f 10 o + 1)) 18 g v) 20 g 0) 25 g 0
theorem W_rec (h : Rel n M f ρ τ κ) {g o : Nat} {N : mM} {v : Int32} {w : Nat → Int32} (hv : v = 0 ∨ v = 1) (hg : g < n) (g5 : f 5 g = 1) (ho : o < n) (o2 : f 5 o = 2) (hC : cI M (G_ g) (ρ o) v w N) : Rel n (rcn N g (ρ o) (h_n M + 1) (f 10 o)) (f_r (f_nc f g o v) 19 (8 * g) (8 * g + 8) (fun j => w (j - 8 * g))) ρ τ (fun j => if j = g then h_n M + 1 else κ j) := by
  have hN := h.2.2.2.1.2.2.1
  have hnn := h.1.2.2.2.2.2.1
  obtain ⟨bo, bk⟩ := at_d h ho o2
  have bx := ((h.2.1 (ρ o)).1 bk).2.1
  have og : o ≠ g := fun q => by rw [q, g5] at o2; exact absurd o2 (by decide)
  unfold f_nc
  have F5 : f_r (f_s (f_s (f_s (f_s (f_s (f_b f g 3 (nI o)) 17 g (f 10 o)) 10 o (f 10 o + 1)) 18 g v) 20 g 0) 25 g 0) 19 (8 * g) (8 * g + 8) (fun j => w (j - 8 * g)) 5 g = 3 := by rw [f_r_ne (by omega), f_s_ne (by omega), f_s_ne (by omega), f_s_ne (by omega), f_s_ne (by omega), f_s_ne (by omega), fb5]
  have F7 : f_r (f_s (f_s (f_s (f_s (f_s (f_b f g 3 (nI o)) 17 g (f 10 o)) 10 o (f 10 o + 1)) 18 g v) 20 g 0) 25 g 0) 19 (8 * g) (8 * g + 8) (fun j => w (j - 8 * g)) 7 g = nI o := by rw [f_r_ne (by omega), f_s_ne (by omega), f_s_ne (by omega), f_s_ne (by omega), f_s_ne (by omega), f_s_ne (by omega), fb7]
  have F6 : ∀ k, k < 32 → f_r (f_s (f_s (f_s (f_s (f_s (f_b f g 3 (nI o)) 17 g (f 10 o)) 10 o (f 10 o + 1)) 18 g v) 20 g 0) 25 g 0) 19 (8 * g) (8 * g + 8) (fun j => w (j - 8 * g)) 6 (32 * g + k) = 0 := fun k hk => by rw [f_r_ne (by omega), f_s_ne (by omega), f_s_ne (by omega), f_s_ne (by omega), f_s_ne (by omega), f_s_ne (by omega), fb6 hk]
  have F17 : f_r (f_s (f_s (f_s (f_s (f_s (f_b f g 3 (nI o)) 17 g (f 10 o)) 10 o (f 10 o + 1)) 18 g v) 20 g 0) 25 g 0) 19 (8 * g) (8 * g + 8) (fun j => w (j - 8 * g)) 17 g = f 10 o := by rw [f_r_ne (by omega), f_s_ne (by omega), f_s_ne (by omega), f_s_ne (by omega), f_s_ne (by omega), f_s_eq]
  have F10 : f_r (f_s (f_s (f_s (f_s (f_s (f_b f g 3 (nI o)) 17 g (f 10 o)) 10 o (f 10 o + 1)) 18 g v) 20 g 0) 25 g 0) 19 (8 * g) (8 * g + 8) (fun j => w (j - 8 * g)) 10 o = f 10 o + 1 := by rw [f_r_ne (by omega), f_s_ne (by omega), f_s_ne (by omega), f_s_ne (by omega), f_s_eq]
  have F18 : f_r (f_s (f_s (f_s (f_s (f_s (f_b f g 3 (nI o)) 17 g (f 10 o)) 10 o (f 10 o + 1)) 18 g v) 20 g 0) 25 g 0) 19 (8 * g) (8 * g + 8) (fun j => w (j - 8 * g)) 18 g = v := by rw [f_r_ne (by omega), f_s_ne (by omega), f_s_ne (by omega), f_s_eq]
  have F20 : f_r (f_s (f_s (f_s (f_s (f_s (f_b f g 3 (nI o)) 17 g (f 10 o)) 10 o (f 10 o + 1)) 18 g v) 20 g 0) 25 g 0) 19 (8 * g) (8 * g + 8) (fun j => w (j - 8 * g)) 20 g = 0 := by rw [f_r_ne (by omega), f_s_ne (by omega), f_s_eq]
  have F25 : f_r (f_s (f_s (f_s (f_s (f_s (f_b f g 3 (nI o)) 17 g (f 10 o)) 10 o (f 10 o + 1)) 18 g v) 20 g 0) 25 g 0) 19 (8 * g) (8 * g + 8) (fun j => w (j - 8 * g)) 25 g = 0 := by rw [f_r_ne (by omega), f_s_eq]
  have F19 : ∀ k, k < 8 → f_r (f_s (f_s (f_s (f_s (f_s (f_b f g 3 (nI o)) 17 g (f 10 o)) 10 o (f 10 o + 1)) 18 g v) 20 g 0) 25 g 0) 19 (8 * g) (8 * g + 8) (fun j => w (j - 8 * g)) 19 (8 * g + k) = w k := fun k hk => by rw [f_r_in (by omega) (by omega), show 8 * g + k - 8 * g = k by omega]
  have Fn : ∀ b i, i ≠ g → b ≠ 6 → b ≠ 19 → (b = 10 → i ≠ o) → f_r (f_s (f_s (f_s (f_s (f_s (f_b f g 3 (nI o)) 17 g (f 10 o)) 10 o (f 10 o + 1)) 18 g v) 20 g 0) 25 g 0) 19 (8 * g) (8 * g + 8) (fun j => w (j - 8 * g)) b i = f b i := fun b i h1 h2 h3 h4 => by rw [f_r_ne (by omega), f_s_ne (by omega), f_s_ne (by omega), f_s_ne (by omega), f_s_ne (by omega), f_s_ne (by omega), fbn (by omega) (by omega) (by omega)]
  have Fr : ∀ b, b ≠ 5 → b ≠ 6 → b ≠ 7 → b ≠ 10 → b ≠ 17 → b ≠ 18 → b ≠ 19 → b ≠ 20 → b ≠ 25 → f_r (f_s (f_s (f_s (f_s (f_s (f_b f g 3 (nI o)) 17 g (f 10 o)) 10 o (f 10 o + 1)) 18 g v) 20 g 0) 25 g 0) 19 (8 * g) (8 * g + 8) (fun j => w (j - 8 * g)) b = f b := fun b h1 h2 h3 h4 h5 h6 h7 h8 h9 => funext fun i => by rw [f_r_ne (by omega), f_s_ne (by omega), f_s_ne (by omega), f_s_ne (by omega), f_s_ne (by omega), f_s_ne (by omega), fbn (by omega) (by omega) (by omega)]
  have F6n : ∀ i k, i ≠ g → k < 32 → f_r (f_s (f_s (f_s (f_s (f_s (f_b f g 3 (nI o)) 17 g (f 10 o)) 10 o (f 10 o + 1)) 18 g v) 20 g 0) 25 g 0) 19 (8 * g) (8 * g + 8) (fun j => w (j - 8 * g)) 6 (32 * i + k) = f 6 (32 * i + k) := fun i k h1 h2 => by rw [f_r_ne (by omega), f_s_ne (by omega), f_s_ne (by omega), f_s_ne (by omega), f_s_ne (by omega), f_s_ne (by omega), fbn (by omega) (by omega) (by omega)]
  have F19n : ∀ i k, i ≠ g → k < 8 → f_r (f_s (f_s (f_s (f_s (f_s (f_b f g 3 (nI o)) 17 g (f 10 o)) 10 o (f 10 o + 1)) 18 g v) 20 g 0) 25 g 0) 19 (8 * g) (8 * g + 8) (fun j => w (j - 8 * g)) 19 (8 * i + k) = f 19 (8 * i + k) := fun i k h1 h2 => by rw [f_r_ne (by omega), f_s_ne (by omega), f_s_ne (by omega), f_s_ne (by omega), f_s_ne (by omega), f_s_ne (by omega), fbn (by omega) (by omega) (by omega)]
  generalize f_r (f_s (f_s (f_s (f_s (f_s (f_b f g 3 (nI o)) 17 g (f 10 o)) 10 o (f 10 o + 1)) 18 g v) 20 g 0) 25 g 0) 19 (8 * g) (8 * g + 8) (fun j => w (j - 8 * g)) = F at F5 F7 F6 F17 F10 F18 F20 F25 F19 Fn Fr F6n F19n ⊢
  have how : ow F g = o := by unfold ow; rw [F7]; exact i_c (by omega)
  have hj : ∀ j, j < n → j ≠ g → F 5 j = f 5 j ∧ F 7 j = f 7 j := fun j _ jd => ⟨Fn 5 j jd (by decide) (by decide) (by omega), Fn 7 j jd (by decide) (by decide) (by omega)⟩
  have F4 : F 4 = f 4 := Fr 4 (by decide) (by decide) (by decide) (by decide) (by decide) (by decide) (by decide) (by decide) (by decide)
  have F14 : F 14 = f 14 := Fr 14 (by decide) (by decide) (by decide) (by decide) (by decide) (by decide) (by decide) (by decide) (by decide)
  have F15 : F 15 = f 15 := Fr 15 (by decide) (by decide) (by decide) (by decide) (by decide) (by decide) (by decide) (by decide) (by decide)
  have F16 : F 16 = f 16 := Fr 16 (by decide) (by decide) (by decide) (by decide) (by decide) (by decide) (by decide) (by decide) (by decide)
  have F11 : F 11 = f 11 := Fr 11 (by decide) (by decide) (by decide) (by decide) (by decide) (by decide) (by decide) (by decide) (by decide)
  have hq : q_ref n F := by
    refine q_one h.2.2.2.1 hg (by simp [g5]) (by rw [F5]; simp) (fun _ => ⟨by rw [how]; exact ho, by rw [how]; exact F7, by rw [how, (hj o ho og).1]; exact o2⟩) (by rw [F4]) (by rw [F4]; exact h.2.2.2.1.2.2.2.1) (Fr 3 (by decide) (by decide) (by decide) (by decide) (by decide) (by decide) (by decide) (by decide) (by decide)) (fun i hi id => ⟨(hj i hi id).1, (hj i hi id).2, Fn 9 i id (by decide) (by decide) (by omega), Fn 12 i id (by decide) (by decide) (by omega), Fn 13 i id (by decide) (by decide) (by omega), Fn 27 i id (by decide) (by decide) (by omega)⟩) (fun i e _ _ => ⟨by rw [F14], by rw [F15], by rw [F16]⟩)
  have cX : ∀ i, i < n → ∀ w' : Int32, w' ≠ 1 → ¬ (w' = 3 ∧ i = o) → cn n F w' i = cn n f w' i := fun i hi w' h1 h2 => cn_off hj (fun q => h1 (by rw [← q.1, g5])) (fun q => h2 ⟨by rw [← q.1, F5], nI_inj (by omega) (by omega) (by rw [← q.2, F7])⟩)
  have cM : cn n F 3 o = cn n f 3 o + 1 := cn_more hg (fun q => by rw [g5] at q; exact absurd q.1 (by decide)) ⟨F5, F7⟩ hj
  obtain ⟨z1, z2, z3, z4, z5, z6, z7, z8, z9, z10⟩ := h.2.2.2.2.2.2.1 o ho o2
  obtain ⟨t1, t2, t3, t4, t5, t6, t7, t8, t9, t10, t11, t12, t13, t14⟩ := hC
  have GA : G_ g ≤ 10 + 2 * n ∧ Wd g ≤ 10 + 2 * n := by unfold G_ Wd; omega
  have mi : ∀ x k, x ≠ G_ g → x ≠ Wd g → h_i (bcr N g (ρ o) (h_n M + 1) (f 10 o)) x k = h_i N x k := fun x k h1 h2 => by
    unfold bcr; rw [I_sr, b_i (fun q => h1 q.1) (fun q => h2 q.1)]
  have hv4 : h_i (bcr N g (ρ o) (h_n M + 1) (f 10 o)) (ρ o) 4 = h_i M (ρ o) 4 := by rw [mi _ 4 (by omega) (by omega)]; exact ((t3 _ (by omega)).2.2 4).1
  have hv5 : h_i (h_si (bcr N g (ρ o) (h_n M + 1) (f 10 o)) (ρ o) 4 (h_i M (ρ o) 4 + 1)) (ρ o) 5 = f 10 o := by rw [I_si, f_s_ne (by omega), mi _ 5 (by omega) (by omega)]; exact (((t3 _ (by omega)).2.2 5).1).trans z7
  unfold rcn
  rw [hv4, hv5]
  have hI : ∀ x k, x ≠ G_ g → x ≠ Wd g → ¬ (x = ρ o ∧ (k = 4 ∨ k = 5)) → h_i (h_si (h_si (bcr N g (ρ o) (h_n M + 1) (f 10 o)) (ρ o) 4 (h_i M (ρ o) 4 + 1)) (ρ o) 5 (f 10 o + 1)) x k = h_i N x k := fun x k h1 h2 h4 => by
    rw [I_si, f_s_ne (by omega), I_si, f_s_ne (by omega), mi x k h1 h2]
  have hR : ∀ x k, ¬ (x = G_ g ∧ (k = 3 ∨ k = 5 ∨ k = 6)) → h_r (h_si (h_si (bcr N g (ρ o) (h_n M + 1) (f 10 o)) (ρ o) 4 (h_i M (ρ o) 4 + 1)) (ρ o) 5 (f 10 o + 1)) x k = h_r N x k := fun x k h1 => by
    unfold bcr; rw [Q_si, Q_si, Q_sr, r_s_ne (by omega), b_r h1]
  have hzg : h_i (h_si (h_si (bcr N g (ρ o) (h_n M + 1) (f 10 o)) (ρ o) 4 (h_i M (ρ o) 4 + 1)) (ρ o) 5 (f 10 o + 1)) (G_ g) 0 = nI g ∧ h_i (h_si (h_si (bcr N g (ρ o) (h_n M + 1) (f 10 o)) (ρ o) 4 (h_i M (ρ o) 4 + 1)) (ρ o) 5 (f 10 o + 1)) (G_ g) 2 = 3 ∧ (∀ k, k < 32 → h_i (h_si (h_si (bcr N g (ρ o) (h_n M + 1) (f 10 o)) (ρ o) 4 (h_i M (ρ o) 4 + 1)) (ρ o) 5 (f 10 o + 1)) (Wd g) k = 0) ∧ h_r (h_si (h_si (bcr N g (ρ o) (h_n M + 1) (f 10 o)) (ρ o) 4 (h_i M (ρ o) 4 + 1)) (ρ o) 5 (f 10 o + 1)) (G_ g) 3 = ρ o ∧ h_i (h_si (h_si (bcr N g (ρ o) (h_n M + 1) (f 10 o)) (ρ o) 4 (h_i M (ρ o) 4 + 1)) (ρ o) 5 (f 10 o + 1)) (G_ g) 4 = f 10 o ∧ h_r (h_si (h_si (bcr N g (ρ o) (h_n M + 1) (f 10 o)) (ρ o) 4 (h_i M (ρ o) 4 + 1)) (ρ o) 5 (f 10 o + 1)) (G_ g) 5 = h_n M + 1 ∧ h_r (h_si (h_si (bcr N g (ρ o) (h_n M + 1) (f 10 o)) (ρ o) 4 (h_i M (ρ o) 4 + 1)) (ρ o) 5 (f 10 o + 1)) (G_ g) 6 = 0 := by
    unfold bcr
    simp only [I_si, Q_si, I_sr, Q_sr]
    refine ⟨?_, ?_, fun k hk => ?_, ?_, ?_, ?_, ?_⟩
    · rw [f_s_ne (by omega), f_s_ne (by omega), b_i (by omega) (by unfold G_ Wd; omega)]
      exact (((t3 _ (by omega)).2.2 0).1).trans (h.2.2.2.2.2.1 g hg).1
    · rw [f_s_ne (by omega), f_s_ne (by omega), b_i2]
    · rw [f_s_ne (by omega), f_s_ne (by omega), b_iw hk]
    · rw [r_s_ne (by omega), b_r3]
    · rw [f_s_ne (by omega), f_s_ne (by omega), b_i4]
    · rw [r_s_eq]
    · rw [r_s_ne (by omega), b_r6]
  have hO : h_i (h_si (h_si (bcr N g (ρ o) (h_n M + 1) (f 10 o)) (ρ o) 4 (h_i M (ρ o) 4 + 1)) (ρ o) 5 (f 10 o + 1)) (ρ o) 4 = h_i M (ρ o) 4 + 1 ∧ h_i (h_si (h_si (bcr N g (ρ o) (h_n M + 1) (f 10 o)) (ρ o) 4 (h_i M (ρ o) 4 + 1)) (ρ o) 5 (f 10 o + 1)) (ρ o) 5 = f 10 o + 1 := by rw [I_si, f_s_ne (by omega), I_si, f_s_eq, f_s_eq]; exact ⟨rfl, rfl⟩
  have hkk : h_k (h_si (h_si (bcr N g (ρ o) (h_n M + 1) (f 10 o)) (ρ o) 4 (h_i M (ρ o) 4 + 1)) (ρ o) 5 (f 10 o + 1)) = h_k N := rfl
  have hll : h_l (h_si (h_si (bcr N g (ρ o) (h_n M + 1) (f 10 o)) (ρ o) 4 (h_i M (ρ o) 4 + 1)) (ρ o) 5 (f 10 o + 1)) = h_l N := rfl
  have hn1 : h_n (h_si (h_si (bcr N g (ρ o) (h_n M + 1) (f 10 o)) (ρ o) 4 (h_i M (ρ o) 4 + 1)) (ρ o) 5 (f 10 o + 1)) = h_n N := rfl
  generalize h_si (h_si (bcr N g (ρ o) (h_n M + 1) (f 10 o)) (ρ o) 4 (h_i M (ρ o) 4 + 1)) (ρ o) 5 (f 10 o + 1) = M' at hI hR hzg hO hkk hll hn1 ⊢
  have nI' : ∀ x k, h_n M < x → h_i M' x k = h_i N x k := fun x k hx => hI x k (by omega) (by omega) (by omega)
  have nR' : ∀ x k, h_n M < x → h_r M' x k = h_r N x k := fun x k hx => hR x k (by omega)
  refine W_de h (d := g) (o := o) (p := n) (e := 0) (κ' := fun j => if j = g then h_n M + 1 else κ j) ho o2 og (by omega) (fun q => by omega) (by decide) ?_ (fun x hx => by rw [hkk]; exact (t3 x hx).1) (fun x k hx _ a _ q => (hI x k (a hg).1 (a hg).2 (by omega)).trans ((t3 x hx).2.2 k).1) (fun x k hx a _ => (hR x k (fun q => a hg q.1)).trans ((t3 x hx).2.2 k).2) (fun _ _ _ => rfl) (fun _ _ _ => rfl) (fun j _ j4 => if_neg (fun q => by rw [q, g5] at j4; exact absurd j4 (by decide))) hq (fun _ => by rw [F5]; decide) F4 (fun b i _ id _ _ b6 _ _ _ _ b19 b10 => Fn b i id b6 b19 b10) (fun i k _ id hk => F6n i k id hk) (fun i k _ _ _ => by rw [F11]) (fun i k _ id hk => F19n i k id hk) (fun i e' _ _ _ _ => ⟨by rw [F14], by rw [F15], by rw [F16]⟩) (fun i hi io _ => ⟨cX i hi 3 (by decide) (by omega), cX i hi 4 (by decide) (by omega), cX i hi 5 (by decide) (by omega)⟩) (fun _ q => by rw [g5] at q; exact absurd q (by decide)) (fun _ => ⟨?_, fun q => by rw [F5] at q; exact absurd q (by decide), fun _ => ?_⟩) (fun q => by omega) ?_ ?_ ?_ ?_
  · refine BX_al h.1 h.2.1 (by omega) (fun x hx => by rw [hkk]; exact (t3 x hx).1) (fun x hx => by rw [hll]; exact (t3 x hx).2.1) (fun x hx => by rw [hkk]; exact t4 x (by omega)) (fun x k hx _ h2 _ => (hR x k (fun q => h2 ⟨by rw [q.1]; exact (h.1.2.2.2.2.1 g hg).2.1, by omega⟩)).trans ((t3 x hx).2.2 k).2) (fun a ha ha2 => ?_)
    rw [hkk]
    rcases (show a = h_n M + 1 ∨ a = h_n M + 2 by omega) with rfl | rfl
    · exact ⟨fun q => by omega, fun q => by omega, fun _ => ⟨by omega, by omega, (nR' _ 3 (by omega)).trans t9, by rw [hkk]; exact t12, by rw [hll]; exact t13⟩⟩
    · exact ⟨fun q => by omega, fun q => by omega, fun q => by omega⟩
  · refine ⟨hzg.1, by rw [F5]; exact hzg.2.1, fun k hk => by rw [hzg.2.2.1 k hk, F6 k hk], Or.inr (Or.inr (Or.inl ⟨F5, ?_, ?_, ?_, hzg.2.2.2.2.2.2⟩))⟩
    · rw [how]; exact hzg.2.2.2.1
    · rw [F17]; exact hzg.2.2.2.2.1
    · show h_r M' (G_ g) 5 = if g = g then h_n M + 1 else κ g
      rw [if_pos rfl]; exact hzg.2.2.2.2.2.1
  · unfold z_c
    simp only [if_true]
    rw [hkk, nR' _ 0 (by omega), nR' _ 1 (by omega), nI' _ 2 (by omega), nI' _ 4 (by omega), nI' _ 10 (by omega), how, F18, F20, F25]
    exact ⟨t5, t6, t7, t8, hv, fun k hk => by rw [nI' _ k (by omega), F19 k hk]; exact t14 k hk, t10, Or.inl rfl, fun q => absurd q (by decide), fun q => absurd q (by decide), t11⟩
  · rw [hO.1, z6, cM, nI_1]
  · rw [hO.2, F10]
  · rw [hI _ 6 (by omega) (by omega) (by omega), ((t3 _ (by omega)).2.2 6).1, cX o ho 4 (by decide) (by simp)]; exact z8
  · rw [hI _ 7 (by omega) (by omega) (by omega), ((t3 _ (by omega)).2.2 7).1, cX o ho 5 (by decide) (by simp)]; exact z9
end E
