section E
variable {n : Nat} {M M' : mM} {f : Nat → Nat → Int32} {ρ τ κ : Nat → Nat}
def gvd (M : mM) (d b a : Nat) : mM := h_si (h_sr (bcm M d 5 b (h_i M a 1)) a 3 (G_ d)) b 7 (h_i (h_sr (bcm M d 5 b (h_i M a 1)) a 3 (G_ d)) b 7 + 1)
theorem C_give {M : mM} {d b a : Nat} (g2 : h_k M (G_ d) = 3) (g3 : h_r M (G_ d) 1 = Wd d) (g4 : h_k M (Wd d) = 9) (g5 : h_l M (Wd d) = 32) (k4 : h_k M b = 4) (k2 : h_k M a = 2) : ev 92 0 [some (.inr b), some (.inr a), some (.inr (G_ d))] [] M = some (none, gvd M d b a) := by
  have k2' : h_k (bcm M d 5 b (h_i M a 1)) a = 2 := k2
  have k4' : h_k (bcm M d 5 b (h_i M a 1)) b = 4 := k4
  simp only [e_92_0, c_I, c_R, c_V, if_true, if_false, true_and, and_true, true_or, or_true, List.length_nil, List.length_cons, Nat.zero_le, k_si, l_si, r_si, k_sr, l_sr, i_sr, n_si, ar_si, ar_sr, ar_0, k2, rc3 g2, C_become g2 g3 g4 g5, k2', k4']
  rfl
/-- a page is given -/
theorem W_give (h : Rel n M f ρ τ κ) {d o p e : Nat} (hd : d < n) (d5 : f 5 d = 1) (ho : o < n) (o2 : f 5 o = 2) (hp : p < n) (p4 : f 5 p = 4) (p7 : f 7 p = nI o) (he : e < 8) (l3 : lv f p = 3) (j0 : f 14 (8 * p + e) = 0) (hb : bs f p + e < 2048) : Rel n (gvd M d (ρ o) (τ p + 2 + e)) (f_s (f_s (f_s (f_b f d 5 (nI o)) 27 d (nI (bs f p + e))) 14 (8 * p + e) 1) 15 (8 * p + e) (nI d)) ρ τ κ := by
  have hN := h.2.2.2.1.2.2.1
  have hT := h.2.2.2.1.2.2.2.2.2.1
  obtain ⟨bo, bk⟩ := at_d h ho o2
  obtain ⟨bt, btk⟩ := at_t h hp p4
  have td := dj_td h hp ho p4 o2
  have kE : h_k M (τ p + 2 + e) = 2 := (((h.2.1 (τ p)).2.1 btk).2.2.2.2.2 e he).2
  have od : o ≠ d := fun q => by rw [q, d5] at o2; exact absurd o2 (by decide)
  have pd : p ≠ d := fun q => by rw [q, d5] at p4; exact absurd p4 (by decide)
  have F5 : f_s (f_s (f_s (f_b f d 5 (nI o)) 27 d (nI (bs f p + e))) 14 (8 * p + e) 1) 15 (8 * p + e) (nI d) 5 d = 5 := by rw [f_s_ne (by omega), f_s_ne (by omega), f_s_ne (by omega), fb5]
  have F7 : f_s (f_s (f_s (f_b f d 5 (nI o)) 27 d (nI (bs f p + e))) 14 (8 * p + e) 1) 15 (8 * p + e) (nI d) 7 d = nI o := by rw [f_s_ne (by omega), f_s_ne (by omega), f_s_ne (by omega), fb7]
  have F27 : f_s (f_s (f_s (f_b f d 5 (nI o)) 27 d (nI (bs f p + e))) 14 (8 * p + e) 1) 15 (8 * p + e) (nI d) 27 d = nI (bs f p + e) := by rw [f_s_ne (by omega), f_s_ne (by omega), f_s_eq]
  have F6 : ∀ k, k < 32 → f_s (f_s (f_s (f_b f d 5 (nI o)) 27 d (nI (bs f p + e))) 14 (8 * p + e) 1) 15 (8 * p + e) (nI d) 6 (32 * d + k) = 0 := fun k hk => by rw [f_s_ne (by omega), f_s_ne (by omega), f_s_ne (by omega), fb6 hk]
  have Fn : ∀ b i, i ≠ d → b ≠ 6 → b ≠ 14 → b ≠ 15 → f_s (f_s (f_s (f_b f d 5 (nI o)) 27 d (nI (bs f p + e))) 14 (8 * p + e) 1) 15 (8 * p + e) (nI d) b i = f b i := fun b i h1 h2 h3 h4 => by rw [f_s_ne (by omega), f_s_ne (by omega), f_s_ne (by omega), fbn (by omega) (by omega) (by omega)]
  have Fr : ∀ b, b ≠ 5 → b ≠ 6 → b ≠ 7 → b ≠ 14 → b ≠ 15 → b ≠ 27 → f_s (f_s (f_s (f_b f d 5 (nI o)) 27 d (nI (bs f p + e))) 14 (8 * p + e) 1) 15 (8 * p + e) (nI d) b = f b := fun b h1 h2 h3 h4 h5 h6 => funext fun i => by rw [f_s_ne (by omega), f_s_ne (by omega), f_s_ne (by omega), fbn (by omega) (by omega) (by omega)]
  have F6n : ∀ i k, i ≠ d → k < 32 → f_s (f_s (f_s (f_b f d 5 (nI o)) 27 d (nI (bs f p + e))) 14 (8 * p + e) 1) 15 (8 * p + e) (nI d) 6 (32 * i + k) = f 6 (32 * i + k) := fun i k h1 h2 => by rw [f_s_ne (by omega), f_s_ne (by omega), f_s_ne (by omega), fbn (by omega) (by omega) (by omega)]
  have F14 : f_s (f_s (f_s (f_b f d 5 (nI o)) 27 d (nI (bs f p + e))) 14 (8 * p + e) 1) 15 (8 * p + e) (nI d) 14 (8 * p + e) = 1 := by rw [f_s_ne (by omega), f_s_eq]
  have F15 : f_s (f_s (f_s (f_b f d 5 (nI o)) 27 d (nI (bs f p + e))) 14 (8 * p + e) 1) 15 (8 * p + e) (nI d) 15 (8 * p + e) = nI d := f_s_eq
  have FE : ∀ i e', e' < 8 → ¬ (i = p ∧ e' = e) → f_s (f_s (f_s (f_b f d 5 (nI o)) 27 d (nI (bs f p + e))) 14 (8 * p + e) 1) 15 (8 * p + e) (nI d) 14 (8 * i + e') = f 14 (8 * i + e') ∧ f_s (f_s (f_s (f_b f d 5 (nI o)) 27 d (nI (bs f p + e))) 14 (8 * p + e) 1) 15 (8 * p + e) (nI d) 15 (8 * i + e') = f 15 (8 * i + e') := fun i e' h1 h2 => by
    rw [f_s_ne (by omega), f_s_ne (by omega), f_s_ne (by omega), fbn (by omega) (by omega) (by omega), f_s_ne (by omega), f_s_ne (by omega), f_s_ne (by omega), fbn (by omega) (by omega) (by omega)]; exact ⟨rfl, rfl⟩
  generalize f_s (f_s (f_s (f_b f d 5 (nI o)) 27 d (nI (bs f p + e))) 14 (8 * p + e) 1) 15 (8 * p + e) (nI d) = F at F5 F7 F27 F6 Fn Fr F6n F14 F15 FE ⊢
  have F16 := Fr 16 (by decide) (by decide) (by decide) (by decide) (by decide) (by decide)
  have F12 := Fn 12 p pd (by decide) (by decide) (by decide)
  have F13 := Fn 13 p pd (by decide) (by decide) (by decide)
  have hl : lv F p = lv f p := by unfold lv; rw [F12]
  have hbs : bs F p = bs f p := by unfold bs; rw [F13]
  have htg : tg F (8 * p + e) = d := by unfold tg; rw [F15]; exact i_c (by omega)
  have how : ow F d = o := by unfold ow; rw [F7]; exact i_c (by omega)
  have hj : ∀ j, j < n → j ≠ d → F 5 j = f 5 j ∧ F 7 j = f 7 j := fun j _ jd => ⟨Fn 5 j jd (by decide) (by decide) (by decide), Fn 7 j jd (by decide) (by decide) (by decide)⟩
  have hq : q_ref n F := by
    refine q_ent h.2.2.2.1 (d := d) (p0 := p) (e0 := e) (fun _ => by rw [d5]; decide) (fun _ => by rw [F5]; decide) (by rw [Fr 4 (by decide) (by decide) (by decide) (by decide) (by decide) (by decide)]) (by rw [Fr 4 (by decide) (by decide) (by decide) (by decide) (by decide) (by decide)]; exact h.2.2.2.1.2.2.2.1) (Fr 3 (by decide) (by decide) (by decide) (by decide) (by decide) (by decide)) (fun i hi id => ⟨(hj i hi id).1, (hj i hi id).2, Fn 9 i id (by decide) (by decide) (by decide), Fn 12 i id (by decide) (by decide) (by decide), Fn 13 i id (by decide) (by decide) (by decide), Fn 27 i id (by decide) (by decide) (by decide)⟩) (fun i e' _ _ he' ne => ⟨(FE i e' he' ne).1, (FE i e' he' ne).2, by rw [F16]⟩) (fun _ q => by rw [d5] at q; exact absurd q (by decide)) (fun p' e' hp' he' p4' ne _ kk q => ?_) (fun g p' e' hg gd hp' he' p4' w1 kk q => ?_) (fun _ => ⟨fun q => by rw [F5] at q; exact absurd q (by decide), fun _ => ⟨⟨by rw [how]; exact ho, by rw [how]; exact F7, by rw [how, (hj o ho od).1]; exact o2⟩, p, e, hp, he, by rw [(hj p hp pd).1]; exact p4, by rw [(hj p hp pd).2, F7]; exact p7, by rw [hl]; exact l3, F14, F15, by rw [hbs]; exact hb⟩, fun q => by rw [F5] at q; exact absurd q (by decide)⟩) (fun _ _ _ _ => ⟨Or.inr (Or.inl ⟨F14, by rw [hl]; exact l3, by rw [htg]; exact hd, by rw [htg]; exact F15, fun _ => ⟨by rw [htg]; exact F5, by rw [htg, (hj p hp pd).2, F7]; exact p7.symm, by rw [htg, hbs]; exact F27⟩⟩), ?_⟩)
    · rcases ((hT.2.1 p' hp' p4').2.2 e' he').1 with ⟨v, -⟩ | ⟨v1, v2, v3, v4, v5⟩ | ⟨v1, v2, v3, v4, v5, -⟩
      · rw [v] at kk; exact absurd kk (by simp)
      · rcases kk with kk | kk
        · rw [v1] at kk; exact absurd kk (by decide)
        · have := (v5 kk.2).1
          rw [q, d5] at this; exact absurd this (by decide)
      · rw [q, d5] at v5; exact absurd v5 (by decide)
    · rcases w1 with w1 | ⟨rfl, rfl⟩
      · rw [w1, d5] at p4'; exact absurd p4' (by decide)
      · rw [j0] at kk; exact absurd kk (by simp)
    · have := ((hT.2.1 p hp p4).2.2 e he).2
      unfold q_rip at this ⊢
      rw [F16, hl, hbs]; exact this
  have cX : ∀ i, i < n → ∀ w' : Int32, w' ≠ 1 → ¬ (w' = 5 ∧ i = o) → cn n F w' i = cn n f w' i := fun i hi w' h1 h2 => cn_off hj (fun q => h1 (by rw [← q.1, d5])) (fun q => h2 ⟨by rw [← q.1, F5], nI_inj (by omega) (by omega) (by rw [← q.2, F7])⟩)
  have cM : cn n F 5 o = cn n f 5 o + 1 := cn_more hd (fun q => by rw [d5] at q; exact absurd q.1 (by decide)) ⟨F5, F7⟩ hj
  obtain ⟨z1, z2, z3, z4, z5, z6, z7, z8, z9, z10⟩ := h.2.2.2.2.2.2.1 o ho o2
  obtain ⟨y1, y2, y3, y4, y5⟩ := (h.2.2.2.2.2.2.2.1 p hp p4).2.2.2 e he
  rw [l3, show spn 3 = 1 from rfl, Nat.mul_one] at y2
  unfold gvd
  have hv : h_i (h_sr (bcm M d 5 (ρ o) (h_i M (τ p + 2 + e) 1)) (τ p + 2 + e) 3 (G_ d)) (ρ o) 7 = h_i M (ρ o) 7 := by
    rw [I_sr, b_i (by unfold G_; omega) (by unfold Wd; omega)]
  rw [hv, y2]
  have hI : ∀ x k, x ≠ G_ d → x ≠ Wd d → ¬ (x = ρ o ∧ k = 7) → h_i (h_si (h_sr (bcm M d 5 (ρ o) (nI (bs f p + e))) (τ p + 2 + e) 3 (G_ d)) (ρ o) 7 (h_i M (ρ o) 7 + 1)) x k = h_i M x k := fun x k h1 h2 h4 => by
    rw [I_si, f_s_ne (by omega), I_sr, b_i (fun q => h1 q.1) (fun q => h2 q.1)]
  have hR : ∀ x k, ¬ (x = G_ d ∧ (k = 3 ∨ k = 5 ∨ k = 6)) → (x ≠ τ p + 2 + e ∨ k ≠ 3) → h_r (h_si (h_sr (bcm M d 5 (ρ o) (nI (bs f p + e))) (τ p + 2 + e) 3 (G_ d)) (ρ o) 7 (h_i M (ρ o) 7 + 1)) x k = h_r M x k := fun x k h1 h3 => by
    rw [Q_si, Q_sr, r_s_ne (by omega), b_r h1]
  have ha : h_r (h_si (h_sr (bcm M d 5 (ρ o) (nI (bs f p + e))) (τ p + 2 + e) 3 (G_ d)) (ρ o) 7 (h_i M (ρ o) 7 + 1)) (τ p + 2 + e) 3 = G_ d := by rw [Q_si, Q_sr, r_s_eq]
  have hz : z_g (h_si (h_sr (bcm M d 5 (ρ o) (nI (bs f p + e))) (τ p + 2 + e) 3 (G_ d)) (ρ o) 7 (h_i M (ρ o) 7 + 1)) F ρ τ κ d := by
    unfold z_g
    rw [how, F27, F5]
    simp only [I_si, Q_si, I_sr, Q_sr]
    refine ⟨?_, ?_, fun k hk => ?_, Or.inr (Or.inr (Or.inr (Or.inr ⟨trivial, ?_, ?_, ?_, ?_⟩)))⟩
    · rw [f_s_ne (by unfold G_; omega), b_i (by omega) (by unfold G_ Wd; omega)]; exact (h.2.2.2.2.2.1 d hd).1
    · rw [f_s_ne (by unfold G_; omega), b_i2]
    · rw [f_s_ne (by unfold Wd; omega), b_iw hk, F6 k hk]
    · rw [r_s_ne (by unfold G_; omega), b_r3]
    · rw [f_s_ne (by unfold G_; omega), b_i4]
    · rw [r_s_ne (by unfold G_; omega), b_r5]
    · rw [r_s_ne (by unfold G_; omega), b_r6]
  have hO : h_i (h_si (h_sr (bcm M d 5 (ρ o) (nI (bs f p + e))) (τ p + 2 + e) 3 (G_ d)) (ρ o) 7 (h_i M (ρ o) 7 + 1)) (ρ o) 7 = h_i M (ρ o) 7 + 1 := by rw [I_si, f_s_eq]
  have hkk : h_k (h_si (h_sr (bcm M d 5 (ρ o) (nI (bs f p + e))) (τ p + 2 + e) 3 (G_ d)) (ρ o) 7 (h_i M (ρ o) 7 + 1)) = h_k M := rfl
  have hll : h_l (h_si (h_sr (bcm M d 5 (ρ o) (nI (bs f p + e))) (τ p + 2 + e) 3 (G_ d)) (ρ o) 7 (h_i M (ρ o) 7 + 1)) = h_l M := rfl
  have hnn : h_n (h_si (h_sr (bcm M d 5 (ρ o) (nI (bs f p + e))) (τ p + 2 + e) 3 (G_ d)) (ρ o) 7 (h_i M (ρ o) 7 + 1)) = h_n M := rfl
  generalize h_si (h_sr (bcm M d 5 (ρ o) (nI (bs f p + e))) (τ p + 2 + e) 3 (G_ d)) (ρ o) 7 (h_i M (ρ o) 7 + 1) = M' at hI hR ha hz hO hkk hll hnn ⊢
  refine W_de h (d := d) (o := o) (p := p) (e := e) ho o2 od pd (fun _ => p4) he ?_ (fun x _ => by rw [hkk]) (fun x k _ _ a b q => hI x k (a hd).1 (a hd).2 (by omega)) (fun x k _ a b => hR x k (fun q => a hd q.1) (Or.inl (b hp))) (fun _ _ _ => rfl) (fun _ _ _ => rfl) (fun _ _ _ => rfl) hq (fun _ => by rw [F5]; decide) (Fr 4 (by decide) (by decide) (by decide) (by decide) (by decide) (by decide)) (fun b i _ id _ _ b6 _ b14 b15 b16 _ _ => Fn b i id b6 b14 b15) (fun i k _ id hk => F6n i k id hk) (fun i k _ _ _ => by rw [Fr 11 (by decide) (by decide) (by decide) (by decide) (by decide) (by decide)]) (fun i k _ _ _ => by rw [Fr 19 (by decide) (by decide) (by decide) (by decide) (by decide) (by decide)]) (fun i e' _ _ he' ne => ⟨(FE i e' he' ne).1, (FE i e' he' ne).2, by rw [F16]⟩) (fun i hi io _ => ⟨cX i hi 3 (by decide) (by omega), cX i hi 4 (by decide) (by omega), cX i hi 5 (by decide) (by omega)⟩) (fun _ q => by rw [d5] at q; exact absurd q (by decide)) (fun _ => ⟨hz, fun q => by rw [F5] at q; exact absurd q (by decide), fun q => by rw [F5] at q; exact absurd q (by decide)⟩) (fun _ => ?_) ?_ ?_ ?_ ?_
  · exact BX_r h.1 h.2.1 hkk hll hnn (fun x k _ h2 h3 => hR x k (fun q => h2 ⟨by rw [q.1]; exact (h.1.2.2.2.2.1 d hd).2.1, by omega⟩) (Or.inl (fun q => h3 (by rw [q]; exact kE))))
  · unfold z_e
    rw [hI _ 0 (by unfold G_; omega) (by unfold Wd; omega) (by omega), hI _ 1 (by unfold G_; omega) (by unfold Wd; omega) (by omega), hI _ 2 (by unfold G_; omega) (by unfold Wd; omega) (by omega), ha, hR _ 4 (by unfold G_; omega) (by omega), F14, F16, F12, hl, hbs, htg, l3, show spn 3 = 1 from rfl, Nat.mul_one]
    rw [j0] at y5
    exact ⟨y1, y2, y3, by rw [if_neg (by decide)], by rw [y5, if_neg (by decide), if_neg (by decide)]⟩
  · rw [hI _ 4 (by unfold G_; omega) (by unfold Wd; omega) (by omega), cX o ho 3 (by decide) (by simp)]; exact z6
  · rw [hI _ 5 (by unfold G_; omega) (by unfold Wd; omega) (by omega), Fn 10 o od (by decide) (by decide) (by decide)]; exact z7
  · rw [hI _ 6 (by unfold G_; omega) (by unfold Wd; omega) (by omega), cX o ho 4 (by decide) (by simp)]; exact z8
  · rw [hO, z9, cM, nI_1]
/-- an entry beyond the protected pages -/
theorem W_set (h : Rel n M f ρ τ κ) {o p e : Nat} {u v : Int32} (ho : o < n) (o2 : f 5 o = 2) (hp : p < n) (p4 : f 5 p = 4) (he : e < 8) (hb : 2048 ≤ bs f p + e) (hx : ¬ f 14 (8 * p + e) = 2) (hkk : h_k M' = h_k M) (hll : h_l M' = h_l M) (hnn : h_n M' = h_n M) (hI : ∀ x k, x ≠ τ p + 2 + e → h_i M' x k = h_i M x k) (hR : ∀ x k, x ≠ τ p + 2 + e → h_r M' x k = h_r M x k) (hze : z_e M' (f_s (f_s f 14 (8 * p + e) u) 15 (8 * p + e) v) τ p e) (hT2 : q_T2 n (f_s (f_s f 14 (8 * p + e) u) 15 (8 * p + e) v) p e) : Rel n M' (f_s (f_s f 14 (8 * p + e) u) 15 (8 * p + e) v) ρ τ κ := by
  have hT := h.2.2.2.1.2.2.2.2.2.1
  obtain ⟨bo, bk⟩ := at_d h ho o2
  obtain ⟨bt, btk⟩ := at_t h hp p4
  have td := dj_td h hp ho p4 o2
  have kE : h_k M (τ p + 2 + e) = 2 := (((h.2.1 (τ p)).2.1 btk).2.2.2.2.2 e he).2
  have Fr : ∀ b, b ≠ 14 → b ≠ 15 → f_s (f_s f 14 (8 * p + e) u) 15 (8 * p + e) v b = f b := fun b h1 h2 => funext fun i => by rw [f_s_ne (by omega), f_s_ne (by omega)]
  have FE : ∀ i e', e' < 8 → ¬ (i = p ∧ e' = e) → f_s (f_s f 14 (8 * p + e) u) 15 (8 * p + e) v 14 (8 * i + e') = f 14 (8 * i + e') ∧ f_s (f_s f 14 (8 * p + e) u) 15 (8 * p + e) v 15 (8 * i + e') = f 15 (8 * i + e') := fun i e' h1 h2 => by
    rw [f_s_ne (by omega), f_s_ne (by omega), f_s_ne (by omega), f_s_ne (by omega)]; exact ⟨rfl, rfl⟩
  generalize f_s (f_s f 14 (8 * p + e) u) 15 (8 * p + e) v = F at Fr FE hze hT2 ⊢
  have F5 := Fr 5 (by decide) (by decide)
  have F7 := Fr 7 (by decide) (by decide)
  have F16 := Fr 16 (by decide) (by decide)
  have hcn : ∀ w i, cn n F w i = cn n f w i := fun w i => cn_same (fun j _ => by rw [F5, F7])
  have hq : q_ref n F := by
    refine q_ent h.2.2.2.1 (d := n) (p0 := p) (e0 := e) (fun q => by omega) (fun q => by omega) (by rw [Fr 4 (by decide) (by decide)]) (by rw [Fr 4 (by decide) (by decide)]; exact h.2.2.2.1.2.2.2.1) (Fr 3 (by decide) (by decide)) (fun i _ _ => ⟨by rw [F5], by rw [F7], by rw [Fr 9 (by decide) (by decide)], by rw [Fr 12 (by decide) (by decide)], by rw [Fr 13 (by decide) (by decide)], by rw [Fr 27 (by decide) (by decide)]⟩) (fun i e' _ _ he' ne => ⟨(FE i e' he' ne).1, (FE i e' he' ne).2, by rw [F16]⟩) (fun q => by omega) (fun p' e' hp' he' p4' ne _ kk q => ?_) (fun g p' e' hg gd hp' he' p4' w1 kk q => ?_) (fun q => by omega) (fun _ _ _ _ => ⟨hT2, ?_⟩)
    · rcases ((hT.2.1 p' hp' p4').2.2 e' he').1 with ⟨v, -⟩ | ⟨v1, v2, v3, -⟩ | ⟨v1, v2, v3, -⟩
      · rw [v] at kk; exact absurd kk (by simp)
      · omega
      · omega
    · rcases w1 with w1 | ⟨rfl, rfl⟩
      · omega
      · rcases kk with kk | kk
        · exact hx kk
        · omega
    · have := ((hT.2.1 p hp p4).2.2 e he).2
      unfold q_rip lv bs at this ⊢
      rw [F16, Fr 12 (by decide) (by decide), Fr 13 (by decide) (by decide)]; exact this
  obtain ⟨z1, z2, z3, z4, z5, z6, z7, z8, z9, z10⟩ := h.2.2.2.2.2.2.1 o ho o2
  refine W_de h (d := n) (o := o) (p := p) (e := e) ho o2 (by omega) (by omega) (fun _ => p4) he ?_ (fun x _ => by rw [hkk]) (fun x k _ _ _ b _ => hI x k (b hp)) (fun x k _ _ b => hR x k (b hp)) (fun _ _ _ => rfl) (fun _ _ _ => rfl) (fun _ _ _ => rfl) hq (fun q => by omega) (Fr 4 (by decide) (by decide)) (fun b i _ _ _ _ _ _ b14 b15 _ _ _ => by rw [Fr b b14 b15]) (fun i k _ _ _ => by rw [Fr 6 (by decide) (by decide)]) (fun i k _ _ _ => by rw [Fr 11 (by decide) (by decide)]) (fun i k _ _ _ => by rw [Fr 19 (by decide) (by decide)]) (fun i e' _ _ he' ne => ⟨(FE i e' he' ne).1, (FE i e' he' ne).2, by rw [F16]⟩) (fun i _ _ _ => ⟨hcn 3 i, hcn 4 i, hcn 5 i⟩) (fun q => by omega) (fun q => by omega) (fun _ => hze) ?_ ?_ ?_ ?_
  · exact BX_r h.1 h.2.1 hkk hll hnn (fun x k _ _ h3 => hR x k (fun q => h3 (by rw [q]; exact kE)))
  · rw [hI _ 4 (by omega), hcn]; exact z6
  · rw [hI _ 5 (by omega), Fr 10 (by decide) (by decide)]; exact z7
  · rw [hI _ 6 (by omega), hcn]; exact z8
  · rw [hI _ 7 (by omega), hcn]; exact z9
end E
