/-! pages and tables are taken back, pages are given -/
section E
variable {n : Nat} {M : mM} {f : Nat → Nat → Int32} {ρ τ κ : Nat → Nat}
/-- a table, a protected page stands at one place alone -/
theorem q_at (hT : q_tree n f) {p e p' e' : Nat} (hp : p < n) (hp' : p' < n) (p4 : f 5 p = 4) (p4' : f 5 p' = 4) (he : e < 8) (he' : e' < 8) (k1 : f 14 (8 * p + e) = 2 ∨ (f 14 (8 * p + e) = 1 ∧ bs f p + e < 2048)) (k2 : f 14 (8 * p' + e') = 2 ∨ (f 14 (8 * p' + e') = 1 ∧ bs f p' + e' < 2048)) (ht : tg f (8 * p + e) = tg f (8 * p' + e')) : p = p' ∧ e = e' := by
  have hN := hT.1
  have b1 := (hT.2.1 p hp p4).2.1.2.1
  have b2 := (hT.2.1 p' hp' p4').2.1.2.1
  rcases ((hT.2.1 p hp p4).2.2 e he).1 with ⟨w, -⟩ | ⟨w1, w2, w3, w4, w5⟩ | ⟨w1, w2, w3, w4, w5, w6, w7, w8, w9⟩
  · rw [w] at k1; exact absurd k1 (by simp)
  · have c1 : bs f p + e < 2048 := by
      rcases k1 with k | k
      · rw [w1] at k; exact absurd k (by decide)
      · exact k.2
    obtain ⟨x1, x2, x3⟩ := w5 c1
    rcases ((hT.2.1 p' hp' p4').2.2 e' he').1 with ⟨v, -⟩ | ⟨v1, v2, v3, v4, v5⟩ | ⟨v1, v2, v3, v4, v5, -⟩
    · rw [v] at k2; exact absurd k2 (by simp)
    · have c2 : bs f p' + e' < 2048 := by
        rcases k2 with k | k
        · rw [v1] at k; exact absurd k (by decide)
        · exact k.2
      obtain ⟨y1, y2, y3⟩ := v5 c2
      rw [← ht] at y2 y3
      rw [w2, show spn 3 = 1 from rfl] at b1
      rw [v2, show spn 3 = 1 from rfl] at b2
      have e1 := nI_inj (by omega) (by omega) (x3.symm.trans y3)
      obtain ⟨e2, e3⟩ := al_eq (s := 1) (by decide) b1.2.2 b2.2.2 he he' (by omega)
      exact ⟨q_uniq hT 3 p p' hp hp' p4 p4' (x2.symm.trans y2) w2 v2 e2, e3⟩
    · rw [← ht, x1] at v5; exact absurd v5 (by decide)
  · rcases ((hT.2.1 p' hp' p4').2.2 e' he').1 with ⟨v, -⟩ | ⟨v1, v2, v3, v4, v5⟩ | ⟨v1, v2, v3, v4, v5, v6, v7, v8, v9⟩
    · rw [v] at k2; exact absurd k2 (by simp)
    · have c2 : bs f p' + e' < 2048 := by
        rcases k2 with k | k
        · rw [v1] at k; exact absurd k (by decide)
        · exact k.2
      have y1 := (v5 c2).1
      rw [← ht, w5] at y1; exact absurd y1 (by decide)
    · rw [← ht] at v6 v7 v8
      have l : lv f p' = lv f p := by omega
      rw [l] at b2 v8
      obtain ⟨e2, e3⟩ := al_eq (spn_pos (lv f p)).1 b1.2.2 b2.2.2 he he' (by omega)
      exact ⟨q_uniq hT (lv f p) p p' hp hp' p4 p4' (w6.symm.trans v6) rfl l e2, e3⟩
theorem f3n {lo hi b j : Nat} {x y z : Int32} (h : (b ≠ 14 ∧ b ≠ 15 ∧ b ≠ 16) ∨ j < lo ∨ hi ≤ j) : f_3 f lo hi x y z b j = f b j := by
  unfold f_3
  by_cases q : lo ≤ j ∧ j < hi
  · rw [if_pos q, if_neg (by omega), if_neg (by omega), if_neg (by omega)]
  · rw [if_neg q]
theorem f3a {lo hi j : Nat} {x y z : Int32} (h : lo ≤ j ∧ j < hi) : f_3 f lo hi x y z 14 j = x ∧ f_3 f lo hi x y z 15 j = y ∧ f_3 f lo hi x y z 16 j = z := by
  unfold f_3
  rw [if_pos h, if_pos h, if_pos h]; exact ⟨rfl, rfl, rfl⟩
def clr (M : mM) (a : Nat) (r : Int32) : mM := h_si (h_sr (h_sr M a 3 0) a 4 0) a 2 r
theorem C_clear {M : mM} {a : Nat} (h : h_k M a = 2) (r : Int32) : ev 15 0 [some (.inr a), some (.inl r)] [] M = some (none, clr M a r) := by
  simp only [e_15_0, c_I, c_R, c_V, if_true, if_false, true_and, and_true, true_or, or_true, List.length_nil, List.length_cons, Nat.zero_le, k_si, l_si, r_si, k_sr, l_sr, i_sr, n_si, ar_si, ar_sr, ar_0, h]
  rfl
theorem clr_i {a x k : Nat} {r : Int32} (h : x ≠ a ∨ k ≠ 2) : h_i (clr M a r) x k = h_i M x k := by unfold clr; rw [I_si, f_s_ne h]; rfl
theorem clr_i2 {a : Nat} {r : Int32} : h_i (clr M a r) a 2 = r := by unfold clr; rw [I_si, f_s_eq]
theorem clr_r {a x k : Nat} {r : Int32} (h : x ≠ a ∨ (k ≠ 3 ∧ k ≠ 4)) : h_r (clr M a r) x k = h_r M x k := by unfold clr; rw [Q_si, Q_sr, Q_sr, r_s_ne (by omega), r_s_ne (by omega)]
theorem clr_r3 {a : Nat} {r : Int32} : h_r (clr M a r) a 3 = 0 ∧ h_r (clr M a r) a 4 = 0 := by unfold clr; rw [Q_si, Q_sr, Q_sr, r_s_ne (by omega), r_s_eq]; exact ⟨rfl, r_s_eq⟩
/-- a page, a table is taken back -/
theorem W_take (h : Rel n M f ρ τ κ) {d o p e c : Nat} {w r : Int32} (hd : d < n) (ho : o < n) (o2 : f 5 o = 2) (hp : p < n) (p4 : f 5 p = 4) (p7 : f 7 p = nI o) (he : e < 8) (hwc : (w = 4 ∧ c = 6) ∨ (w = 5 ∧ c = 7)) (d5 : f 5 d = w) (htg : f 15 (8 * p + e) = nI d) (hk : (w = 4 ∧ f 14 (8 * p + e) = 2 ∧ ∀ e', e' < 8 → f 14 (8 * d + e') = 0) ∨ (w = 5 ∧ f 14 (8 * p + e) = 1 ∧ bs f p + e < 2048)) (hr : r = 0 ∨ r = 1 ∨ r = 2) (hb : 2048 ≤ bs f p + e * spn (lv f p) → r = 0) : Rel n (h_si (bcm (clr M (τ p + 2 + e) r) d 1 0 (-1)) (ρ o) c (h_i (bcm (clr M (τ p + 2 + e) r) d 1 0 (-1)) (ρ o) c - 1)) (f_3 (f_b f d 1 (-1)) (8 * p + e) (8 * p + e + 1) 0 (-1) r) ρ τ κ := by
  have hN := h.2.2.2.1.2.2.1
  have hT := h.2.2.2.1.2.2.2.2.2.1
  have hc : c = 6 ∨ c = 7 := by omega
  have w12 : ¬ w = 1 ∧ ¬ w = 2 ∧ ¬ w = 3 := by rcases hwc with ⟨rfl, -⟩ | ⟨rfl, -⟩ <;> decide
  obtain ⟨bo, bk⟩ := at_d h ho o2
  obtain ⟨bt, btk⟩ := at_t h hp p4
  have td := dj_td h hp ho p4 o2
  have kE : h_k M (τ p + 2 + e) = 2 := (((h.2.1 (τ p)).2.1 btk).2.2.2.2.2 e he).2
  have tgd : tg f (8 * p + e) = d := by unfold tg; rw [htg]; exact i_c (by omega)
  have k2 : f 14 (8 * p + e) = 2 ∨ (f 14 (8 * p + e) = 1 ∧ bs f p + e < 2048) := hk.elim (fun q => Or.inl q.2.1) (fun q => Or.inr q.2)
  have d7 : f 7 d = nI o ∧ (f 5 d = 4 → ¬ lv f d = 0) := by
    rcases ((hT.2.1 p hp p4).2.2 e he).1 with ⟨v, -⟩ | ⟨v1, v2, v3, v4, v5⟩ | ⟨v1, v2, v3, v4, v5, v6, v7, v8, v9⟩
    · rw [v] at k2; exact absurd k2 (by simp)
    · rcases k2 with k | k
      · rw [v1] at k; exact absurd k (by decide)
      · have := v5 k.2
        rw [tgd, p7] at this
        exact ⟨this.2.1, fun e4 => by rw [this.1] at e4; exact absurd e4 (by decide)⟩
    · rw [tgd] at v6 v7
      exact ⟨v6.trans p7, fun _ => by omega⟩
  have od : o ≠ d := fun q => by rw [q, d5] at o2; exact w12.2.1 o2
  have pd : p ≠ d := fun q => by
    rcases hk with ⟨a1, a2, a3⟩ | ⟨a1, -⟩
    · rw [← q] at a3; rw [a3 e he] at a2; exact absurd a2 (by decide)
    · rw [q, d5, a1] at p4; exact absurd p4 (by decide)
  -- the reference's rows
  have F5 : f_3 (f_b f d 1 (-1)) (8 * p + e) (8 * p + e + 1) 0 (-1) r 5 d = 1 := by rw [f3n (by omega), fb5]
  have F6 : ∀ k, k < 32 → f_3 (f_b f d 1 (-1)) (8 * p + e) (8 * p + e + 1) 0 (-1) r 6 (32 * d + k) = 0 := fun k hk => by rw [f3n (by omega), fb6 hk]
  have Fn : ∀ b i, i ≠ d → b ≠ 6 → b ≠ 14 → b ≠ 15 → b ≠ 16 → f_3 (f_b f d 1 (-1)) (8 * p + e) (8 * p + e + 1) 0 (-1) r b i = f b i := fun b i h1 h2 h3 h4 h5 => by rw [f3n (by omega), fbn (by omega) (by omega) (by omega)]
  have Fr : ∀ b, b ≠ 5 → b ≠ 6 → b ≠ 7 → b ≠ 14 → b ≠ 15 → b ≠ 16 → f_3 (f_b f d 1 (-1)) (8 * p + e) (8 * p + e + 1) 0 (-1) r b = f b := fun b h1 h2 h3 h4 h5 h6 => funext fun i => by rw [f3n (by omega), fbn (by omega) (by omega) (by omega)]
  have F6n : ∀ i k, i ≠ d → k < 32 → f_3 (f_b f d 1 (-1)) (8 * p + e) (8 * p + e + 1) 0 (-1) r 6 (32 * i + k) = f 6 (32 * i + k) := fun i k h1 h2 => by rw [f3n (by omega), fbn (by omega) (by omega) (by omega)]
  have FE : ∀ i e', e' < 8 → ¬ (i = p ∧ e' = e) → f_3 (f_b f d 1 (-1)) (8 * p + e) (8 * p + e + 1) 0 (-1) r 14 (8 * i + e') = f 14 (8 * i + e') ∧ f_3 (f_b f d 1 (-1)) (8 * p + e) (8 * p + e + 1) 0 (-1) r 15 (8 * i + e') = f 15 (8 * i + e') ∧ f_3 (f_b f d 1 (-1)) (8 * p + e) (8 * p + e + 1) 0 (-1) r 16 (8 * i + e') = f 16 (8 * i + e') := fun i e' h1 h2 => by
    rw [f3n (by omega), f3n (by omega), f3n (by omega), fbn (by omega) (by omega) (by omega), fbn (by omega) (by omega) (by omega), fbn (by omega) (by omega) (by omega)]; exact ⟨rfl, rfl, rfl⟩
  have FJ := f3a (f := f_b f d 1 (-1)) (lo := 8 * p + e) (hi := 8 * p + e + 1) (j := 8 * p + e) (x := 0) (y := -1) (z := r) (by omega)
  generalize f_3 (f_b f d 1 (-1)) (8 * p + e) (8 * p + e + 1) 0 (-1) r = F at F5 F6 Fn Fr F6n FE FJ ⊢
  have F12 := Fn 12 p pd (by decide) (by decide) (by decide) (by decide)
  have F13 := Fn 13 p pd (by decide) (by decide) (by decide) (by decide)
  have hl : lv F p = lv f p := by unfold lv; rw [F12]
  have hbs : bs F p = bs f p := by unfold bs; rw [F13]
  have hj : ∀ j, j < n → j ≠ d → F 5 j = f 5 j ∧ F 7 j = f 7 j := fun j _ jd => ⟨Fn 5 j jd (by decide) (by decide) (by decide) (by decide), Fn 7 j jd (by decide) (by decide) (by decide) (by decide)⟩
  have hq : q_ref n F := by
    refine q_ent h.2.2.2.1 (d := d) (p0 := p) (e0 := e) (fun _ => by rw [d5]; exact w12.2.1) (fun _ => by rw [F5]; decide) (by rw [Fr 4 (by decide) (by decide) (by decide) (by decide) (by decide) (by decide)]) (by rw [Fr 4 (by decide) (by decide) (by decide) (by decide) (by decide) (by decide)]; exact h.2.2.2.1.2.2.2.1) (Fr 3 (by decide) (by decide) (by decide) (by decide) (by decide) (by decide)) (fun i _ id => ⟨(hj i ‹_› id).1, (hj i ‹_› id).2, Fn 9 i id (by decide) (by decide) (by decide) (by decide), Fn 12 i id (by decide) (by decide) (by decide) (by decide), Fn 13 i id (by decide) (by decide) (by decide) (by decide), Fn 27 i id (by decide) (by decide) (by decide) (by decide)⟩) (fun i e' _ _ he' ne => FE i e' he' ne) (fun _ => d7.2) (fun p' e' hp' he' p4' ne _ kk q => ?_) (fun g p' e' hg gd hp' he' p4' w1 kk q => ?_) (fun _ => ⟨fun q => by rw [F5] at q; exact absurd q (by decide), fun q => by rw [F5] at q; exact absurd q (by decide), fun q => by rw [F5] at q; exact absurd q (by decide)⟩) (fun _ _ _ _ => ⟨Or.inl ⟨FJ.1, FJ.2.1⟩, ?_, ?_⟩)
    · exact ne (q_at hT hp' hp p4' p4 he' he kk k2 (q.trans tgd.symm))
    · rcases w1 with w1 | ⟨rfl, rfl⟩
      · subst w1
        rcases hk with ⟨a1, a2, a3⟩ | ⟨a1, -⟩
        · rw [a3 e' he'] at kk; exact absurd kk (by simp)
        · rw [d5, a1] at p4'; exact absurd p4' (by decide)
      · rw [htg] at q; exact gd (nI_inj (by omega) (by omega) q).symm
    · rw [FJ.2.2]; exact hr
    · rw [FJ.2.2, hl, hbs]; exact hb
  have cX : ∀ i, i < n → ∀ w' : Int32, w' ≠ 1 → ¬ (w' = w ∧ i = o) → cn n F w' i = cn n f w' i := fun i hi w' h1 h2 => cn_off hj (fun q => h2 ⟨by rw [← q.1, d5], nI_inj (by omega) (by omega) (by rw [← q.2, d7.1])⟩) (fun q => h1 (by rw [← q.1, F5]))
  have cM : cn n f w o = cn n F w o + 1 := cn_more hd (fun q => by rw [F5] at q; exact w12.1 q.1.symm) ⟨d5, d7.1⟩ (fun j hj' jd => ⟨(hj j hj' jd).1.symm, (hj j hj' jd).2.symm⟩)
  obtain ⟨z1, z2, z3, z4, z5, z6, z7, z8, z9, z10⟩ := h.2.2.2.2.2.2.1 o ho o2
  -- the class's cells
  have hv : h_i (bcm (clr M (τ p + 2 + e) r) d 1 0 (-1)) (ρ o) c = h_i M (ρ o) c := by
    rw [b_i (by unfold G_; omega) (by unfold Wd; omega), clr_i (by omega)]
  rw [hv]
  have hI : ∀ x k, x ≠ G_ d → x ≠ Wd d → (x ≠ τ p + 2 + e ∨ k ≠ 2) → ¬ (x = ρ o ∧ k = c) → h_i (h_si (bcm (clr M (τ p + 2 + e) r) d 1 0 (-1)) (ρ o) c (h_i M (ρ o) c - 1)) x k = h_i M x k := fun x k h1 h2 h3 h4 => by
    rw [I_si, f_s_ne (by omega), b_i (fun q => h1 q.1) (fun q => h2 q.1), clr_i h3]
  have hR : ∀ x k, ¬ (x = G_ d ∧ (k = 3 ∨ k = 5 ∨ k = 6)) → x ≠ τ p + 2 + e → h_r (h_si (bcm (clr M (τ p + 2 + e) r) d 1 0 (-1)) (ρ o) c (h_i M (ρ o) c - 1)) x k = h_r M x k := fun x k h1 h3 => by
    rw [Q_si, b_r h1, clr_r (Or.inl h3)]
  have ha : h_i (h_si (bcm (clr M (τ p + 2 + e) r) d 1 0 (-1)) (ρ o) c (h_i M (ρ o) c - 1)) (τ p + 2 + e) 2 = r ∧ h_r (h_si (bcm (clr M (τ p + 2 + e) r) d 1 0 (-1)) (ρ o) c (h_i M (ρ o) c - 1)) (τ p + 2 + e) 3 = 0 ∧ h_r (h_si (bcm (clr M (τ p + 2 + e) r) d 1 0 (-1)) (ρ o) c (h_i M (ρ o) c - 1)) (τ p + 2 + e) 4 = 0 := by
    rw [I_si, Q_si, f_s_ne (by omega), b_i (by unfold G_; omega) (by unfold Wd; omega), clr_i2, b_r (by unfold G_; omega), b_r (by unfold G_; omega)]
    exact ⟨rfl, clr_r3⟩
  have hz : h_i (h_si (bcm (clr M (τ p + 2 + e) r) d 1 0 (-1)) (ρ o) c (h_i M (ρ o) c - 1)) (G_ d) 2 = 1 ∧ h_i (h_si (bcm (clr M (τ p + 2 + e) r) d 1 0 (-1)) (ρ o) c (h_i M (ρ o) c - 1)) (G_ d) 4 = -1 ∧ h_i (h_si (bcm (clr M (τ p + 2 + e) r) d 1 0 (-1)) (ρ o) c (h_i M (ρ o) c - 1)) (G_ d) 0 = nI d ∧ h_r (h_si (bcm (clr M (τ p + 2 + e) r) d 1 0 (-1)) (ρ o) c (h_i M (ρ o) c - 1)) (G_ d) 3 = 0 ∧ h_r (h_si (bcm (clr M (τ p + 2 + e) r) d 1 0 (-1)) (ρ o) c (h_i M (ρ o) c - 1)) (G_ d) 5 = 0 ∧ h_r (h_si (bcm (clr M (τ p + 2 + e) r) d 1 0 (-1)) (ρ o) c (h_i M (ρ o) c - 1)) (G_ d) 6 = 0 ∧ ∀ k, k < 32 → h_i (h_si (bcm (clr M (τ p + 2 + e) r) d 1 0 (-1)) (ρ o) c (h_i M (ρ o) c - 1)) (Wd d) k = 0 := by
    simp only [I_si, Q_si]
    refine ⟨?_, ?_, ?_, b_r3, b_r5, b_r6, fun k hk => ?_⟩
    · rw [f_s_ne (by unfold G_; omega), b_i2]
    · rw [f_s_ne (by unfold G_; omega), b_i4]
    · rw [f_s_ne (by unfold G_; omega), b_i (by omega) (by unfold G_ Wd; omega), clr_i (by unfold G_; omega)]
      exact (h.2.2.2.2.2.1 d hd).1
    · rw [f_s_ne (by unfold Wd; omega), b_iw hk]
  have hO : h_i (h_si (bcm (clr M (τ p + 2 + e) r) d 1 0 (-1)) (ρ o) c (h_i M (ρ o) c - 1)) (ρ o) c = h_i M (ρ o) c - 1 := by rw [I_si, f_s_eq]
  have hkk : h_k (h_si (bcm (clr M (τ p + 2 + e) r) d 1 0 (-1)) (ρ o) c (h_i M (ρ o) c - 1)) = h_k M := rfl
  have hll : h_l (h_si (bcm (clr M (τ p + 2 + e) r) d 1 0 (-1)) (ρ o) c (h_i M (ρ o) c - 1)) = h_l M := rfl
  have hnn : h_n (h_si (bcm (clr M (τ p + 2 + e) r) d 1 0 (-1)) (ρ o) c (h_i M (ρ o) c - 1)) = h_n M := rfl
  generalize h_si (bcm (clr M (τ p + 2 + e) r) d 1 0 (-1)) (ρ o) c (h_i M (ρ o) c - 1) = M' at hI hR ha hz hO hkk hll hnn ⊢
  refine W_de h (d := d) (o := o) (p := p) (e := e) ho o2 od pd (fun _ => p4) he ?_ (fun x _ => by rw [hkk]) (fun x k _ _ a b q => hI x k (a hd).1 (a hd).2 (Or.inl (b hp)) (by omega)) (fun x k _ a b => hR x k (fun q => a hd q.1) (b hp)) (fun _ _ _ => rfl) (fun _ _ _ => rfl) (fun _ _ _ => rfl) hq (fun _ => by rw [F5]; decide) (Fr 4 (by decide) (by decide) (by decide) (by decide) (by decide) (by decide)) (fun b i _ id _ _ b6 _ b14 b15 b16 _ _ => Fn b i id b6 b14 b15 b16) (fun i k _ id hk => F6n i k id hk) (fun i k _ _ _ => by rw [Fr 11 (by decide) (by decide) (by decide) (by decide) (by decide) (by decide)]) (fun i k _ _ _ => by rw [Fr 19 (by decide) (by decide) (by decide) (by decide) (by decide) (by decide)]) (fun i e' _ _ he' ne => FE i e' he' ne) (fun i hi io _ => ⟨cX i hi 3 (by decide) (by omega), cX i hi 4 (by decide) (by omega), cX i hi 5 (by decide) (by omega)⟩) (fun _ q => by rw [d5] at q; exact absurd q w12.2.2) (fun _ => ?_) (fun _ => ?_) ?_ ?_ ?_ ?_
  · exact BX_r h.1 h.2.1 hkk hll hnn (fun x k _ h2 h3 => hR x k (fun q => h2 ⟨by rw [q.1]; exact (h.1.2.2.2.2.1 d hd).2.1, by omega⟩) (fun q => h3 (by rw [q]; exact kE)))
  · have a := z_free (n := n) (M' := M') (f' := F) (ρ' := ρ) (τ' := τ) (κ' := κ) hz.2.2.1 (by rw [hz.1, F5]) (by rw [F5]; simp) hz.2.1 hz.2.2.2.1 hz.2.2.2.2.1 hz.2.2.2.2.2.1 (fun k hk => by rw [hz.2.2.2.2.2.2 k hk, F6 k hk])
    exact ⟨a.1, a.2.2⟩
  · obtain ⟨y1, y2, y3, y4, y5⟩ := (h.2.2.2.2.2.2.2.1 p hp p4).2.2.2 e he
    unfold z_e
    rw [hI _ 0 (by unfold G_; omega) (by unfold Wd; omega) (by omega) (by omega), hI _ 1 (by unfold G_; omega) (by unfold Wd; omega) (by omega) (by omega), ha.1, ha.2.1, ha.2.2, FJ.1, FJ.2.2, F12, hl, hbs]
    exact ⟨y1, y2, rfl, by simp, by simp⟩
  · rw [hI _ 4 (by unfold G_; omega) (by unfold Wd; omega) (by omega) (by omega), cX o ho 3 (by decide) (by rcases hwc with ⟨rfl, -⟩ | ⟨rfl, -⟩ <;> simp <;> decide)]; exact z6
  · rw [hI _ 5 (by unfold G_; omega) (by unfold Wd; omega) (by omega) (by omega), Fn 10 o od (by decide) (by decide) (by decide) (by decide)]; exact z7
  · rcases hwc with ⟨rfl, rfl⟩ | ⟨rfl, rfl⟩
    · rw [hO, z8, cM, show (1 : Int32) = nI 1 from rfl, pk_sub (by omega), Nat.add_sub_cancel]
    · rw [hI _ 6 (by unfold G_; omega) (by unfold Wd; omega) (by omega) (by omega), cX o ho 4 (by decide) (by simp)]; exact z8
  · rcases hwc with ⟨rfl, rfl⟩ | ⟨rfl, rfl⟩
    · rw [hI _ 7 (by unfold G_; omega) (by unfold Wd; omega) (by omega) (by omega), cX o ho 5 (by decide) (by simp)]; exact z9
    · rw [hO, z9, cM, show (1 : Int32) = nI 1 from rfl, pk_sub (by omega), Nat.add_sub_cancel]
end E
