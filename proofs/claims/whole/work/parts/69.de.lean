/-! a granule d, an entry e of a table p, the numbers of a realm o change -/
section E
variable {n : Nat} {M M' : mM} {f f' : Nat → Nat → Int32} {ρ τ κ ρ' τ' κ' : Nat → Nat}
theorem W_de (h : Rel n M f ρ τ κ) {d o p e : Nat} (ho : o < n) (o2 : f 5 o = 2) (od : o ≠ d) (pd : p ≠ d) (hp4 : p < n → f 5 p = 4) (he : e < 8) (hBX : B_sh n M' ∧ X_sh n M') (hk : ∀ x, x ≤ h_n M → h_k M' x = h_k M x)
    (hI : ∀ x k, x ≤ h_n M → ¬ (5 ≤ x ∧ x ≤ 9) → (d < n → x ≠ G_ d ∧ x ≠ Wd d) → (p < n → x ≠ τ p + 2 + e) → ¬ (x = ρ o ∧ 4 ≤ k ∧ k ≤ 7) → h_i M' x k = h_i M x k)
    (hR : ∀ x k, x ≤ h_n M → (d < n → x ≠ G_ d) → (p < n → x ≠ τ p + 2 + e) → h_r M' x k = h_r M x k)
    (hρ : ∀ j, j < n → f 5 j = 2 → ρ' j = ρ j) (hτ : ∀ j, j < n → f 5 j = 4 → τ' j = τ j) (hκ : ∀ j, j < n → f 5 j = 3 → κ' j = κ j) (hq : q_ref n f') (hd2 : d < n → ¬ f' 5 d = 2) (f4 : f' 4 = f 4)
    (hrow : ∀ b i, i < n → i ≠ d → 5 ≤ b → b ≤ 27 → b ≠ 6 → b ≠ 11 → b ≠ 14 → b ≠ 15 → b ≠ 16 → b ≠ 19 → (b = 10 → i ≠ o) → f' b i = f b i) (h6 : ∀ i k, i < n → i ≠ d → k < 32 → f' 6 (32 * i + k) = f 6 (32 * i + k)) (h11 : ∀ i k, i < n → i ≠ d → k < 40 → f' 11 (40 * i + k) = f 11 (40 * i + k)) (h19 : ∀ i k, i < n → i ≠ d → k < 8 → f' 19 (8 * i + k) = f 19 (8 * i + k))
    (h14 : ∀ i e', i < n → i ≠ d → e' < 8 → ¬ (i = p ∧ e' = e) → f' 14 (8 * i + e') = f 14 (8 * i + e') ∧ f' 15 (8 * i + e') = f 15 (8 * i + e') ∧ f' 16 (8 * i + e') = f 16 (8 * i + e'))
    (hcn : ∀ i, i < n → i ≠ o → f 5 i = 2 → cn n f' 3 i = cn n f 3 i ∧ cn n f' 4 i = cn n f 4 i ∧ cn n f' 5 i = cn n f 5 i) (hrun : d < n → f 5 d = 3 → ¬ f 4 2 = nI d)
    (hzd : d < n → z_g M' f' ρ' τ' κ' d ∧ (f' 5 d = 4 → z_t M' f' τ' d) ∧ (f' 5 d = 3 → z_c M' f' ρ' κ' d)) (hze : p < n → z_e M' f' τ' p e)
    (c4 : h_i M' (ρ o) 4 = nI (cn n f' 3 o)) (c5 : h_i M' (ρ o) 5 = f' 10 o) (c6 : h_i M' (ρ o) 6 = nI (cn n f' 4 o)) (c7 : h_i M' (ρ o) 7 = nI (cn n f' 5 o)) : Rel n M' f' ρ' τ' κ' := by
  have hN := h.2.2.2.1.2.2.1
  have hnn := h.1.2.2.2.2.2.1
  obtain ⟨bo, bk⟩ := at_d h ho o2
  have bx := ((h.2.1 (ρ o)).1 bk).2.1
  have op : p < n → o ≠ p := fun a q => by rw [q, hp4 a] at o2; exact absurd o2 (by decide)
  have tp : p < n → 10 + 2 * n < τ p ∧ τ p + 9 ≤ h_n M := fun a => ⟨(at_t h a (hp4 a)).1, ((h.2.1 (τ p)).2.1 (at_t h a (hp4 a)).2).2.1⟩
  have td : p < n → τ p + 10 ≤ ρ o ∨ ρ o + 7 ≤ τ p := fun a => dj_td h a ho (hp4 a) o2
  have sml : ∀ x k, x ≤ 10 + 2 * n → ¬ (5 ≤ x ∧ x ≤ 9) → (d < n → x ≠ G_ d ∧ x ≠ Wd d) → h_i M' x k = h_i M x k := fun x k h1 h2 h3 => hI x k (by omega) h2 h3 (fun a => by have := tp a; omega) (by omega)
  have smr : ∀ x k, x ≤ 10 + 2 * n → (d < n → x ≠ G_ d) → h_r M' x k = h_r M x k := fun x k h1 h3 => hR x k (by omega) h3 (fun a => by have := tp a; omega)
  have r5 : ∀ i, i < n → i ≠ d → f' 5 i = f 5 i := fun i hi hd => hrow 5 i hi hd (by omega) (by omega) (by omega) (by omega) (by omega) (by omega) (by omega) (by omega) (by omega)
  have rr : ∀ b i, i < n → i ≠ d → (b = 7 ∨ b = 8 ∨ b = 9 ∨ b = 12 ∨ b = 13 ∨ b = 17 ∨ b = 26 ∨ b = 27) → f' b i = f b i := fun b i hi hd hb => hrow b i hi hd (by omega) (by omega) (by omega) (by omega) (by omega) (by omega) (by omega) (by omega) (by omega)
  have zgk : ∀ i, i < n → i ≠ d → z_g M' f' ρ' τ' κ' i := fun i hi hd => by
    have g1 : d < n → G_ i ≠ G_ d ∧ G_ i ≠ Wd d := fun _ => ⟨fun q => hd (G_inj q), by unfold G_ Wd; omega⟩
    have g2 : d < n → Wd i ≠ G_ d ∧ Wd i ≠ Wd d := fun _ => ⟨by unfold G_ Wd; omega, by unfold Wd; omega⟩
    refine zg_keep (h.2.2.2.2.2.1 i hi) (fun k _ => sml _ k (by unfold G_; omega) (by unfold G_; omega) g1) (fun k => smr _ k (by unfold G_; omega) (fun a => (g1 a).1)) (fun k _ => sml _ k (by unfold Wd; omega) (by unfold Wd; omega) g2) (r5 i hi hd) (fun k hk' => h6 i k hi hd hk') (rr 7 i hi hd (by omega)) (rr 12 i hi hd (by omega)) (rr 17 i hi hd (by omega)) (rr 27 i hi hd (by omega)) (fun a => hρ i hi a) (fun a => ?_) (fun a => hτ i hi a) (fun a => hκ i hi a)
    have b : q_own n f i := by
      rcases a with a | a | a
      · exact h.2.2.2.1.2.2.2.2.2.2.2.1 i hi a
      · exact (h.2.2.2.1.2.2.2.2.2.1.2.1 i hi a).1
      · exact (h.2.2.2.1.2.2.2.2.2.2.1 i hi a).1
    exact hρ _ b.1 b.2.2
  refine Rel_tr h (fun i => i = d ∨ i = o ∨ i = p) hBX ?_ hq ?_ hk (fun y k hy => ?_) (fun j hj a _ => hρ j hj a) (fun j hj a _ => hτ j hj a) (fun j hj _ a => hκ j hj a) (fun b i hi hs h5 h27 a6 a11 a14 a15 a16 a19 a26 => hrow b i hi (by omega) h5 h27 a6 a11 a14 a15 a16 a19 (by omega)) (fun i k hi hs hk' => h6 i k hi (by omega) hk') (fun i k hi hs hk' => h11 i k hi (by omega) hk') (fun b i e' hi hs he' b1 b2 => ?_) (fun i k hi hs hk' => h19 i k hi (by omega) hk') (fun i hi hs h2 => hcn i hi (by omega) h2) (fun i hi hs => ?_)
  · exact ⟨fun i hi => (sml 1 i (by omega) (by omega) (fun _ => by unfold G_ Wd; omega)).trans (h.2.2.1.1 i hi), fun i hi => (sml 2 i (by omega) (by omega) (fun _ => by unfold G_ Wd; omega)).trans (h.2.2.1.2 i hi)⟩
  · refine zh_keep h (fun k => sml 4 k (by omega) (by omega) (fun _ => by unfold G_ Wd; omega)) (smr 4 3 (by omega) (fun _ => by unfold G_; omega)) f4 (fun r hr1 r3 r4 => ?_)
    have rd : r ≠ d := fun q => by subst q; exact hrun hr1 r3 r4
    have ac := at_c h hr1 r3
    have ax := ((h.2.1 (κ r)).2.2 ac.2).2.1
    exact ⟨by rw [r5 r hr1 rd]; exact r3, hκ r hr1 r3, rr 26 r hr1 rd (by omega), hR _ 9 (by omega) (fun a => by unfold G_; omega) (fun a => by have := dj_tc h a hr1 (hp4 a) r3; omega)⟩
  · have t0 := ntc_n hy
    have t2 := (ntc_i hy ho (Or.inr (Or.inl rfl))).2.2.1 o2
    have t1 : d < n → y ≠ G_ d ∧ y ≠ Wd d := fun a => ⟨(ntc_i hy a (Or.inl rfl)).1, (ntc_i hy a (Or.inl rfl)).2.1⟩
    have t3 : p < n → y ≠ τ p + 2 + e := fun a => by have := (ntc_i hy a (Or.inr (Or.inr rfl))).2.2.2.1 (hp4 a); omega
    exact ⟨hI y k t0.1 (by omega) t1 t3 (by omega), hR y k t0.1 (fun a => (t1 a).1) t3⟩
  · have a := h14 i e' hi (by omega) he' (by omega)
    rcases (show b = 14 ∨ b = 15 ∨ b = 16 by omega) with rfl | rfl | rfl
    · exact a.1
    · exact a.2.1
    · exact a.2.2
  · rcases hs with rfl | rfl | rfl
    · have a := hzd hi
      exact ⟨a.1, fun e2 => absurd e2 (hd2 hi), a.2.1, a.2.2⟩
    · have z5 : f' 5 i = 2 := (r5 i hi od).trans o2
      refine ⟨zgk i hi od, fun _ => zd_keep (h.2.2.2.2.2.2.1 i hi o2) (hρ i hi o2) (hk _ (by omega)) (fun k => hR _ k (by omega) (fun a => by unfold G_; omega) (fun a => by have := td a; omega)) (hI _ 3 (by omega) (by omega) (fun a => by unfold G_ Wd; omega) (fun a => by have := td a; omega) (by omega)) (fun q k _ _ => hI _ k (by omega) (by omega) (fun a => by unfold G_ Wd; omega) (fun a => by have := td a; omega) (by omega)) ?_ (rr 8 i hi od (by omega)) (rr 9 i hi od (by omega)) (fun k hk' => h11 i k hi od hk') c4 c5 c6 c7, fun e2 => by rw [z5] at e2; exact absurd e2 (by decide), fun e2 => by rw [z5] at e2; exact absurd e2 (by decide)⟩
      obtain ⟨t, t1, t2, t3, -⟩ := h.2.2.2.1.2.2.2.2.2.1.2.2 i hi o2
      have e9 : rt f i = t := by unfold rt; rw [t2]; exact i_c (by omega)
      rw [e9]; exact hτ t t1 t3
    · have p4 := hp4 hi
      have z5 : f' 5 i = 4 := (r5 i hi pd).trans p4
      have tpi := tp hi
      have tdi := td hi
      refine ⟨zgk i hi pd, fun e2 => by rw [z5] at e2; exact absurd e2 (by decide), fun _ => zt_keep (e0 := e) (h.2.2.2.2.2.2.2.1 i hi p4) (hτ i hi p4) (hk _ (by omega)) (hR _ 0 (by omega) (fun a => by unfold G_; omega) (fun a => by omega)) (hI _ 1 (by omega) (by omega) (fun a => by unfold G_ Wd; omega) (fun a => by omega) (by omega)) (fun e' k he' ne => hI _ k (by omega) (by omega) (fun a => by unfold G_ Wd; omega) (fun a => by omega) (by omega)) (fun e' k he' ne => hR _ k (by omega) (fun a => by unfold G_; omega) (fun a => by omega)) (rr 12 i hi pd (by omega)) (rr 13 i hi pd (by omega)) (fun e' he' ne => h14 i e' hi pd he' (by omega)) (fun e' he' ne e2 => ?_) (fun _ => hze hi), fun e2 => by rw [z5] at e2; exact absurd e2 (by decide)⟩
      rcases ((h.2.2.2.1.2.2.2.2.2.1.2.1 i hi p4).2.2 e' he').1 with ⟨w, -⟩ | ⟨w, -⟩ | ⟨-, -, w3, -, w5, -⟩
      · rw [w] at e2; exact absurd e2 (by decide)
      · rw [w] at e2; exact absurd e2 (by decide)
      · exact hτ _ w3 w5
end E
