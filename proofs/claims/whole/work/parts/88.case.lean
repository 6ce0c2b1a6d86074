theorem R_hn (f : Nat → Nat → Int32) : h_n (mkR f) = 30 := rfl
theorem R_hv (f : Nat → Nat → Int32) : h_v (mkR f) = 10368 := rfl
section LW
variable {p : Program} {l : Launch} {e : Env} {s : State} {m : MethodId} {below : List Frame} {meth : Method} {c : Code} {H : Heap} {locs : List Loc} {cells slots : Nat} {Q : State → Prop} {D : va_G} {cs : Nat → ClassId} {ad0 ad1 ad2 : Nat → Nat} {M1 M2 : mM} {pc : Nat} {ls : Array Slot} {rest : List Value} {b L : Nat} {xs : Nat → Int32}
/-- the arguments of a case -/
theorem lw_push (C0 : lw_At p s m meth c b L xs) (hS : va_S (fun q => s.heap.size ≤ q) s.heap H locs) {i : Nat} (hL : L ≤ 2561) (h0 : ls[0]? = some (.val (.ref b))) (h3 : ls[3]? = some (.val (.int (nI i)))) {pc : Nat} : ∀ (k : Nat), k ≤ 4 → i + k < L → c_arg pc k = true → W p l e room_1 s m #[Value.ref b] below meth c H locs cells slots Q (F0 m (pc + 5 * k) ls (((List.range k).map (fun a => Value.int (xs (i + 1 + a)))).reverse ++ rest)) → W p l e room_1 s m #[Value.ref b] below meth c H locs cells slots Q (F0 m pc ls rest) := by
  obtain ⟨hx, hb, hr, hml, hown, hts, hX, hbl, hlocks, hgv⟩ := C0
  have hbA : ¬ (fun q : Nat => s.heap.size ≤ q) b := Nat.not_le.mpr hbl
  intro k
  induction k with
  | zero => intro _ _ _ kk; exact kk
  | succ k ih =>
    intro hk hi hc kk
    unfold c_arg at hc
    rw [List.range_succ, List.all_append, Bool.and_eq_true] at hc
    obtain ⟨hc1, hc2⟩ := hc
    simp only [List.all_cons, List.all_nil, Bool.and_true, Bool.and_eq_true, decide_eq_true_eq] at hc2
    obtain ⟨⟨⟨⟨d1, d2⟩, d3⟩, d4⟩, d5⟩ := hc2
    refine ih (by omega) (by omega) hc1 ?_
    refine lv_aload_n hx hb d1 rfl h0 ?_
    refine lv_iload_n hx hb d2 rfl h3 ?_
    refine lv_iconst (v := nI (k + 1)) hx hb d3 (by rcases (show k = 0 ∨ k = 1 ∨ k = 2 ∨ k = 3 by omega) with rfl | rfl | rfl | rfl <;> rfl) ?_
    refine lv_iadd hx hb d4 ?_
    rw [nI_add]
    refine va_sld hx hb hX hbl hbA hS (i := nI (i + (k + 1))) (vp_in_nI (by omega) (by omega)) d5 ?_
    rw [i_c (show i + (k + 1) < 2 ^ 31 by omega)]
    rw [List.range_succ, List.map_append, List.reverse_append] at kk
    rw [show pc + 5 * (k + 1) = pc + 5 * k + 4 + 1 by omega] at kk
    rw [show i + (k + 1) = i + 1 + k by omega]
    exact kk
theorem c_met_l {k j ix wi : Nat} {C : String} (h : c_met k j ix wi C = true) : j < 185 ∧ Cond.methodLink R_law ix (h_mt j).1 ∈ s_ws ∧ Cond.instanceMethod (h_mt j).1 ∈ s_ws ∧ Cond.selects (h_mt j).1.cls (h_mt j).1 (h_mt j).1 ∈ s_ws ∧ C = (h_mt j).1.cls ∧ k = o_ps (h_mt j).1 ∧ k + 1 ≤ (h_cd j).2 ∧ (h_mt j).2.2.2.1 ≤ 20 := by
  unfold c_met at h
  simp only [Bool.and_eq_true, decide_eq_true_eq] at h
  obtain ⟨⟨⟨⟨⟨⟨⟨h1, h2⟩, h3⟩, h4⟩, h5⟩, h6⟩, h7⟩, h8⟩ := h
  exact ⟨h1, o_w_in h2 rfl, o_w_in h3 rfl, o_w_in h4 rfl, h5, h6, h7, h8⟩
def c_as (k : Nat) (g : Nat → Int32) : List mV := (List.range k).map (fun a => .inl (g a))
theorem c_as_len (k : Nat) (g : Nat → Int32) : (c_as k g).length = k := by unfold c_as; rw [List.length_map, List.length_range]
theorem c_as_map (k : Nat) (g : Nat → Int32) (ad : Nat → Nat) : (c_as k g).map (s_v ad) = (List.range k).map (fun a => Value.int (g a)) := by unfold c_as; rw [List.map_map]; rfl
theorem c_as_V {k : Nat} {g : Nat → Int32} {M : mM} : ∀ v ∈ c_as k g, w_V M v := fun v hv => by
  obtain ⟨a, -, rfl⟩ := List.mem_map.mp hv
  exact trivial
set_option maxHeartbeats 2000000 in
/-- a case of the law -/
theorem lw_case (C0 : lw_At p s m meth c b L xs) (hK : s_K D cs s) (hSt : s_S s.heap.size ad0 s s.heap) {k jc ixc wc jr ixr wr : Nat} (hq : c_ok pc k jc ixc wc jr ixr wr = true) {n : Nat} {M : mM} {f : Nat → Nat → Int32} {ρ τ κ : Nat → Nat} (hR : Rel n M f ρ τ κ) (hL2 : L2 s D cs ad0 ad1 M ad2 (mkR f) H locs) {i : Nat} (hi : i + 4 < L) (hL : L ≤ 2561)
    (hop : ∀ g : Nat → Int32, OK2 n M (ev jc 0 (a_ent (h_cd jc).2 (.inr 4 :: c_as k g)) [] M) (ev jr 0 (a_ent (h_cd jr).2 (.inr 4 :: c_as k g)) [] (mkR f)))
    (hl : lv_has ls 4 [(0, .ref b), (1, .ref (ad1 4)), (2, .ref (ad2 4)), (3, .int (nI i))]) (hcR : cells + 18 ≤ 628569) (hsR : slots + 200 ≤ 7216541)
    (kk : ∀ (ad1' ad2' : Nat → Nat) (M' : mM) (f' : Nat → Nat → Int32) (ρ' τ' κ' : Nat → Nat) (H' : Heap) (locs' : List Loc), Rel n M' f' ρ' τ' κ' → L2 s D cs ad0 ad1' M' ad2' (mkR f') H' locs' → ad1' 4 = ad1 4 → ad2' 4 = ad2 4 → W p l e room_1 s m #[Value.ref b] below meth c H' locs' (cells + 18) (slots + 200) Q (F0 m 1459 ls [])) : W p l e room_1 s m #[Value.ref b] below meth c H locs cells slots Q (F0 m pc ls []) := by
  obtain ⟨hx, hb, hr, hml, hown, hts, hX, hbl, hlocks, hgv⟩ := id C0
  unfold c_ok at hq
  simp only [Bool.and_eq_true, decide_eq_true_eq] at hq
  obtain ⟨⟨⟨⟨⟨⟨⟨⟨⟨q1, q2⟩, q3⟩, q4⟩, q5⟩, q6⟩, q7⟩, q8⟩, q9⟩, q10⟩ := hq
  obtain ⟨c1, c2, c3, c4, c5, c6, c7, c8⟩ := c_met_l q8
  obtain ⟨r1, r2, r3, r4, r5, r6, r7, r8⟩ := c_met_l q9
  obtain ⟨v, M', f', ρ', τ', κ', e1, e2, hR', n1, v1⟩ := hop (fun a => xs (i + 1 + a))
  have k7 : h_k M 4 = 6 + 1 := hR.1.2.1.1
  have n4 : 4 ≤ h_n M := by have := hR.1.2.2.2.2.2.1; omega
  have k8 : h_k (mkR f) 4 = 7 + 1 := rfl
  refine lv_aload_n hx hb q1 rfl (lv_at hl 1 rfl) ?_
  refine lw_push C0 hL2.2.2.2.2.2.2.2.1 hL (lv_at hl 0 rfl) (lv_at hl 3 rfl) k q10 (by omega) q2 ?_
  rw [← c_as_map k (fun a => xs (i + 1 + a)) ad1]
  refine lw_callV C0 hK hSt hL2 c1 (t := 6) (by decide) k7 c5 (by rw [List.length_cons, c_as_len]; exact c7) (by rw [c_as_len]; exact c6) e1 c_as_V c2 c3 c4 c8 (by simp) hl.1 q3 (by dsimp only; omega) (by dsimp only; omega) (fun ad1' H' locs' hx1 hL2' => ?_)
  dsimp only at hL2' ⊢
  refine W.widen (k := cells + 18) (n := slots + 200) (by omega) (by omega) ?_
  rw [show pc + 1 + 5 * k + 3 = pc + 4 + 5 * k by omega]
  refine lv_aload_n hx hb q4 rfl (lv_at hl 2 rfl) ?_
  rw [show pc + 4 + 5 * k + 1 = pc + 5 + 5 * k by omega]
  refine lw_push C0 hL2'.2.2.2.2.2.2.2.1 hL (lv_at hl 0 rfl) (lv_at hl 3 rfl) k q10 (by omega) q5 ?_
  rw [← c_as_map k (fun a => xs (i + 1 + a)) ad2, show pc + 5 + 5 * k + 5 * k = pc + 5 + 10 * k by omega]
  refine lw_callV C0 hK hSt hL2'.symm r1 (t := 7) (by decide) k8 r5 (by rw [List.length_cons, c_as_len]; exact r7) (by rw [c_as_len]; exact r6) e2 c_as_V r2 r3 r4 r8 (by show 1 ≤ 8; decide) hl.1 q6 (by dsimp only; rw [R_hn, R_hn]; omega) (by dsimp only; rw [R_hv, R_hv]; omega) (fun ad2' H'' locs'' hx2 hL2'' => ?_)
  dsimp only at hL2'' ⊢
  rw [show pc + 5 + 10 * k + 3 = pc + 8 + 10 * k by omega]
  refine lv_icmp_eq (x := v) (y := v) (tgt := 1459) hx hb q7 (by omega) (fun _ => ?_) (fun h => absurd rfl h)
  have := kk ad1' ad2' M' f' ρ' τ' κ' H'' locs'' hR' hL2''.symm (hx1 4 n4) (hx2 4 (by rw [R_hn]; decide))
  exact W.widen (k := cells + 18) (n := slots + 200) (by rw [R_hn, R_hn]; omega) (by rw [R_hv, R_hv]; omega) this
end LW
