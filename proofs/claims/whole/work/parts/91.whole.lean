/-! from the law's entry to its loop -/
theorem ds_0 : decode code 0 = .ok (.new 7, 3) := by decide +kernel
theorem ds_3 : decode code 3 = .ok (.dup, 1) := by decide +kernel
theorem ds_4 : decode code 4 = .ok (.aload_n 0, 1) := by decide +kernel
theorem ds_5 : decode code 5 = .ok (.iconst 0, 1) := by decide +kernel
theorem ds_6 : decode code 6 = .ok (.invokestatic 9, 3) := by decide +kernel
theorem ds_9 : decode code 9 = .ok (.invokespecial 15, 3) := by decide +kernel
theorem ds_12 : decode code 12 = .ok (.astore_n 1, 1) := by decide +kernel
theorem ds_13 : decode code 13 = .ok (.new 18, 3) := by decide +kernel
theorem ds_16 : decode code 16 = .ok (.dup, 1) := by decide +kernel
theorem ds_17 : decode code 17 = .ok (.aload_n 0, 1) := by decide +kernel
theorem ds_18 : decode code 18 = .ok (.iconst 0, 1) := by decide +kernel
theorem ds_19 : decode code 19 = .ok (.invokestatic 9, 3) := by decide +kernel
theorem ds_22 : decode code 22 = .ok (.invokespecial 20, 3) := by decide +kernel
theorem ds_25 : decode code 25 = .ok (.astore_n 2, 1) := by decide +kernel
theorem ds_26 : decode code 26 = .ok (.iconst 1, 1) := by decide +kernel
theorem ds_27 : decode code 27 = .ok (.istore_n 3, 1) := by decide +kernel
theorem lw_cg : GoodIn lw_tbl (wsS R_law 9 yL_cell w_cell) := by
  intro w hw
  simp only [wsS, w_cell, List.cons_append, List.nil_append, List.mem_cons, List.not_mem_nil, or_false] at hw
  rcases hw with rfl | rfl | rfl | rfl
  · exact ⟨by decide +kernel, Or.inl rfl⟩
  · exact ⟨by decide +kernel, Or.inl rfl⟩
  · exact ⟨by decide +kernel, Or.inl rfl⟩
  · exact ⟨by decide +kernel, Or.inl rfl⟩
theorem w_20 : w_2 M_0 := by
  refine ⟨⟨Nat.le_refl 3, fun a h => ?_, fun a h1 h2 => ?_, fun a h1 h2 => ?_, rfl, fun a k => Nat.zero_le _⟩, ⟨rfl, fun i _ => rfl⟩, ⟨rfl, fun i _ => rfl⟩, ⟨rfl, fun i _ => rfl⟩⟩
  · show a ≤ 3
    rcases Nat.lt_or_ge 3 a with q | q
    · exact absurd (show (if a = 0 then 0 else if a ≤ 3 then 14 else 0) = 0 by rw [if_neg (by omega), if_neg (by omega)]) h
    · exact q
  · show (if a = 0 then 0 else if a ≤ 3 then 14 else 0) = 14
    rw [if_neg (by omega), if_pos h2]
  · exact absurd (show a ≤ 3 from h2) (by omega)
theorem L2.kept {s : State} {D : va_G} {cs : Nat → ClassId} {ad0 ad1 ad2 : Nat → Nat} {M1 M2 : mM} {H H' : Heap} {locs locs' : List Loc} (h : L2 s D cs ad0 ad1 M1 ad2 M2 H locs) (hz : H.size ≤ H'.size) (hk : ∀ q, q < H.size → H'[q]? = H[q]?) (hl : ∀ q ∈ locs', s.heap.size ≤ q.base) : L2 s D cs ad0 ad1 M1 ad2 M2 H' locs' := by
  obtain ⟨a1, a2, a3, a4, a5, a6, a7, a8, a9⟩ := h
  exact ⟨a1, a2, a3.kept (fun k q hq => hk _ (a3 k q hq).lt), a4.kept (fun k q hq => hk _ (a4 k q hq).lt), a5, a6, a7, ⟨Nat.le_trans a8.1 hz, fun q h1 h2 => (hk q (Nat.lt_of_lt_of_le h1 a8.1)).trans (a8.2.1 q h1 h2), hl⟩, a9⟩
theorem L2.toR {s : State} {D : va_G} {cs : Nat → ClassId} {ad0 ad1 ad2 : Nat → Nat} {M1 : mM} {f : Nat → Nat → Int32} {H : Heap} {locs : List Loc} (h : L2 s D cs ad0 ad1 M1 ad2 (R_m 30 f) H locs) : L2 s D cs ad0 ad1 M1 ad2 (mkR f) H locs := by
  obtain ⟨a1, a2, a3, a4, a5, a6, a7, a8, a9⟩ := h
  rw [s_wR] at a4 a6
  exact ⟨a1, w_2R a2, a3, a4, a5, a6, a7, a8, a9⟩
section LW
variable {p : Program} {l : Launch} {e : Env} {s : State} {m : MethodId} {below : List Frame} {meth : Method} {c : Code} {H : Heap} {locs : List Loc} {cells slots : Nat} {Q : State → Prop} {D : va_G} {cs : Nat → ClassId} {ad0 ad1 ad2 : Nat → Nat} {M1 M2 : mM} {pc : Nat} {lr : Array Slot} {rest : List Value} {b L : Nat} {xs : Nat → Int32}
/-- a new object, the next cell of the first of two small heaps -/
theorem lw_new (C0 : lw_At p s m meth c b L xs) (hK : s_K D cs s) (hL : L2 s D cs ad0 ad1 M1 ad2 M2 H locs) {t i : Nat} (ht : t < 8) (hcl : Cond.classLink R_law i (s_R t) ∈ lw_tbl) (hcR : cells + 1 ≤ 628569) (hsR : slots + h_N t ≤ 7216541) (hdg : decode code pc = .ok (.new i, 3))
    (kk : ∀ (ad1' : Nat → Nat) (H' : Heap), (∀ j, j ≤ h_n M1 → ad1' j = ad1 j) → L2 s D cs ad0 ad1' (h_al M1 (t + 1) (h_N t)) ad2 M2 H' [] → W p l e room_1 s m #[Value.ref b] below meth c H' [] (cells + 1) (slots + h_N t) Q (F0 m (pc + 3) lr (.ref (ad1' (h_n M1 + 1)) :: rest))) : W p l e room_1 s m #[Value.ref b] below meth c H locs cells slots Q (F0 m pc lr rest) := by
  obtain ⟨hx, hb, hr, hml, hown, hts, hX, hbl, hlocks, hgv⟩ := C0
  obtain ⟨a1, a2, a3, a4, a5, a6, a7, a8, a9⟩ := hL
  refine va_forget a8.2.2 ?_
  have hE : va_P D vwCl ([] : va_W) H := fun k q h => by simp at h
  have hDE : va_D (fun q => H.size ≤ q) ([] : va_W) := ⟨fun i j p q h => by simp at h, fun k q h => by simp at h⟩
  have hSE : va_S (fun q => H.size ≤ q) H H [] := va_S.rf
  refine va_new (D := D) (ci := t) (fs := s_fs t ad1 (h_al M1 (t + 1) (h_N t)) (h_n M1 + 1)) hx hb hts (fun w h => (List.mem_filter.mp (s_in ht w h)).1) (s_ty t) (s_tyok ht) hown (hts _ hcl) (hts _ (List.mem_filter.mp (s_inst ht).1).1) (hts _ (List.mem_filter.mp (s_inst ht).2).1) hK.1 hE hDE hSE (fun q h => h) (s_cl ht) (fun k hk => ?_) hcR hsR hdg (fun q H1 q1 q2 q3 => ?_)
  · unfold vp_V
    rw [List.getD_eq_getElem?_getD, s_fs_get hk, i_al, r_al, if_pos rfl, if_pos rfl]
    exact s_dv ht hk
  · have hfs : s_fs t ad1 (h_al M1 (t + 1) (h_N t)) (h_n M1 + 1) = s_fs t (va_up ad1 (h_n M1 + 1) q) (h_al M1 (t + 1) (h_N t)) (h_n M1 + 1) := by
      unfold s_fs
      refine List.map_congr_left fun k _ => ?_
      rw [r_al, if_pos rfl]
      rfl
    rw [List.nil_append, hfs, ← s_ce_obj (cs := cs) (M := h_al M1 (t + 1) (h_N t)) ht (by rw [k_al, if_pos rfl])] at q1
    have hq0 : H.size ≤ q := q2.2 0 _ rfl
    have hold1 : ∀ j, 3 < j → j ≤ h_n M1 → ad1 j < H.size := fun j h1 h2 => (a3 _ _ (s_w_get (cs := cs) (ad := ad1) h1 h2)).lt
    have hold2 : ∀ j, 3 < j → j ≤ h_n M2 → ad2 j < H.size := fun j h1 h2 => (a4 _ _ (s_w_get (cs := cs) (ad := ad2) h1 h2)).lt
    have hk : ∀ x, x < H.size → H1[x]? = H[x]? := fun x h => q3.2.1 x h (Nat.not_le.mpr h)
    have hpush := s_w_push (cs := cs) (ad := ad1) (M := M1) (M' := h_al M1 (t + 1) (h_N t)) (q := q) a1.1 rfl (fun b hb => s_ce_al (by omega))
    have hup : ∀ j, j ≤ h_n M1 → va_up ad1 (h_n M1 + 1) q j = ad1 j := fun j hj => va_up_ne _ _ (by omega)
    have hself : va_up ad1 (h_n M1 + 1) q (h_n M1 + 1) = q := va_up_self _ _ _
    have h3 := a1.1.1
    have key : ∀ j, 3 < j → j ≤ h_n M1 + 1 → (j ≤ h_n M1 ∧ va_up ad1 (h_n M1 + 1) q j = ad1 j ∧ ad1 j < H.size) ∨ (j = h_n M1 + 1 ∧ va_up ad1 (h_n M1 + 1) q j = q) := fun j g1 g2 => by
      by_cases g : j ≤ h_n M1
      · exact Or.inl ⟨g, hup j g, hold1 j g1 g⟩
      · have : j = h_n M1 + 1 := by omega
        subst this
        exact Or.inr ⟨rfl, hself⟩
    have hfin := kk (va_up ad1 (h_n M1 + 1) q) H1 hup ⟨w_al a1 (by omega) (by omega), a2, ?_, a4.kept (fun k x hx => hk _ (a4 k x hx).lt), ⟨fun i j x y hi hj he => ?_, fun k x hx => ?_⟩, a6, fun i j g1 g2 g3 g4 e => ?_, ⟨Nat.le_trans a8.1 q3.1, fun x h1 h2 => (hk x (Nat.lt_of_lt_of_le h1 a8.1)).trans (a8.2.1 x h1 h2), fun x hx => by cases hx⟩, fun i hi => ⟨(hup i (by omega)).trans (a9 i hi).1, (a9 i hi).2⟩⟩
    · rw [hself] at hfin
      exact hfin
    · rw [← hpush]
      exact (a3.kept (fun k x hx => hk _ (a3 k x hx).lt)).app q1
    · obtain ⟨g1, g2, g3⟩ := s_w_at hi
      obtain ⟨y1, y2, y3⟩ := s_w_at hj
      rw [n_al] at g2 y2
      rw [g3, y3] at he
      rcases key _ g1 g2 with ⟨z1, z2, z3⟩ | ⟨z1, z2⟩ <;> rcases key _ y1 y2 with ⟨x1, x2, x3⟩ | ⟨x1, x2⟩ <;> rw [z2, x2] at he
      · have := a5.1 (i + 4 - 4) (j + 4 - 4) _ _ (s_w_get g1 z1) (s_w_get y1 x1) he
        omega
      · omega
      · omega
      · omega
    · obtain ⟨g1, g2, g3⟩ := s_w_at hx
      rw [n_al] at g2
      show s.heap.size ≤ x.1
      rw [g3]
      rcases key _ g1 g2 with ⟨z1, z2, z3⟩ | ⟨z1, z2⟩ <;> rw [z2]
      · exact a5.2 _ _ (s_w_get (cs := cs) (M := M1) g1 z1)
      · exact Nat.le_trans a8.1 hq0
    · rw [n_al] at g2
      have := hold2 j g3 g4
      rcases key _ g1 g2 with ⟨z1, z2, z3⟩ | ⟨z1, z2⟩ <;> rw [z2] at e
      · exact a7 i j g1 z1 g3 g4 e
      · omega
/-- the law's own cell(script, 0) -/
theorem lw_cell (C0 : lw_At p s m meth c b L xs) (hL2 : L2 s D cs ad0 ad1 M1 ad2 M2 H locs) (hL : L ≤ 2561) (hsz : lr.size = 4) (hrest : (rest.map fun v => v.category).sum ≤ 8) (hdg : decode code pc = .ok (.invokestatic 9, 3)) (hcR : cells ≤ 628569) (hsR : slots ≤ 7216541)
    (kk : ∀ (H' : Heap) (locs' : List Loc), L2 s D cs ad0 ad1 M1 ad2 M2 H' locs' → W p l e room_1 s m #[Value.ref b] below meth c H' locs' cells slots Q (F0 m (pc + 3) lr (.int (if 0 < L then xs 0 else 0) :: rest))) : W p l e room_1 s m #[Value.ref b] below meth c H locs cells slots Q (F0 m pc lr (.int 0 :: .ref b :: rest)) := by
  obtain ⟨hx, hb, hr, hml, hown, hts, hX, hbl, hlocks, hgv⟩ := C0
  obtain ⟨a1, a2, a3, a4, a5, a6, a7, a8, a9⟩ := id hL2
  refine va_calli (va_runS (As := [.ref b, .int 0]) (rest := rest) ⟨hx, hb, hml, hown, hts⟩ (c_cell l b L H.size xs hL) (cwS 2 hts lw_cg rfl rfl rfl ⟨rfl, by decide, by decide, by decide +kernel⟩ ⟨by decide, by decide⟩) ⟨fun a U g mk h => ⟨h.1, h.2.1, va_X.moved (u := U) (Vm.Alike.refl U.vm) h.2.2⟩, fun U hU hW => ⟨rfl, by rw [hU], by rw [hU]; exact (hX.kept (a8.2.1 b hbl (Nat.not_le.mpr hbl))).moved hW.alike⟩⟩ rfl rfl hsz rfl (lv_room hrest) hdg ⟨hcR, hsR⟩) a8 (fun q h1 h2 => absurd h1 (Nat.not_lt.mpr h2)) (fun q h => Nat.le_trans a8.1 h) (fun r u t H1 locs1 e1 e2 hp hB z1 z2 hS1 => ?_)
  subst hp
  exact kk H1 locs1 (hL2.kept z1 (fun q h => z2 q h (Nat.not_le.mpr h)) hS1.2.2)
set_option maxHeartbeats 2000000 in
/-- a constructor on the first of two small heaps, by the law -/
theorem lw_callI (C0 : lw_At p s m meth c b L xs) (hK : s_K D cs s) (hSt : s_S s.heap.size ad0 s s.heap) (hL : L2 s D cs ad0 ad1 M1 ad2 M2 H locs) {j ix : Nat} {as : List mV} {w : mR} (hj : j < 185) (h4 : 4 ≤ h_n M1) (hlen : (.inr 4 :: as : List mV).length ≤ (h_cd j).2) (hps : as.length = o_ps (h_mt j).1) (hev : ev j 0 (a_ent (h_cd j).2 (.inr 4 :: as)) [] M1 = some w) (has : ∀ v ∈ as, w_V M1 v) (h1 : Cond.methodLink R_law ix (h_mt j).1 ∈ lw_tbl) (h2 : Cond.instanceMethod (h_mt j).1 ∈ lw_tbl) (hnm : (h_mt j).1.name = "<init>") (hnone : (h_mt j).2.2.1 = none) (hrk : (h_mt j).2.2.2.1 ≤ 20) (hrest : (rest.map fun v => v.category).sum ≤ 8) (hsz : lr.size = 4) (hdg : decode code pc = .ok (.invokespecial ix, 3)) (hcR : cells + (h_n w.2 - h_n M1) ≤ 628569) (hsR : slots + (h_v w.2 - h_v M1) ≤ 7216541)
    (kk : ∀ (ad' : Nat → Nat) (H' : Heap) (locs' : List Loc), (∀ i, i ≤ h_n M1 → ad' i = ad1 i) → L2 s D cs ad0 ad' w.2 ad2 M2 H' locs' → W p l e room_1 s m #[Value.ref b] below meth c H' locs' (cells + (h_n w.2 - h_n M1)) (slots + (h_v w.2 - h_v M1)) Q (F0 m (pc + 3) lr ((w.1.map (s_v ad')).toList ++ rest))) : W p l e room_1 s m #[Value.ref b] below meth c H locs cells slots Q (F0 m pc lr ((as.map (s_v ad1)).reverse ++ .ref (ad1 4) :: rest)) := by
  obtain ⟨hx, hb, hr, hml, hown, hts, hX, hbl, hlocks, hgv⟩ := C0
  obtain ⟨om, oini, -, om20⟩ := s_om hj
  have hw := hL.1
  have hm := s_ev (l := l) hj hlen hev D cs s.heap.size H.size ad1 hw (fun v hv => by
    rcases List.mem_cons.mp hv with h | h
    · rw [h]; exact h4
    · exact has v h)
  have hargs : (.inr 4 :: as : List mV).map (s_v ad1) = .ref (ad1 4) :: as.map (s_v ad1) := by rw [List.map_cons, s_v1 ad1 (by decide)]
  have hwj : s_wj j = Cond.code (h_mt j).1 (h_mt j).2.1 (h_cd j).2 none :: s_ws := by unfold s_wj; rw [hnone]
  have hG : GoodIn lw_tbl (s_wj j) := lw_gc (ws := []) hj (fun z hz => absurd hz List.not_mem_nil)
  refine lw_back (va_runI (As := as.map (s_v ad1)) (rest := rest) ⟨hx, hb, hml, hown, hts⟩ hm (cwI (o_ps (h_mt j).1) hts hG hwj rfl rfl (hts _ (List.mem_filter.mp oini).1) (hts _ h1) (hts _ h2) hnm om ⟨?_, ?_⟩) ⟨s_blind, fun U hU hW => ⟨by rw [hargs], lw_pre hK hSt hL U hU hW⟩⟩ rfl ?_ hsz rfl (lv_room hrest) hdg ⟨hcR, hsR⟩) hL (by omega) kk
  · show (h_mt j).2.2.2.1 + 1 ≤ 2048; omega
  · show 8 + ((h_cd j).2 + 11) + 64 * (h_mt j).2.2.2.1 ≤ 84000; omega
  · rw [List.length_map]; exact hps
end LW
theorem e_33c (x : Int32) : a_ent (h_cd 33).2 (.inr 4 :: [.inl x]) = [some (.inr 4), some (.inl x), none, none, none] := by rw [c_33]; rfl
theorem e_104c (x : Int32) : a_ent (h_cd 104).2 (.inr 4 :: [.inl x]) = [some (.inr 4), some (.inl x)] := by rw [c_104]; rfl
theorem q_33 : Cond.methodLink R_law 15 (h_mt 33).1 ∈ lw_tbl ∧ Cond.instanceMethod (h_mt 33).1 ∈ lw_tbl ∧ (h_mt 33).1.name = "<init>" ∧ (h_mt 33).2.2.1 = none ∧ (h_mt 33).2.2.2.1 ≤ 20 ∧ 1 = o_ps (h_mt 33).1 ∧ 2 ≤ (h_cd 33).2 := by decide +kernel
theorem q_104 : Cond.methodLink R_law 20 (h_mt 104).1 ∈ lw_tbl ∧ Cond.instanceMethod (h_mt 104).1 ∈ lw_tbl ∧ (h_mt 104).1.name = "<init>" ∧ (h_mt 104).2.2.1 = none ∧ (h_mt 104).2.2.2.1 ≤ 20 ∧ 1 = o_ps (h_mt 104).1 ∧ 2 ≤ (h_cd 104).2 := by decide +kernel
theorem q_new : Cond.classLink R_law 7 (s_R 6) ∈ lw_tbl ∧ Cond.classLink R_law 18 (s_R 7) ∈ lw_tbl := by decide +kernel
set_option maxHeartbeats 4000000 in
/-- from the entry, for every script of at most 2561 ints, the law comes to its end with true -/
theorem whole_start {p : Program} {e : Env} {s : State} {m : MethodId} {below : List Frame} {meth : Method} {c : Code} (l : Launch) {b L : Nat} {xs : Nat → Int32} (hL : L ≤ 2561) (C0 : lw_At p s m meth c b L xs) : W p l e room_1 s m #[Value.ref b] below meth c s.heap [] 0 0 (lw_Z below #[Value.ref b] s) (entryFrame m ([Value.ref b] : List Value).toArray 4) := by
  obtain ⟨hx, hb, hr, hml, hown, hts, hX, hbl, hlocks, hgv⟩ := id C0
  obtain ⟨D, cs, hK⟩ := lw_K hts
  obtain ⟨ad0, hSt⟩ := lw_S hts hgv
  have hl := lv_entry ([.ref b]) (n := 4) (Nat.le_of_ble_eq_true rfl)
  rw [lg_entry_eq]
  generalize (lg_sl ([.ref b]) ++ List.replicate (4 - (lg_sl ([.ref b])).length) Slot.unset).toArray = ls at hl ⊢
  have hl : lv_has ls 4 [(0, .ref b)] := hl
  have hn : s_w cs ad0 M_0 = [] := rfl
  have hL0 : L2 s D cs ad0 ad0 M_0 ad0 M_0 s.heap [] := by
    refine ⟨w_20, w_20, ?_, ?_, ?_, ?_, fun i j g1 g2 => absurd (show i ≤ 3 from g2) (by omega), va_S.rf, fun i _ => ⟨rfl, rfl⟩⟩
    · rw [hn]; intro k q h; simp at h
    · rw [hn]; intro k q h; simp at h
    · rw [hn]; exact ⟨fun i j p q h => by simp at h, fun k q h => by simp at h⟩
    · rw [hn]; exact ⟨fun i j p q h => by simp at h, fun k q h => by simp at h⟩
  generalize hx0 : (if 0 < L then xs 0 else 0) = x0
  obtain ⟨N, hN, hI⟩ := C_init x0
  obtain ⟨n16, n96, -⟩ := n_eq x0
  have hR0 := Rel_0 n16 n96 hI
  have hNn : h_n N = 10 + 2 * n_of x0 := hI.1
  have hNv : h_v N = 139 + n_of x0 + 41 * n_of x0 := hI.2.1
  refine lw_new C0 hK hL0 (t := 6) (i := 7) (by decide) q_new.1 (by decide) (by decide) ds_0 (fun ad1 H1 hx1 hL1 => ?_)
  replace hL1 : L2 s D cs ad0 ad1 dM1 ad0 M_0 H1 [] := hL1
  show W p l e room_1 s m #[Value.ref b] below meth c H1 [] 1 7 (lw_Z below #[Value.ref b] s) (F0 m 3 ls [.ref (ad1 4)])
  refine lv_dup hx hb ds_3 rfl ?_
  refine lv_aload_n hx hb ds_4 rfl (lv_at hl 0 rfl) ?_
  refine lv_iconst (v := 0) hx hb ds_5 (by decide) ?_
  refine lw_cell C0 hL1 hL hl.1 (by show 2 ≤ 8; decide) ds_6 (by decide) (by decide) (fun H2 locs2 hL2 => ?_)
  rw [hx0]
  refine lw_callI C0 hK hSt hL2 (j := 33) (ix := 15) (as := [.inl x0]) (w := (none, N)) (by decide) (show 4 ≤ h_n dM1 from Nat.le_refl 4) q_33.2.2.2.2.2.2 q_33.2.2.2.2.2.1 (by rw [e_33c]; exact hN) (fun v hv => by rw [List.mem_singleton] at hv; subst hv; trivial) q_33.1 q_33.2.1 q_33.2.2.1 q_33.2.2.2.1 q_33.2.2.2.2.1 (rest := [.ref (ad1 4)]) (by show 1 ≤ 8; decide) hl.1 ds_9 (by dsimp only; omega) (by dsimp only; omega) (fun ad1' H3 locs3 hx2 hL3 => ?_)
  dsimp only at hL3 ⊢
  have e14 : ad1' 4 = ad1 4 := hx2 4 (Nat.le_refl 4)
  show W p l e room_1 s m #[Value.ref b] below meth c H3 locs3 (1 + (h_n N - h_n dM1)) (7 + (h_v N - h_v dM1)) (lw_Z below #[Value.ref b] s) (F0 m 12 ls [.ref (ad1 4)])
  refine W.widen (k := 250) (n := 5000) (by omega) (by omega) ?_
  rw [← e14]
  refine lv_astore_n hx hb ds_12 rfl hl (by decide) rfl (fun ls1 hl1 => ?_)
  replace hl1 : lv_has ls1 4 [(1, .ref (ad1' 4)), (0, .ref b)] := hl1
  refine lw_new C0 hK hL3.symm (t := 7) (i := 18) (by decide) q_new.2 (by decide) (by decide) ds_13 (fun ad2 H4 hx3 hL4 => ?_)
  replace hL4 : L2 s D cs ad0 ad2 (h_al M_0 8 32) ad1' N H4 [] := hL4
  show W p l e room_1 s m #[Value.ref b] below meth c H4 [] 251 5032 (lw_Z below #[Value.ref b] s) (F0 m 16 ls1 [.ref (ad2 4)])
  refine lv_dup hx hb ds_16 rfl ?_
  refine lv_aload_n hx hb ds_17 rfl (lv_at hl1 1 rfl) ?_
  refine lv_iconst (v := 0) hx hb ds_18 (by decide) ?_
  refine lw_cell C0 hL4 hL hl1.1 (by show 2 ≤ 8; decide) ds_19 (by decide) (by decide) (fun H5 locs5 hL5 => ?_)
  rw [hx0]
  have e30 : h_n (R_m 30 (f_0 (n_of x0))) = 30 := rfl
  have e31 : h_v (R_m 30 (f_0 (n_of x0))) = 11784 := rfl
  refine lw_callI C0 hK hSt hL5 (j := 104) (ix := 20) (as := [.inl x0]) (w := (none, R_m 30 (f_0 (n_of x0)))) (by decide) (show 4 ≤ 4 from Nat.le_refl 4) q_104.2.2.2.2.2.2 q_104.2.2.2.2.2.1 (by rw [e_104c]; exact R_init x0) (fun v hv => by rw [List.mem_singleton] at hv; subst hv; trivial) q_104.1 q_104.2.1 q_104.2.2.1 q_104.2.2.2.1 q_104.2.2.2.2.1 (rest := [.ref (ad2 4)]) (by show 1 ≤ 8; decide) hl1.1 ds_22 (by dsimp only; omega) (by dsimp only; omega) (fun ad2' H6 locs6 hx4 hL6 => ?_)
  dsimp only at hL6 ⊢
  have e24 : ad2' 4 = ad2 4 := hx4 4 (Nat.le_refl 4)
  show W p l e room_1 s m #[Value.ref b] below meth c H6 locs6 (251 + (h_n (R_m 30 (f_0 (n_of x0))) - h_n (h_al M_0 8 32))) (5032 + (h_v (R_m 30 (f_0 (n_of x0))) - h_v (h_al M_0 8 32))) (lw_Z below #[Value.ref b] s) (F0 m 25 ls1 [.ref (ad2 4)])
  refine W.widen (k := 400) (n := 20000) (by omega) (by omega) ?_
  rw [← e24]
  refine lv_astore_n hx hb ds_25 rfl hl1 (by decide) rfl (fun ls2 hl2 => ?_)
  refine lv_iconst (v := 1) hx hb ds_26 (by decide) ?_
  refine lv_istore_n hx hb ds_27 rfl hl2 (by decide) rfl (fun ls3 hl3 => ?_)
  replace hl3 : lv_has ls3 4 [(3, .int 1), (2, .ref (ad2' 4)), (1, .ref (ad1' 4)), (0, .ref b)] := hl3
  exact lw_loop C0 hK hSt hL 513 0 (n_of x0) ad1' ad2' N (f_0 (n_of x0)) _ _ _ H6 locs6 ls3 (by decide) (by decide) hR0 hL6.symm.toR (lv_sub hl3 [3, 2, 1, 0] rfl)
