/-! a call of the small machine is a call of the machine -/
theorem s_code {j : Nat} (hj : j < 185) : Cond.code (h_mt j).1 (h_mt j).2.1 (h_cd j).2 (h_mt j).2.2.1 ∈ s_ws := List.mem_filter.mpr ⟨List.mem_of_getElem? (ok_of hj).2.2, rfl⟩
theorem s_gj {j j' : Nat} (hj : j' < 185) : GoodIn (s_wj j) (s_wj j') := fun w hw => by
  have h : w ∈ s_ws := by
    rcases List.mem_cons.mp hw with h | h
    · rw [h]; exact s_code hj
    · exact h
  exact ⟨List.mem_cons_of_mem _ h, s_good h⟩
theorem s_gc {j j' : Nat} {ws : List Cond} (hj : j' < 185) (h : ∀ w ∈ ws, w ∈ s_ws) : GoodIn (s_wj j) (ws ++ s_wj j') := fun w hw => by
  rcases List.mem_append.mp hw with h1 | h1
  · exact ⟨List.mem_cons_of_mem _ (h w h1), s_good (h w h1)⟩
  · exact s_gj hj w h1
theorem s_om {j : Nat} (hj : j < 185) : ((h_mt j).1.cls ≠ "java/lang/invoke/MethodHandle" ∧ (h_mt j).1.cls ≠ "java/lang/invoke/VarHandle" ∧ (parseMethodDescriptor (h_mt j).1.desc).map (fun d => d.parameters.length) = some (o_ps (h_mt j).1)) ∧ Cond.initialized (h_mt j).1.cls ∈ s_ws ∧ plainName (h_mt j).1.cls = true ∧ (h_cd j).2 ≤ 20 := by
  have h := (ok_of hj).2.1
  simp only [o_m, Bool.and_eq_true, decide_eq_true_eq] at h
  obtain ⟨⟨⟨⟨⟨⟨h1, h2⟩, h3⟩, h4⟩, h5⟩, h6⟩, h7⟩ := h
  refine ⟨⟨h2, h3, ?_⟩, o_w_in h4 rfl, h1, h7⟩
  unfold o_ps at h5 ⊢
  split at h5
  · rename_i d hd; rw [hd]; rfl
  · omega
theorem s_rt {rt : Nat} {o : Option mV} {rr st' : List mV} (h : a_push rt o rr = some st') : st' = o.toList ++ rr := by
  unfold a_push at h
  split at h <;> first | (cases h; rfl) | cases h
section ST
variable {p : Program} {l : Launch} {e : Env} {R : Room} {s : State} {m : MethodId} {args : Array Value} {below : List Frame} {meth : Method} {c : Code} {H : Heap} {locs : List Loc} {cells slots : Nat} {Q : State → Prop} {j base n0 v0 : Nat} {D : va_G} {cs : Nat → ClassId} {ad0 ad : Nat → Nat} {A : Nat → Prop} {M : mM} {pc : Nat} {lr : Array Slot} {rest : List Value}
set_option maxHeartbeats 2000000 in
theorem s_call {ip j' rt : Nat} {as rr st st' : List mV} {ls : mL} {w : mR} (hbs : base ≤ s.heap.size) (F : s_F p R s m args meth c j base D cs ad0 A) (G : s_G s j n0 v0 D cs ad0 A ad M ls st H locs lr) (ha : a_ct (h_cd j).1 ip ls st M = .inr (.inl (j', as, rt, rr))) (hM : j' < 185 → as.length ≤ (h_cd j').2 → s_Met l j' as M w) (hp : a_push rt w.1 rr = some st') (hnw : h_n M ≤ h_n w.2) (hvw : h_v M ≤ h_v w.2) (hcR : h_n w.2 - n0 ≤ R.cells) (hsR : h_v w.2 - v0 ≤ R.slots)
    (kk : ∀ (ad' : Nat → Nat) (H' : Heap) (locs' : List Loc), (∀ i, i ≤ h_n M → ad' i = ad i) → s_G s j n0 v0 D cs ad0 A ad' w.2 ls st' H' locs' lr → W p l e R s m args below meth c H' locs' (h_n w.2 - n0) (h_v w.2 - v0) Q (F0 m (p_c j (ip + 1)) lr (st'.map (s_v ad')))) : W p l e R s m args below meth c H locs (h_n M - n0) (h_v M - v0) Q (F0 m (p_c j ip) lr (st.map (s_v ad))) := by
  have hok := o_at_of (ls := ls) (st := st) (M := M) (ip := ip) F.2.2.2.2.2.2.2.2.2.2.2.2.2.2 (by rw [ha]; intro h; cases h)
  obtain ⟨hw, hwl, hws, hn0, hv0, hxa, hP, hD, hS, hl⟩ := G
  obtain ⟨hx, hb, hml, hr, hlocks, hname, hown, hts, hK, hSt, hfr, hlo, hA0, hAb, hj⟩ := id F
  obtain ⟨q, hL, htk, hrc, h8, rfl⟩ := a_call (h_cd j).1 ip ls st M _ _ _ _ ha
  obtain ⟨qs, hql, hst, has⟩ := a_take_s _ _ _ _ _ htk
  rw [List.append_nil] at has
  subst hst
  have hwa : ∀ v ∈ as, w_V M v := fun v hv => hws v (List.mem_append_left _ (by rw [has] at hv; exact List.mem_reverse.mp hv))
  have hwr : ∀ v ∈ rr, w_V M v := fun v hv => hws v (List.mem_append_right _ hv)
  have hword : ∀ (i : Nat) (w : Cond), o_w i w = true → goodWord w = true → w ∈ s_ws := fun i w h1 h2 => o_w_in h1 h2
  unfold o_at at hok
  cases he : (h_lk j)[ip]? with
  | none => rw [he] at hok; cases hok
  | some qq =>
  obtain ⟨pc, Ri, len, wi⟩ := qq
  rw [he, hL] at hok
  simp only [Bool.and_eq_true, decide_eq_true_eq] at hok
  obtain ⟨hdg, hok⟩ := hok
  have hpc : p_c j ip = pc := by unfold p_c; rw [List.getD_eq_getElem?_getD, he]; rfl
  rw [hpc]
  have hrest : (((rr.map (s_v ad))).map fun v => v.category).sum ≤ 8 := by rw [s_sum]; exact h8
  have hKK : p_c j (ip + 1) = pc + 3 → ∀ (ad' : Nat → Nat) (H' : Heap) (locs' : List Loc), (∀ i, i ≤ h_n M → ad' i = ad i) → (∀ v, w.1 = some v → w_V w.2 v) → s_G s j n0 v0 D cs ad0 A ad' w.2 ls [] H' locs' lr → W p l e R s m args below meth c H' locs' (h_n w.2 - n0) (h_v w.2 - v0) Q (F0 m (pc + 3) lr ((w.1.map (s_v ad')).toList ++ rr.map (s_v ad))) := by
    intro hnx ad' H' locs' hxx hwv G'
    have e1 := s_rt hp
    obtain ⟨g1, g2, -, g4, g5, g6, g7, g8, g9, g10⟩ := G'
    have := kk ad' H' locs' hxx ⟨g1, g2, fun v hv => by
      rw [e1] at hv
      rcases List.mem_append.mp hv with h | h
      · cases hw1 : w.1 with
        | none => rw [hw1] at h; cases h
        | some v1 => rw [hw1] at h; rw [List.mem_singleton.mp h]; exact hwv v1 hw1
      · exact w_up hnw (hwr v h), g4, g5, g6, g7, g8, g9, g10⟩
    rw [hnx, e1, List.map_append, s_vs_ext hxx hwr] at this
    cases hw1 : w.1 with
    | none => rw [hw1] at this; exact this
    | some v1 => rw [hw1] at this; exact this
  have hpre : ∀ U : State, U.heap = H → s.WarmedH U.vm → s_Pre D cs base H.size ad M U := fun U hU hW => by
    refine ⟨by rw [hU], Nat.le_trans hbs hS.1, by rw [hU]; exact hP, hD.weaken (fun _ _ _ h => hAb _ h), hK.warm hW, ?_⟩
    rw [hU]
    exact ((hSt.ext (fun i hi => hxa.2 i (Nat.le_trans hi hxa.1))).kept (fun a h1 h2 => hS.2.1 a h1 (fun h => h2 (hAb a h)))).moved hW.alike
  have hroom : (h_mt j').2.2.2.1 < (h_mt j).2.2.2.1 → (h_cd j').2 ≤ 20 → (s_rm j' (h_n w.2 - h_n M) (h_v w.2 - h_v M)).frames + 1 ≤ R.frames ∧ 8 + ((h_cd j').2 + 11) + (s_rm j' (h_n w.2 - h_n M) (h_v w.2 - h_v M)).locals ≤ R.locals := fun h1 h2 => by
    show (h_mt j').2.2.2.1 + 1 ≤ R.frames ∧ 8 + ((h_cd j').2 + 11) + 64 * (h_mt j').2.2.2.1 ≤ R.locals
    rw [hfr, hlo]
    omega
  have hlen : as.length = q / 4 % 16 := by rw [has, List.length_reverse]; exact hql
  unfold o_k at hok
  split at hok
  all_goals try (first | (cases hok; done) | (rename_i h9; cases h9; done))
  · rename_i j9 q9 i h9
    cases h9
    simp only [Bool.and_eq_true, decide_eq_true_eq, o_c] at hok
    obtain ⟨⟨⟨⟨⟨⟨⟨h1, ⟨⟨⟨⟨⟨hj', -⟩, hna⟩, -⟩, hrk⟩, hmx⟩⟩, h2⟩, h3⟩, h4⟩, h5⟩, h6⟩, h7⟩ := hok
    obtain ⟨rfl, hnx⟩ := o_n_l h7
    obtain ⟨om, oini, -, om20⟩ := s_om hj'
    rcases a_rec_s hrc with h0 | ⟨b, as', hasb, hbk, -⟩
    · omega
    · obtain ⟨h3b, hnb⟩ := hw.1.at hbk (by omega) (by omega)
      have hqs : qs = as'.reverse ++ [.inr b] := by
        have h9 := congrArg List.reverse (has.symm.trans hasb)
        rw [List.reverse_reverse, List.reverse_cons] at h9
        exact h9
      have hstk : (qs ++ rr).map (s_v ad) = (as'.map (s_v ad)).reverse ++ .ref (ad b) :: rr.map (s_v ad) := by
        rw [hqs]; simp [s_v1 ad (show ¬ b = 0 by omega)]
      have hargs : as.map (s_v ad) = .ref (ad b) :: as'.map (s_v ad) := by rw [hasb, List.map_cons, s_v1 ad (by omega)]
      rw [hstk]
      have hm := hM hj' (by omega) D cs base H.size ad hw hwa
      have hrv := s_w_get (cs := cs) (ad := ad) h3b hnb
      rw [s_ce_obj (t := q / 64 - 1) (by omega) (by omega)] at hrv
      have hcl := va_recv hK.1 hP (s_cl (t := q / 64 - 1) (by omega)) hrv
      dsimp only at hcl
      rw [h4] at hcl
      refine s_back (a := _) rfl (va_runV (As := as'.map (s_v ad)) (rest := rr.map (s_v ad)) ⟨hx, hb, hml, hown, hts⟩ hm (cwV (o_ps (h_mt j').1) hts (s_gc hj' (fun z hz => ?_)) rfl rfl rfl ⟨rfl, om⟩ (hroom hrk om20)) ⟨s_blind, hcl, fun U hU hW => ⟨by rw [hargs], hpre U hU hW⟩⟩ rfl ?_ hl.2.1 rfl (lv_room hrest) hdg ⟨?_, ?_⟩) F hn0 hv0 hnw hvw hxa hw hwl hD hS hl (hKK hnx)
      · simp only [List.mem_cons, List.not_mem_nil, or_false] at hz
        rcases hz with rfl | rfl | rfl | rfl
        · exact hword _ _ h1 rfl
        · exact hword _ _ h5 rfl
        · exact hword _ _ h6 rfl
        · exact oini
      · rw [List.length_map]
        rw [hasb, List.length_cons] at hlen
        omega
      · omega
      · omega
  · rename_i j9 q9 i h9
    cases h9
    simp only [Bool.and_eq_true, decide_eq_true_eq, o_c, Bool.or_eq_true] at hok
    obtain ⟨⟨⟨h1, ⟨⟨⟨⟨⟨hj', hq0⟩, hna⟩, -⟩, hrk⟩, hmx⟩⟩, h5⟩, h7⟩ := hok
    obtain ⟨rfl, hnx⟩ := o_n_l h7
    obtain ⟨om, oini, -, om20⟩ := s_om hj'
    have hstk : (qs ++ rr).map (s_v ad) = (as.map (s_v ad)).reverse ++ rr.map (s_v ad) := by rw [has]; simp
    rw [hstk]
    have hm := hM hj' (by omega) D cs base H.size ad hw hwa
    have hps : PreS s H (va_Pc (as.map (s_v ad)) (s_Pre D cs base H.size ad M)) (as.map (s_v ad)) := ⟨s_blind, fun U hU hW => ⟨rfl, hpre U hU hW⟩⟩
    rcases h1 with h1 | h1
    · refine s_back (a := _) rfl (va_runS (As := as.map (s_v ad)) (rest := rr.map (s_v ad)) ⟨hx, hb, hml, hown, hts⟩ hm (va_cwS (o_ps (h_mt j').1) hts (s_gc hj' (fun z hz => ?_)) rfl rfl rfl om (hroom hrk om20)) hps rfl ?_ hl.2.1 rfl (lv_room hrest) hdg ⟨?_, ?_⟩) F hn0 hv0 hnw hvw hxa hw hwl hD hS hl (hKK hnx)
      · simp only [List.mem_cons, List.not_mem_nil, or_false] at hz
        rcases hz with rfl | rfl | rfl
        · exact hword _ _ h1 rfl
        · exact hword _ _ h5 rfl
        · exact oini
      · rw [List.length_map]; omega
      · omega
      · omega
    · refine s_back (a := _) rfl (va_runSN (As := as.map (s_v ad)) (rest := rr.map (s_v ad)) ⟨hx, hb, hml, hown, hts⟩ hm ⟨va_cnB (o_ps (h_mt j').1) hts (s_gj hj') rfl rfl rfl (hK.2.1 _ _ _ _ (o_w_mem h1)) (hts _ (List.mem_cons_of_mem _ oini)) om (hroom hrk om20), hts _ (List.mem_cons_of_mem _ (hword _ _ h5 rfl)), trivial⟩ hps rfl ?_ hl.2.1 rfl (lv_room hrest) hdg ⟨?_, ?_⟩) F hn0 hv0 hnw hvw hxa hw hwl hD hS hl (hKK hnx)
      · rw [List.length_map]; omega
      · omega
      · omega
  · rename_i j9 q9 i h9
    cases h9
    simp only [Bool.and_eq_true, decide_eq_true_eq, o_c, Bool.or_eq_true] at hok
    obtain ⟨⟨⟨⟨⟨⟨⟨h1, ⟨⟨⟨⟨⟨hj', -⟩, hna⟩, -⟩, hrk⟩, hmx⟩⟩, h2⟩, h3⟩, h4⟩, hnone⟩, h5⟩, h7⟩ := hok
    obtain ⟨rfl, hnx⟩ := o_n_l h7
    obtain ⟨om, oini, -, om20⟩ := s_om hj'
    rcases a_rec_s hrc with h0 | ⟨b, as', hasb, hbk, -⟩
    · omega
    · obtain ⟨h3b, hnb⟩ := hw.1.at hbk (by omega) (by omega)
      have hqs : qs = as'.reverse ++ [.inr b] := by
        have h9 := congrArg List.reverse (has.symm.trans hasb)
        rw [List.reverse_reverse, List.reverse_cons] at h9
        exact h9
      have hstk : (qs ++ rr).map (s_v ad) = (as'.map (s_v ad)).reverse ++ .ref (ad b) :: rr.map (s_v ad) := by
        rw [hqs]; simp [s_v1 ad (show ¬ b = 0 by omega)]
      have hargs : as.map (s_v ad) = .ref (ad b) :: as'.map (s_v ad) := by rw [hasb, List.map_cons, s_v1 ad (by omega)]
      rw [hstk]
      have hm := hM hj' (by omega) D cs base H.size ad hw hwa
      have hps : PreS s H (va_Pc (as.map (s_v ad)) (s_Pre D cs base H.size ad M)) (.ref (ad b) :: as'.map (s_v ad)) := ⟨s_blind, fun U hU hW => ⟨by rw [hargs], hpre U hU hW⟩⟩
      have hwj : s_wj j' = Cond.code (h_mt j').1 (h_mt j').2.1 (h_cd j').2 none :: s_ws := by unfold s_wj; rw [hnone]
      have hlen' : (as'.map (s_v ad)).length = o_ps (h_mt j').1 := by
        rw [List.length_map]
        rw [hasb, List.length_cons] at hlen
        omega
      rcases h1 with h1 | h1
      · exact s_back (a := _) rfl (va_runI (As := as'.map (s_v ad)) (rest := rr.map (s_v ad)) ⟨hx, hb, hml, hown, hts⟩ hm (cwI (o_ps (h_mt j').1) hts (s_gj hj') hwj rfl rfl (hts _ (List.mem_cons_of_mem _ oini)) (hts _ (List.mem_cons_of_mem _ (hword _ _ h1 rfl))) (hts _ (List.mem_cons_of_mem _ (hword _ _ h5 rfl))) h4 om (hroom hrk om20)) hps rfl hlen' hl.2.1 rfl (lv_room hrest) hdg ⟨by omega, by omega⟩) F hn0 hv0 hnw hvw hxa hw hwl hD hS hl (hKK hnx)
      · exact s_back (a := _) rfl (va_runIN (As := as'.map (s_v ad)) (rest := rr.map (s_v ad)) ⟨hx, hb, hml, hown, hts⟩ hm ⟨va_cnB (o_ps (h_mt j').1) hts (s_gj hj') hwj rfl rfl (hK.2.1 _ _ _ _ (o_w_mem h1)) (hts _ (List.mem_cons_of_mem _ oini)) om (hroom hrk om20), h4, hts _ (List.mem_cons_of_mem _ (hword _ _ h5 rfl))⟩ hps rfl hlen' hl.2.1 rfl (lv_room hrest) hdg ⟨by omega, by omega⟩) F hn0 hv0 hnw hvw hxa hw hwl hD hS hl (hKK hnx)
end ST
