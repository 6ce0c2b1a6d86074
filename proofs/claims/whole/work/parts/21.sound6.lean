/-! contracts of the methods out of runs of the small machine -/
def s_Q (D : va_G) (cs : Nat → ClassId) (ad : Nat → Nat) (M : mM) (r : mR) (sz : Nat) : Array Value → State → Outcome → State → Prop := fun _ st o t => (∃ ad' : Nat → Nat, (∀ i, i ≤ h_n M → ad' i = ad i) ∧ o = .returned (r.1.map (s_v ad')) ∧ w_2 r.2 ∧ (∀ v, r.1 = some v → w_V r.2 v) ∧ va_P D vwCl (s_w cs ad' r.2) t.heap ∧ va_D (s_A ad M sz) (s_w cs ad' r.2)) ∧ va_F (s_A ad M sz) st t
def s_Pre (D : va_G) (cs : Nat → ClassId) (base sz : Nat) (ad : Nat → Nat) (M : mM) (U : State) : Prop := U.heap.size = sz ∧ base ≤ sz ∧ va_P D vwCl (s_w cs ad M) U.heap ∧ va_D (fun q => base ≤ q) (s_w cs ad M) ∧ s_K D cs U ∧ s_S base ad U U.heap
def s_Met (l : Launch) (j : Nat) (as : List mV) (M : mM) (r : mR) : Prop := ∀ (D : va_G) (cs : Nat → ClassId) (base sz : Nat) (ad : Nat → Nat), w_2 M → (∀ v ∈ as, w_V M v) → Met l (h_mt j).1 (s_wj j) (s_rm j (h_n r.2 - h_n M) (h_v r.2 - h_v M)) (va_Pc (as.map (s_v ad)) (s_Pre D cs base sz ad M)) (s_Q D cs ad M r sz) (h_n r.2 - h_n M) (h_v r.2 - h_v M) (s_A ad M sz)
theorem s_blind {D : va_G} {cs : Nat → ClassId} {base sz : Nat} {ad : Nat → Nat} {M : mM} {av : List Value} : FrameBlind (va_Pc av (s_Pre D cs base sz ad M)) := fun a U g mk h => by
  obtain ⟨h0, h1, h2, h3, h4, h5, h6⟩ := h
  exact ⟨h0, h1, h2, h3, h4, h5.call, s_S.moved (u := U) (Vm.Alike.refl U.vm) h6⟩
section SR
variable {p : Program} {l : Launch} {e : Env} {R : Room} {s : State} {m : MethodId} {args : Array Value} {below : List Frame} {meth : Method} {c : Code} {H : Heap} {locs : List Loc} {cells slots : Nat} {Q : State → Prop} {j base n0 v0 : Nat} {D : va_G} {cs : Nat → ClassId} {ad0 ad : Nat → Nat} {A : Nat → Prop} {M : mM} {pc : Nat} {lr : Array Slot} {rest : List Value}
theorem s_retn {ip : Nat} {ls : mL} {st : List mV} {M0 : mM} {r : mR} (hA : A = s_A ad0 M0 s.heap.size) (hn : n0 = h_n M0) (F : s_F p R s m args meth c j base D cs ad0 A) (G : s_G s j n0 v0 D cs ad0 A ad M ls st H locs lr) (ha : a_ct (h_cd j).1 ip ls st M = .inr (.inr (some r))) : W p l e R s m args below meth c H locs (h_n M - n0) (h_v M - v0) (MQ below (s_Q D cs ad0 M0 r s.heap.size) args s (h_n r.2 - n0) (h_v r.2 - v0) A) (F0 m (p_c j ip) lr (st.map (s_v ad))) := by
  have hok := o_at_of (ls := ls) (st := st) (M := M) (ip := ip) F.2.2.2.2.2.2.2.2.2.2.2.2.2.2 (by rw [ha]; intro h; cases h)
  obtain ⟨hw, hwl, hws, hn0, hv0, hxa, hP, hD, hS, hl⟩ := G
  obtain ⟨hx, hb, hml, hr, hlocks, hname, hown, hts, hK, hSt, hfr, hlo, hA0, hAb, hj⟩ := id F
  have hre := a_retn (h_cd j).1 ip ls st M r ha
  unfold o_at at hok
  cases he : (h_lk j)[ip]? with
  | none => rw [he] at hok; cases hok
  | some q =>
  obtain ⟨pc, Ri, len, wi⟩ := q
  rw [he] at hok
  simp only [Bool.and_eq_true, decide_eq_true_eq] at hok
  obtain ⟨hdg, hok⟩ := hok
  have hpc : p_c j ip = pc := by unfold p_c; rw [List.getD_eq_getElem?_getD, he]; rfl
  rw [hpc]
  have hq : ∀ (o : Option mV), r = (o, M) → (∀ v, o = some v → w_V M v) → ∀ t : State, t.heap = H → s.WarmedH t.vm → s_Q D cs ad0 M0 r s.heap.size args s (.returned (o.map (s_v ad))) t := by
    intro o e1 e2 t ht _
    subst e1
    refine ⟨⟨ad, fun i hi => hxa.2 i (by omega), rfl, hw, e2, by rw [ht]; exact hP, by rw [← hA]; exact hD⟩, ?_⟩
    rw [← hA]
    exact hS.F ht
  have hf : ∀ q ∈ locs, A q.base := hS.2.2
  rcases hre with ⟨hL, x, rfl, rfl⟩ | ⟨hL, x, rfl, rfl, h01⟩ | ⟨hL, a, rfl, rfl⟩ | ⟨hL, rfl, rfl⟩
  · rw [hL] at hok
    unfold o_k at hok
    split at hok
    all_goals first
      | (cases hok; done)
      | (rename_i h9; cases h9; done)
      | (simp only [Bool.and_eq_true, decide_eq_true_eq] at hok
         obtain ⟨rfl, h2⟩ := hok
         exact W.iret (v := x) hx hb (hr.trans h2) (hq _ rfl (fun v h => by cases h; trivial)) hf hdg hlocks)
  · rw [hL] at hok
    unfold o_k at hok
    split at hok
    all_goals first
      | (cases hok; done)
      | (rename_i h9; cases h9; done)
      | (simp only [Bool.and_eq_true, decide_eq_true_eq] at hok
         obtain ⟨rfl, h2⟩ := hok
         exact W.zret (v := x) hx hb (hr.trans h2) (by rcases h01 with rfl | rfl <;> rfl) (hq _ rfl (fun v h => by cases h; trivial)) hf hdg hlocks)
  · rw [hL] at hok
    unfold o_k at hok
    split at hok
    all_goals first
      | (cases hok; done)
      | (rename_i h9; cases h9; done)
      | (simp only [Bool.and_eq_true, decide_eq_true_eq] at hok
         obtain ⟨rfl, h2⟩ := hok
         split at h2
         · rename_i rt9 hrt
           have hv : s_v ad (.inr a) = .null ∨ ∃ a', s_v ad (.inr a) = .ref a' := by
             by_cases h0 : a = 0
             · subst h0; exact Or.inl rfl
             · exact Or.inr ⟨_, s_v1 ad h0⟩
           exact W.aret (v := s_v ad (.inr a)) hx hb (hr.trans hrt) (by revert h2; cases rt9 <;> simp [o_ref]) hv (hq _ rfl (fun v h => by cases h; exact w_h hws)) hf hdg hlocks
         · cases h2)
  · rw [hL] at hok
    unfold o_k at hok
    split at hok
    all_goals first
      | (cases hok; done)
      | (rename_i h9; cases h9; done)
      | (simp only [Bool.and_eq_true, decide_eq_true_eq] at hok
         obtain ⟨rfl, h2⟩ := hok
         exact W.vret hx hb (hr.trans h2) (hq none rfl (fun v h => by cases h)) hf hdg hlocks)
theorem s_back {w : mR} {sz : Nat} {st0 : List Value} {a : Array Value} {ls : mL} (hsz : sz = H.size) (hrun : va_Run p l e R s m args below meth c H locs (h_n M - n0) (h_v M - v0) (h_n w.2 - h_n M) (h_v w.2 - h_v M) (F0 m pc lr st0) rest (s_Q D cs ad M w sz a) (s_A ad M sz)) (F : s_F p R s m args meth c j base D cs ad0 A) (hn0 : n0 ≤ h_n M) (hv0 : v0 ≤ h_v M) (hnw : h_n M ≤ h_n w.2) (hvw : h_v M ≤ h_v w.2) (hxa : 3 ≤ n0 ∧ ∀ i, i ≤ n0 → ad i = ad0 i) (hw : w_2 M) (hwl : ∀ i v, l_get ls i = some v → w_V M v) (hD : va_D A (s_w cs ad M)) (hS : va_S A s.heap H locs) (hl : l_rep ad ls lr (h_cd j).2)
    (kk : ∀ (ad' : Nat → Nat) (H' : Heap) (locs' : List Loc), (∀ i, i ≤ h_n M → ad' i = ad i) → (∀ v, w.1 = some v → w_V w.2 v) → s_G s j n0 v0 D cs ad0 A ad' w.2 ls [] H' locs' lr → W p l e R s m args below meth c H' locs' (h_n w.2 - n0) (h_v w.2 - v0) Q (F0 m (pc + 3) lr ((w.1.map (s_v ad')).toList ++ rest))) : W p l e R s m args below meth c H locs (h_n M - n0) (h_v M - v0) Q (F0 m pc lr st0) := by
  subst hsz
  obtain ⟨-, -, -, -, -, -, -, -, -, -, -, -, hA0, hAb, -⟩ := F
  have hAA : ∀ q, s_A ad M H.size q → A q := fun q hq => by
    rcases hq with ⟨i, h1, h2, rfl⟩ | h
    · exact hD.2 _ _ (s_w_get h1 h2)
    · exact hA0 q (Nat.le_trans hS.1 h)
  intro T hT X
  obtain ⟨v, st₀, t, T', L, h0, X', hL, e1, e2, ⟨⟨ad', x1, x2, x3, x4, x5, x6⟩, hz, hk⟩, st⟩ := hrun T hT X
  cases x2
  rw [h0] at hz hk
  rw [show h_n M - n0 + (h_n w.2 - h_n M) = h_n w.2 - n0 by omega, show h_v M - v0 + (h_v w.2 - h_v M) = h_v w.2 - v0 by omega] at X'
  have hS' : va_S A s.heap T'.heap (locs ++ L) := ⟨Nat.le_trans hS.1 (by rw [e1]; exact hz), fun q h1 h2 => by rw [e1, hk q (Nat.lt_of_lt_of_le h1 hS.1) (fun z => h2 (hAA q z))]; exact hS.2.1 q h1 h2, fun q hq => by
      rcases List.mem_append.mp hq with h | h
      · exact hS.2.2 q h
      · exact hAA _ (hL q h)⟩
  obtain ⟨t2, a1, b1⟩ := kk ad' T'.heap (locs ++ L) x1 x4 ⟨x3, fun i v hv => w_up hnw (hwl i v hv), fun v hv => absurd hv List.not_mem_nil, by omega, by omega, ⟨hxa.1, fun i hi => (x1 i (by omega)).trans (hxa.2 i hi)⟩, by rw [e1]; exact x5, ⟨x6.1, fun k q hq => hAA _ (x6.2 k q hq)⟩, hS', hl.ext x1 hwl⟩ T' rfl X'
  exact ⟨t2, st t2 a1, b1⟩
end SR
