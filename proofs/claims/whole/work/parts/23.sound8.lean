/-! THE SMALL MACHINE IS SOUND: what it answers, the machine answers -/
theorem p_c0 : (List.range 185).all (fun j => decide (p_c j 0 = 0)) = true := by decide +kernel
theorem s_lg (ad : Nat → Nat) : ∀ as : List mV, (lg_sl (as.map (s_v ad))).length = as.length := by
  intro as
  induction as with
  | nil => rfl
  | cons v as ih =>
    unfold lg_sl at ih ⊢
    rw [List.map_cons, List.flatMap_cons, List.length_append, ih, s_cat]
    simp
    omega
theorem s_la (ad : Nat → Nat) : ∀ (as : List mV) (k i : Nat) (v : mV), as[i]? = some v → (k + i, s_v ad v) ∈ lv_args k (as.map (s_v ad)) := by
  intro as
  induction as with
  | nil => intro k i v h; simp at h
  | cons a as ih =>
    intro k i v h
    rw [List.map_cons, lv_args, s_cat, if_neg (by decide)]
    cases i with
    | zero =>
      simp only [List.getElem?_cons_zero, Option.some.injEq] at h
      subst h
      exact List.mem_cons_self
    | succ i =>
      have := ih (k + 1) i v (by simpa using h)
      rw [show k + (i + 1) = k + 1 + i by omega]
      exact List.mem_cons_of_mem _ this
def s_Run (l : Launch) (n : Nat) : Prop := ∀ (j ip : Nat) (ls : mL) (st : List mV) (M : mM) (r : mR), a_run n j ip ls st M = some r → ∀ (p : Program) (e : Env) (R : Room) (s : State) (m : MethodId) (args : Array Value) (below : List Frame) (meth : Method) (c : Code) (H : Heap) (locs : List Loc) (lr : Array Slot) (base : Nat) (D : va_G) (cs : Nat → ClassId) (ad0 ad : Nat → Nat) (M0 : mM), base ≤ s.heap.size → s_F p R s m args meth c j base D cs ad0 (s_A ad0 M0 s.heap.size) → s_G s j (h_n M0) (h_v M0) D cs ad0 (s_A ad0 M0 s.heap.size) ad M ls st H locs lr → R.cells = h_n r.2 - h_n M0 → R.slots = h_v r.2 - h_v M0 → W p l e R s m args below meth c H locs (h_n M - h_n M0) (h_v M - h_v M0) (MQ below (s_Q D cs ad0 M0 r s.heap.size) args s (h_n r.2 - h_n M0) (h_v r.2 - h_v M0) (s_A ad0 M0 s.heap.size)) (F0 m (p_c j ip) lr (st.map (s_v ad)))
theorem l_ent {n : Nat} : ∀ {as : List mV} {i : Nat} {v : mV}, l_get (a_ent n as) i = some v → as[i]? = some v := by
  have key : ∀ (k i : Nat) (v : mV), ¬ l_get (List.replicate k none) i = some v := by
    intro k
    induction k with
    | zero => intro i v h; simp [l_get] at h
    | succ k ih =>
      intro i v h
      cases i with
      | zero => simp [List.replicate, l_get] at h
      | succ i => exact ih i v h
  have key2 : ∀ (as : List mV) (k i : Nat) (v : mV), l_get (as.map some ++ List.replicate k none) i = some v → as[i]? = some v := by
    intro as
    induction as with
    | nil => intro k i v h; exact absurd h (key k i v)
    | cons a as ih =>
      intro k i v h
      cases i with
      | zero => simpa [l_get] using h
      | succ i => simpa using ih k i v h
  intro as i v h
  exact key2 as _ i v h
theorem l_ent_len {n : Nat} {as : List mV} (h : as.length ≤ n) : (a_ent n as).length = n := by simp [a_ent]; omega
theorem s_met {l : Launch} {n j : Nat} {as : List mV} {M : mM} {r : mR} (h : s_Run l n) (hj : j < 185) (hlen : as.length ≤ (h_cd j).2) (hr : a_run n j 0 (a_ent (h_cd j).2 as) [] M = some r) : s_Met l j as M r := by
  intro D cs base sz ad hw hwa
  refine Met.ofW (cc := (h_mt j).2.1) (maxL := (h_cd j).2) (ret := (h_mt j).2.2.1) (s_om hj).2.2.1 rfl ?_
  intro p e s m args below meth c s₁ B hml hv
  obtain ⟨rfl, rfl, hbs, hP, hD, hK, hSt⟩ := hv
  have hts := atoms_spec (ws := s_wj j) B.pre
  have hown : s.vm.findClass (h_mt j).1.cls = some m.cls := findClass_of_methodNamed B.named
  have hl := lv_entry (as.map (s_v ad)) (n := (h_cd j).2) (by rw [s_lg]; exact hlen)
  rw [lg_entry_eq]
  generalize (lg_sl (as.map (s_v ad)) ++ List.replicate ((h_cd j).2 - (lg_sl (as.map (s_v ad))).length) Slot.unset).toArray = lr at hl ⊢
  have hD' : va_D (s_A ad M s.heap.size) (s_w cs ad M) := ⟨hD.1, fun k q hk => by
    unfold s_w at hk
    rw [List.getElem?_map] at hk
    obtain ⟨i, hi, he⟩ := Option.map_eq_some_iff.mp hk
    have h9 := List.mem_range.mp (List.mem_of_getElem? hi)
    rw [← he]
    exact Or.inl ⟨i + 4, by omega, by omega, rfl⟩⟩
  have hl' : l_rep ad (a_ent (h_cd j).2 as) lr (h_cd j).2 := ⟨l_ent_len hlen, hl.1, hl.2.1, fun i v hg => by
    have h9 := s_la ad as 0 i v (l_ent hg)
    rw [Nat.zero_add] at h9
    exact hl.2.2 _ h9⟩
  have hAb : ∀ q, s_A ad M s.heap.size q → base ≤ q := fun q hq => by
    rcases hq with ⟨i, h1, h2, rfl⟩ | h
    · exact hD.2 _ _ (s_w_get h1 h2)
    · exact Nat.le_trans hbs h
  have := h j 0 _ [] M r hr p e (headSpec (s_wj j) (s_rm j (h_n r.2 - h_n M) (h_v r.2 - h_v M))).room s m _ below meth c s.heap [] lr base D cs ad ad M hbs ⟨B.exec, B.bytes, hml, B.returns, B.notSynchronized, (name_of_methodNamed B.named B.method).1, hown, hts, hK, hSt, rfl, rfl, fun q h => Or.inr h, hAb, hj⟩ ⟨hw, fun i v hg => hwa v (List.mem_of_getElem? (l_ent hg)), fun v hv => absurd hv List.not_mem_nil, Nat.le_refl _, Nat.le_refl _, ⟨hw.1.1, fun _ _ => rfl⟩, hP, hD', va_S.rf, hl'⟩ rfl rfl
  rw [Nat.sub_self, Nat.sub_self, show p_c j 0 = 0 from of_decide_eq_true (List.all_eq_true.mp p_c0 j (List.mem_range.mpr hj))] at this
  exact this
theorem s_all (l : Launch) : ∀ n : Nat, s_Run l n := by
  intro n
  induction n with
  | zero => intro j ip ls st M r h; simp [a_run] at h
  | succ n ih =>
    intro j ip ls st M r h p e R s m args below meth c H locs lr base D cs ad0 ad M0 hbs F G hRc hRs
    have hj := F.2.2.2.2.2.2.2.2.2.2.2.2.2.2
    rw [a_run] at h
    cases hq : a_ct (h_cd j).1 ip ls st M with
    | inl q =>
      obtain ⟨ip', ls', st', M'⟩ := q
      rw [hq] at h
      have hg := a_run_grow _ _ _ _ _ _ _ h
      refine s_next F G (o_at_of hj (by rw [hq]; intro h; cases h)) hq (by omega) (by omega) (fun ad' H' locs' lr' _ _ _ G' => ?_)
      exact ih j ip' ls' st' M' r h p e R s m args below meth c H' locs' lr' base D cs ad0 ad' M0 hbs F G' hRc hRs
    | inr q =>
      rcases q with ⟨j', as, rt, rr⟩ | o
      · rw [hq] at h
        dsimp only at h
        cases h1 : a_run n j' 0 (a_ent (h_cd j').2 as) [] M with
        | none => rw [h1] at h; cases h
        | some w =>
          obtain ⟨v, M'⟩ := w
          rw [h1] at h
          dsimp only at h
          cases h2 : a_push rt v rr with
          | none => rw [h2] at h; cases h
          | some st' =>
            rw [h2] at h
            have g1 := a_run_grow _ _ _ _ _ _ _ h1
            have g2 := a_run_grow _ _ _ _ _ _ _ h
            dsimp only at g1
            refine s_call (w := (v, M')) hbs F G hq (fun hj' hlen => s_met ih hj' hlen h1) h2 g1.1 g1.2 (by dsimp only; omega) (by dsimp only; omega) (fun ad' H' locs' _ G' => ?_)
            exact ih j (ip + 1) ls st' M' r h p e R s m args below meth c H' locs' lr base D cs ad0 ad' M0 hbs F G' hRc hRs
      · rw [hq] at h
        dsimp only at h
        subst h
        exact s_retn rfl rfl F G hq
/-- the contract of a method out of its value -/
theorem s_ev {l : Launch} {j : Nat} {as : List mV} {M : mM} {r : mR} (hj : j < 185) (hlen : as.length ≤ (h_cd j).2) (h : ev j 0 (a_ent (h_cd j).2 as) [] M = some r) : s_Met l j as M r := by
  obtain ⟨n, hn⟩ := ev_some.mp h
  exact s_met (s_all l n) hj hlen hn
