/-! one step of the small machine is a stretch of the machine's run -/
theorem o_n_l {j ip pc len k : Nat} (h : o_n j ip pc len k = true) : len = k ∧ p_c j (ip + 1) = pc + k := by
  simp only [o_n, Bool.and_eq_true, decide_eq_true_eq] at h
  exact h
theorem o_t_l {j pc : Nat} {t off : Int} (h : o_t j pc t off = true) : (pc : Int) + off = ((p_c j t.toNat : Nat) : Int) := of_decide_eq_true h
theorem a_sw_l {x : Int32} {k : Nat → mA} {d : Int} {z : mC} : ∀ (ts : List Int) (lo : Int), a_sw x k d lo ts = .inl z → (∃ (i : Nat) (t : Int), ts[i]? = some t ∧ x = Int32.ofInt (lo + i) ∧ k t.toNat = .inl z) ∨ ((∀ i : Nat, i < ts.length → ¬ x = Int32.ofInt (lo + i)) ∧ k d.toNat = .inl z) := by
  intro ts
  induction ts with
  | nil => intro lo h; exact Or.inr ⟨fun i hi => absurd hi (Nat.not_lt_zero i), h⟩
  | cons t ts ih =>
    intro lo h
    rw [a_sw] at h
    by_cases hh : x = Int32.ofInt lo
    · rw [if_pos hh] at h
      exact Or.inl ⟨0, t, rfl, by simpa using hh, h⟩
    · rw [if_neg hh] at h
      rcases ih (lo + 1) h with ⟨i, t', h1, h2, h3⟩ | ⟨h1, h2⟩
      · exact Or.inl ⟨i + 1, t', by simpa using h1, by rw [h2]; congr 1; push_cast; omega, h3⟩
      · refine Or.inr ⟨fun i hi => ?_, h2⟩
        cases i with
        | zero => simpa using hh
        | succ i =>
          have h4 := h1 i (by simpa using hi)
          intro h5
          exact h4 (by rw [h5]; congr 1; push_cast; omega)
theorem s_small {v : Int} (h0 : 0 ≤ v) (h1 : v < 1000) : (Int32.ofInt v).toInt = v := by
  rw [Int32.toInt_ofInt, show (Int32.size : Nat) = 4294967296 from rfl]
  simp only [Int.bmod]
  omega
theorem s_oinj {ad : Nat → Nat} {M : mM} {D : va_G} {cs : Nat → ClassId} {A : Nat → Prop} {a b : Nat} (hw : w_2 M) (hD : va_D A (s_w cs ad M)) (ha : a ≤ h_n M) (hb : b ≤ h_n M) (ka : ¬ h_k M a = 14) (kb : ¬ h_k M b = 14) : s_o ad a = s_o ad b ↔ a = b := by
  obtain ⟨⟨q1, q2, q3, q4, q5, q6⟩, -⟩ := hw
  constructor
  · intro h
    unfold s_o at h
    by_cases h1 : a = 0 <;> by_cases h2 : b = 0
    · omega
    · simp [h1, h2] at h
    · simp [h1, h2] at h
    · simp only [h1, h2, if_false, Option.some.injEq] at h
      have g1 : 3 < a := by
        rcases Nat.lt_or_ge 3 a with g | g
        · exact g
        · exact absurd (q3 a (by omega) g) ka
      have g2 : 3 < b := by
        rcases Nat.lt_or_ge 3 b with g | g
        · exact g
        · exact absurd (q3 b (by omega) g) kb
      have := hD.1 (a - 4) (b - 4) _ _ (s_w_get g1 ha) (s_w_get g2 hb) h
      omega
  · intro h; rw [h]
section SQ
variable {p : Program} {l : Launch} {e : Env} {R : Room} {s : State} {m : MethodId} {args : Array Value} {below : List Frame} {meth : Method} {c : Code} {H : Heap} {locs : List Loc} {cells slots : Nat} {Q : State → Prop} {j base n0 v0 : Nat} {D : va_G} {cs : Nat → ClassId} {ad0 ad : Nat → Nat} {A : Nat → Prop} {M : mM} {pc : Nat} {lr : Array Slot} {rest : List Value} {cc : ByteArray}
theorem s_aload {i x : Nat} (hx : p.tables.exec = Jvm.exec) (hb : c.code = cc) (hg : lr[i]? = some (.val (s_v ad (.inr x)))) (hdg : decode cc pc = .ok (.aload i, 2)) (kk : W p l e R s m args below meth c H locs cells slots Q (F0 m (pc + 2) lr (s_v ad (.inr x) :: rest))) : W p l e R s m args below meth c H locs cells slots Q (F0 m pc lr rest) := by
  by_cases h : x = 0
  · subst h
    rw [s_v0] at hg kk
    exact lv_aloadN hx hb hdg hg kk
  · rw [s_v1 ad h] at hg kk
    exact lv_aload hx hb hdg hg kk
theorem s_aloadn {x : Nat} {k : Fin 4} (hx : p.tables.exec = Jvm.exec) (hb : c.code = cc) (hg : lr[k.val]? = some (.val (s_v ad (.inr x)))) (hdg : decode cc pc = .ok (.aload_n k, 1)) (kk : W p l e R s m args below meth c H locs cells slots Q (F0 m (pc + 1) lr (s_v ad (.inr x) :: rest))) : W p l e R s m args below meth c H locs cells slots Q (F0 m pc lr rest) := by
  by_cases h : x = 0
  · subst h
    rw [s_v0] at hg kk
    exact lv_aload_nN hx hb hdg rfl hg kk
  · rw [s_v1 ad h] at hg kk
    exact lv_aload_n hx hb hdg rfl hg kk
theorem s_astore {i x : Nat} {ls : mL} {nL : Nat} (hx : p.tables.exec = Jvm.exec) (hb : c.code = cc) (h : l_rep ad ls lr nL) (hi : i < nL) (hdg : decode cc pc = .ok (.astore i, 2)) (kk : ∀ lr' : Array Slot, l_rep ad (l_set ls i (.inr x)) lr' nL → W p l e R s m args below meth c H locs cells slots Q (F0 m (pc + 2) lr' rest)) : W p l e R s m args below meth c H locs cells slots Q (F0 m pc lr (s_v ad (.inr x) :: rest)) := by
  by_cases h0 : x = 0
  · subst h0
    rw [s_v0]
    exact lv_astoreN hx hb hdg h.has hi rfl (fun lr' h' => kk lr' (h.put hi (s_v0 ad) h'))
  · rw [s_v1 ad h0]
    exact lv_astore hx hb hdg h.has hi rfl (fun lr' h' => kk lr' (h.put hi (s_v1 ad h0) h'))
theorem s_astoren {x : Nat} {ls : mL} {nL : Nat} {k : Fin 4} (hx : p.tables.exec = Jvm.exec) (hb : c.code = cc) (h : l_rep ad ls lr nL) (hi : k.val < nL) (hdg : decode cc pc = .ok (.astore_n k, 1)) (kk : ∀ lr' : Array Slot, l_rep ad (l_set ls k.val (.inr x)) lr' nL → W p l e R s m args below meth c H locs cells slots Q (F0 m (pc + 1) lr' rest)) : W p l e R s m args below meth c H locs cells slots Q (F0 m pc lr (s_v ad (.inr x) :: rest)) := by
  by_cases h0 : x = 0
  · subst h0
    rw [s_v0]
    exact lv_astore_nN hx hb hdg rfl h.has hi rfl (fun lr' h' => kk lr' (h.put hi (s_v0 ad) h'))
  · rw [s_v1 ad h0]
    exact lv_astore_n hx hb hdg rfl h.has hi rfl (fun lr' h' => kk lr' (h.put hi (s_v1 ad h0) h'))
theorem s_sum (ad : Nat → Nat) : ∀ r : List mV, ((r.map (s_v ad)).map fun v => v.category).sum = r.length := by
  intro r
  induction r with
  | nil => rfl
  | cons v r ih =>
    simp only [List.map_cons, List.sum_cons, List.length_cons, s_cat]
    rw [ih]; omega
set_option maxHeartbeats 4000000 in
set_option maxRecDepth 100000 in
theorem s_next {ip ip' : Nat} {ls ls' : mL} {st st' : List mV} {M' : mM} (F : s_F p R s m args meth c j base D cs ad0 A) (G : s_G s j n0 v0 D cs ad0 A ad M ls st H locs lr) (hok : o_at j ip = true) (ha : a_ct (h_cd j).1 ip ls st M = .inl (ip', ls', st', M')) (hcR : h_n M' - n0 ≤ R.cells) (hsR : h_v M' - v0 ≤ R.slots)
    (kk : ∀ (ad' : Nat → Nat) (H' : Heap) (locs' : List Loc) (lr' : Array Slot), (∀ i, i ≤ h_n M → ad' i = ad i) → h_n M ≤ h_n M' → h_v M ≤ h_v M' → s_G s j n0 v0 D cs ad0 A ad' M' ls' st' H' locs' lr' → W p l e R s m args below meth c H' locs' (h_n M' - n0) (h_v M' - v0) Q (F0 m (p_c j ip') lr' (st'.map (s_v ad')))) :
    W p l e R s m args below meth c H locs (h_n M - n0) (h_v M - v0) Q (F0 m (p_c j ip) lr (st.map (s_v ad))) := by
  obtain ⟨hw, hwl, hws, hn0, hv0, hxa, hP, hD, hS, hl⟩ := G
  have hxt : ∀ i, i ≤ 3 → ad i = ad0 i := fun i hi => hxa.2 i (Nat.le_trans hi hxa.1)
  obtain ⟨hx, hb, hml, hr, hlocks, hname, hown, hts, hK, hSt, hfr, hlo, hA0, hAb, hj⟩ := id F
  have hm := (ok_of hj).2.1
  have hrk : 1 ≤ (h_mt j).2.2.2.1 := by
    simp only [o_m, Bool.and_eq_true, decide_eq_true_eq] at hm
    exact hm.1.2
  have hword : ∀ (i : Nat) (w : Cond), o_w i w = true → goodWord w = true → w.before args s = true := fun i w h1 h2 => hts w (List.mem_cons_of_mem _ (o_w_in h1 h2))
  unfold o_at at hok
  cases he : (h_lk j)[ip]? with
  | none => rw [he] at hok; cases hok
  | some q =>
  obtain ⟨pc, Ri, len, wi⟩ := q
  rw [he] at hok
  simp only [Bool.and_eq_true, decide_eq_true_eq] at hok
  obtain ⟨hdg, hok⟩ := hok
  have hpc : p_c j ip = pc := by unfold p_c; rw [List.getD_eq_getElem?_getD, he]; rfl
  rw [hpc]
  unfold a_ct at ha
  generalize a_nth (h_cd j).1 ip = Li at ha hok
  have K0 : ∀ (st1 : List mV) (k : Nat), M' = M → ls' = ls → st' = st1 → ip' = ip + 1 → p_c j (ip + 1) = pc + k → (∀ v ∈ st1, w_V M v) → W p l e R s m args below meth c H locs (h_n M - n0) (h_v M - v0) Q (F0 m (pc + k) lr (st1.map (s_v ad))) := by
    intro st1 k e1 e2 e3 e4 e5 e6
    subst e1; subst e2; subst e3; subst e4
    rw [← e5]
    exact kk ad H locs lr (fun _ _ => rfl) (Nat.le_refl _) (Nat.le_refl _) ⟨hw, hwl, e6, hn0, hv0, hxa, hP, hD, hS, hl⟩
  have KT : ∀ (st1 : List mV) (t : Nat), M' = M → ls' = ls → st' = st1 → ip' = t → (∀ v ∈ st1, w_V M v) → W p l e R s m args below meth c H locs (h_n M - n0) (h_v M - v0) Q (F0 m (p_c j t) lr (st1.map (s_v ad))) := by
    intro st1 t e1 e2 e3 e4 e6
    subst e1; subst e2; subst e3; subst e4
    exact kk ad H locs lr (fun _ _ => rfl) (Nat.le_refl _) (Nat.le_refl _) ⟨hw, hwl, e6, hn0, hv0, hxa, hP, hD, hS, hl⟩
  have KH : ∀ (st1 : List mV) (k : Nat) (M1 : mM) (H1 : Heap) (locs1 : List Loc), M' = M1 → ls' = ls → st' = st1 → ip' = ip + 1 → p_c j (ip + 1) = pc + k → h_n M1 = h_n M → h_v M1 = h_v M → w_2 M1 → (∀ v ∈ st1, w_V M v) → va_P D vwCl (s_w cs ad M1) H1 → va_D A (s_w cs ad M1) → va_S A s.heap H1 locs1 → W p l e R s m args below meth c H1 locs1 (h_n M - n0) (h_v M - v0) Q (F0 m (pc + k) lr (st1.map (s_v ad))) := by
    intro st1 k M1 H1 locs1 e1 e2 e3 e4 e5 f1 f2 f3 e6 q1 q2 q3
    subst e1; subst e2; subst e3; subst e4
    rw [← e5, ← f1, ← f2]
    exact kk ad H1 locs1 lr (fun _ _ => rfl) (by omega) (by omega) ⟨f3, fun i v hv => w_up (by omega) (hwl i v hv), fun v hv => w_up (by omega) (e6 v hv), by omega, by omega, hxa, q1, q2, q3, hl⟩
  have KL : ∀ (st1 : List mV) (i k : Nat) (x : mV) (lr1 : Array Slot), M' = M → ls' = l_set ls i x → st' = st1 → ip' = ip + 1 → p_c j (ip + 1) = pc + k → w_V M x → (∀ v ∈ st1, w_V M v) → l_rep ad (l_set ls i x) lr1 (h_cd j).2 → W p l e R s m args below meth c H locs (h_n M - n0) (h_v M - v0) Q (F0 m (pc + k) lr1 (st1.map (s_v ad))) := by
    intro st1 i k x lr1 e1 e2 e3 e4 e5 f1 e6 f2
    subst e1; subst e2; subst e3; subst e4
    rw [← e5]
    exact kk ad H locs lr1 (fun _ _ => rfl) (Nat.le_refl _) (Nat.le_refl _) ⟨hw, w_ls hwl f1, e6, hn0, hv0, hxa, hP, hD, hS, f2⟩
  have KA : ∀ (st1 : List mV) (k t n q : Nat) (H1 : Heap), M' = h_al M t n → ls' = ls → st' = .inr (h_n M + 1) :: st1 → ip' = ip + 1 → p_c j (ip + 1) = pc + k → 1 ≤ t → t ≤ 13 → (∀ v ∈ st1, w_V M v) → va_P D vwCl (s_w cs (va_up ad (h_n M + 1) q) (h_al M t n)) H1 → va_D A (s_w cs (va_up ad (h_n M + 1) q) (h_al M t n)) → va_S A s.heap H1 locs → W p l e R s m args below meth c H1 locs (h_n M - n0 + 1) (h_v M - v0 + n) Q (F0 m (pc + k) lr (.ref q :: st1.map (s_v ad))) := by
    intro st1 k t n q H1 e1 e2 e3 e4 e5 f1 f2 e6 q1 q2 q3
    subst e1; subst e2; subst e3; subst e4
    have hx9 : ∀ i, i ≤ h_n M → va_up ad (h_n M + 1) q i = ad i := fun i hi => by unfold va_up; rw [if_neg (by omega)]
    rw [← e5, show h_n M - n0 + 1 = h_n (h_al M t n) - n0 by rw [n_al]; omega, show h_v M - v0 + n = h_v (h_al M t n) - v0 by rw [v_al]; omega]
    have h3 := hw.1.1
    have := kk (va_up ad (h_n M + 1) q) H1 locs lr hx9 (by rw [n_al]; omega) (by rw [v_al]; omega) ⟨w_al hw f1 f2, fun i v hv => w_up (by rw [n_al]; omega) (hwl i v hv), w_c (Nat.le_refl _) (fun v hv => w_up (by rw [n_al]; omega) (e6 v hv)), by rw [n_al]; omega, by rw [v_al]; omega, ⟨hxa.1, fun i hi => (hx9 i (by omega)).trans (hxa.2 i hi)⟩, q1, q2, q3, hl.ext hx9 hwl⟩
    rw [List.map_cons, s_v1 _ (by omega), s_up, s_vs_ext hx9 e6] at this
    exact this
  unfold o_k at hok
  split at hok
  · cases ha
  · simp only [Bool.and_eq_true, decide_eq_true_eq] at hok
    obtain ⟨h1, h2⟩ := hok
    obtain ⟨rfl, hnx⟩ := o_n_l h2
    cases ha
    exact lv_iconst hx hb hdg h1 (K0 _ 1 rfl rfl rfl rfl hnx (w_c trivial hws))
  · simp only [Bool.and_eq_true, decide_eq_true_eq] at hok
    obtain ⟨h1, h2⟩ := hok
    obtain ⟨rfl, hnx⟩ := o_n_l h2
    cases ha
    exact lv_bipush hx hb hdg h1 (K0 _ 2 rfl rfl rfl rfl hnx (w_c trivial hws))
  · simp only [Bool.and_eq_true, decide_eq_true_eq] at hok
    obtain ⟨h1, h2⟩ := hok
    obtain ⟨rfl, hnx⟩ := o_n_l h2
    cases ha
    exact lv_sipush hx hb hdg h1 (K0 _ 3 rfl rfl rfl rfl hnx (w_c trivial hws))
  · simp only [Bool.and_eq_true] at hok
    obtain ⟨h1, h2⟩ := hok
    obtain ⟨rfl, hnx⟩ := o_n_l h2
    cases ha
    exact lv_ldc hx hb hown (hword _ _ h1 rfl) hdg (K0 _ 2 rfl rfl rfl rfl hnx (w_c trivial hws))
  · simp only [Bool.and_eq_true] at hok
    obtain ⟨h1, h2⟩ := hok
    obtain ⟨rfl, hnx⟩ := o_n_l h2
    cases ha
    exact lv_ldcw hx hb hown (hword _ _ h1 rfl) hdg (K0 _ 3 rfl rfl rfl rfl hnx (w_c trivial hws))
  · obtain ⟨rfl, hnx⟩ := o_n_l hok
    cases ha
    exact lv_null hx hb hdg (K0 (.inr 0 :: st) 1 rfl rfl rfl rfl hnx (w_c (Nat.zero_le _) hws))
  · simp only [Bool.and_eq_true, decide_eq_true_eq] at hok
    obtain ⟨rfl, h2⟩ := hok
    obtain ⟨rfl, hnx⟩ := o_n_l h2
    dsimp only at ha
    split at ha
    · rename_i x hg
      cases ha
      exact lv_iload hx hb hdg (hl.2.2.2 _ _ hg) (K0 _ 2 rfl rfl rfl rfl hnx (w_c trivial hws))
    · cases ha
  · simp only [Bool.and_eq_true, decide_eq_true_eq] at hok
    obtain ⟨rfl, h2⟩ := hok
    obtain ⟨rfl, hnx⟩ := o_n_l h2
    dsimp only at ha
    split at ha
    · rename_i x hg
      cases ha
      exact lv_iload_n hx hb hdg rfl (hl.2.2.2 _ _ hg) (K0 _ 1 rfl rfl rfl rfl hnx (w_c trivial hws))
    · cases ha
  · simp only [Bool.and_eq_true, decide_eq_true_eq] at hok
    obtain ⟨rfl, h2⟩ := hok
    obtain ⟨rfl, hnx⟩ := o_n_l h2
    dsimp only at ha
    split at ha
    · rename_i x hg
      cases ha
      exact s_aload hx hb (hl.2.2.2 _ _ hg) hdg (K0 (.inr x :: st) 2 rfl rfl rfl rfl hnx (w_c (hwl _ _ hg) hws))
    · cases ha
  · simp only [Bool.and_eq_true, decide_eq_true_eq] at hok
    obtain ⟨rfl, h2⟩ := hok
    obtain ⟨rfl, hnx⟩ := o_n_l h2
    dsimp only at ha
    split at ha
    · rename_i x hg
      cases ha
      exact s_aloadn hx hb (hl.2.2.2 _ _ hg) hdg (K0 (.inr x :: st) 1 rfl rfl rfl rfl hnx (w_c (hwl _ _ hg) hws))
    · cases ha
  · simp only [Bool.and_eq_true, decide_eq_true_eq] at hok
    obtain ⟨⟨rfl, h1⟩, h2⟩ := hok
    obtain ⟨rfl, hnx⟩ := o_n_l h2
    obtain ⟨x, r, rfl, hz⟩ := b_1_l ha
    cases hz
    exact lv_istore hx hb hdg hl.has h1 rfl (fun lr' h' => KL st' _ 2 (.inl x) lr' rfl rfl rfl rfl hnx trivial (w_t hws) (hl.put h1 rfl h'))
  · simp only [Bool.and_eq_true, decide_eq_true_eq] at hok
    obtain ⟨⟨rfl, h1⟩, h2⟩ := hok
    obtain ⟨rfl, hnx⟩ := o_n_l h2
    obtain ⟨x, r, rfl, hz⟩ := b_1_l ha
    cases hz
    exact lv_istore_n hx hb hdg rfl hl.has h1 rfl (fun lr' h' => KL st' _ 1 (.inl x) lr' rfl rfl rfl rfl hnx trivial (w_t hws) (hl.put h1 rfl h'))
  · simp only [Bool.and_eq_true, decide_eq_true_eq] at hok
    obtain ⟨⟨rfl, h1⟩, h2⟩ := hok
    obtain ⟨rfl, hnx⟩ := o_n_l h2
    obtain ⟨x, r, rfl, hz⟩ := p_1_l ha
    cases hz
    exact s_astore hx hb hl h1 hdg (fun lr' h' => KL st' _ 2 (.inr x) lr' rfl rfl rfl rfl hnx (w_h hws) (w_t hws) h')
  · simp only [Bool.and_eq_true, decide_eq_true_eq] at hok
    obtain ⟨⟨rfl, h1⟩, h2⟩ := hok
    obtain ⟨rfl, hnx⟩ := o_n_l h2
    obtain ⟨x, r, rfl, hz⟩ := p_1_l ha
    cases hz
    exact s_astoren hx hb hl h1 hdg (fun lr' h' => KL st' _ 1 (.inr x) lr' rfl rfl rfl rfl hnx (w_h hws) (w_t hws) h')
  · simp only [Bool.and_eq_true, decide_eq_true_eq] at hok
    obtain ⟨⟨⟨rfl, rfl⟩, h1⟩, h2⟩ := hok
    obtain ⟨rfl, hnx⟩ := o_n_l h2
    dsimp only at ha
    split at ha
    · rename_i x hg
      cases ha
      obtain ⟨k9, hk9⟩ := List.getElem?_of_mem (l_lv_mem (ad := ad) hg)
      exact lv_iinc hx hb hdg hl.has hk9 rfl h1 rfl (fun lr' h' => KL st _ 3 _ lr' rfl rfl rfl rfl hnx trivial hws (hl.put h1 rfl h'))
    · cases ha
  · obtain ⟨rfl, hnx⟩ := o_n_l hok
    obtain ⟨x, y, r, rfl, hz⟩ := b_2_l ha
    cases hz
    exact lv_iadd hx hb hdg (K0 (.inl (x + y) :: r) 1 rfl rfl rfl rfl hnx (w_c trivial (w_t (w_t hws))))
  · obtain ⟨rfl, hnx⟩ := o_n_l hok
    obtain ⟨x, y, r, rfl, hz⟩ := b_2_l ha
    cases hz
    exact lv_isub hx hb hdg (K0 (.inl (x - y) :: r) 1 rfl rfl rfl rfl hnx (w_c trivial (w_t (w_t hws))))
  · obtain ⟨rfl, hnx⟩ := o_n_l hok
    obtain ⟨x, y, r, rfl, hz⟩ := b_2_l ha
    cases hz
    exact lv_imul hx hb hdg (K0 (.inl (x * y) :: r) 1 rfl rfl rfl rfl hnx (w_c trivial (w_t (w_t hws))))
  · obtain ⟨rfl, hnx⟩ := o_n_l hok
    obtain ⟨x, y, r, rfl, hz⟩ := b_2_l ha
    cases hz
    exact lv_iand hx hb hdg (K0 (.inl (x &&& y) :: r) 1 rfl rfl rfl rfl hnx (w_c trivial (w_t (w_t hws))))
  · obtain ⟨rfl, hnx⟩ := o_n_l hok
    obtain ⟨x, y, r, rfl, hz⟩ := b_2_l ha
    cases hz
    exact lv_ior hx hb hdg (K0 (.inl (x ||| y) :: r) 1 rfl rfl rfl rfl hnx (w_c trivial (w_t (w_t hws))))
  · obtain ⟨rfl, hnx⟩ := o_n_l hok
    obtain ⟨x, y, r, rfl, hz⟩ := b_2_l ha
    cases hz
    exact lv_ixor hx hb hdg (K0 (.inl (x ^^^ y) :: r) 1 rfl rfl rfl rfl hnx (w_c trivial (w_t (w_t hws))))
  · obtain ⟨rfl, hnx⟩ := o_n_l hok
    obtain ⟨x, y, r, rfl, hz⟩ := b_2_l ha
    obtain ⟨hg, hz⟩ := a_g_l hz
    cases hz
    exact lv_idiv hx hb hdg hg (K0 (.inl (x / y) :: r) 1 rfl rfl rfl rfl hnx (w_c trivial (w_t (w_t hws))))
  · obtain ⟨rfl, hnx⟩ := o_n_l hok
    obtain ⟨x, y, r, rfl, hz⟩ := b_2_l ha
    obtain ⟨hg, hz⟩ := a_g_l hz
    cases hz
    exact lv_irem hx hb hdg hg (K0 (.inl (x - x / y * y) :: r) 1 rfl rfl rfl rfl hnx (w_c trivial (w_t (w_t hws))))
  · obtain ⟨rfl, hnx⟩ := o_n_l hok
    obtain ⟨x, y, r, rfl, hz⟩ := b_2_l ha
    cases hz
    exact lv_ishl hx hb hdg (K0 (.inl (x <<< (y &&& 31)) :: r) 1 rfl rfl rfl rfl hnx (w_c trivial (w_t (w_t hws))))
  · obtain ⟨rfl, hnx⟩ := o_n_l hok
    obtain ⟨x, y, r, rfl, hz⟩ := b_2_l ha
    cases hz
    exact lv_ishr hx hb hdg (K0 (.inl (x >>> (y &&& 31)) :: r) 1 rfl rfl rfl rfl hnx (w_c trivial (w_t (w_t hws))))
  · obtain ⟨rfl, hnx⟩ := o_n_l hok
    obtain ⟨x, y, r, rfl, hz⟩ := b_2_l ha
    cases hz
    exact lv_iushr hx hb hdg rfl (K0 (.inl ((x.toUInt32 >>> (y.toUInt32 &&& Int32.toUInt32 31)).toInt32) :: r) 1 rfl rfl rfl rfl hnx (w_c trivial (w_t (w_t hws))))
  · obtain ⟨rfl, hnx⟩ := o_n_l hok
    obtain ⟨v, r, rfl, hz⟩ := d_1_l ha
    cases hz
    exact lv_dup hx hb hdg (s_cat ad v) (K0 (v :: v :: r) 1 rfl rfl rfl rfl hnx (w_c (w_h hws) hws))
  · obtain ⟨rfl, hnx⟩ := o_n_l hok
    obtain ⟨v, w, r, rfl, hz⟩ := d_2_l ha
    cases hz
    exact lv_dup2_11 hx hb hdg (s_cat ad v) (s_cat ad w) (K0 (v :: w :: v :: w :: r) 1 rfl rfl rfl rfl hnx (w_c (w_h hws) (w_c (w_h (w_t hws)) hws)))
  · simp only [Bool.and_eq_true, decide_eq_true_eq] at hok
    obtain ⟨rfl, h2⟩ := hok
    cases ha
    exact lv_goto hx hb hdg (o_t_l h2) (KT _ _ rfl rfl rfl rfl hws)
  · rename_i c1 t c2 o
    simp only [Bool.and_eq_true, decide_eq_true_eq] at hok
    obtain ⟨⟨e1, h2⟩, h3⟩ := hok
    subst e1
    obtain ⟨rfl, hnx⟩ := o_n_l h2
    have ht := o_t_l h3
    cases c1 <;> dsimp only at ha
    · obtain ⟨x, y, r, rfl, hz⟩ := b_2_l ha
      refine lv_icmp_eq hx hb hdg ht (fun hc => ?_) (fun hc => ?_)
      · rw [if_pos hc] at hz; cases hz; exact KT st' _ rfl rfl rfl rfl (w_t (w_t hws))
      · rw [if_neg hc] at hz; cases hz; exact K0 st' 3 rfl rfl rfl rfl hnx (w_t (w_t hws))
    · obtain ⟨x, y, r, rfl, hz⟩ := b_2_l ha
      refine lv_icmp_ne hx hb hdg ht (fun hc => ?_) (fun hc => ?_)
      · rw [if_neg hc] at hz; cases hz; exact KT st' _ rfl rfl rfl rfl (w_t (w_t hws))
      · rw [if_pos hc] at hz; cases hz; exact K0 st' 3 rfl rfl rfl rfl hnx (w_t (w_t hws))
    · obtain ⟨x, y, r, rfl, hz⟩ := b_2_l ha
      refine lv_icmp_lt hx hb hdg ht (fun hc => ?_) (fun hc => ?_)
      · rw [if_pos hc] at hz; cases hz; exact KT st' _ rfl rfl rfl rfl (w_t (w_t hws))
      · rw [if_neg hc] at hz; cases hz; exact K0 st' 3 rfl rfl rfl rfl hnx (w_t (w_t hws))
    · obtain ⟨x, y, r, rfl, hz⟩ := b_2_l ha
      refine lv_icmp_ge hx hb hdg ht (fun hc => ?_) (fun hc => ?_)
      · rw [if_pos hc] at hz; cases hz; exact KT st' _ rfl rfl rfl rfl (w_t (w_t hws))
      · rw [if_neg hc] at hz; cases hz; exact K0 st' 3 rfl rfl rfl rfl hnx (w_t (w_t hws))
    · obtain ⟨x, y, r, rfl, hz⟩ := b_2_l ha
      refine lv_icmp_gt hx hb hdg ht (fun hc => ?_) (fun hc => ?_)
      · rw [if_pos hc] at hz; cases hz; exact KT st' _ rfl rfl rfl rfl (w_t (w_t hws))
      · rw [if_neg hc] at hz; cases hz; exact K0 st' 3 rfl rfl rfl rfl hnx (w_t (w_t hws))
    · obtain ⟨x, y, r, rfl, hz⟩ := b_2_l ha
      refine lv_icmp_le hx hb hdg ht (fun hc => ?_) (fun hc => ?_)
      · rw [if_pos hc] at hz; cases hz; exact KT st' _ rfl rfl rfl rfl (w_t (w_t hws))
      · rw [if_neg hc] at hz; cases hz; exact K0 st' 3 rfl rfl rfl rfl hnx (w_t (w_t hws))
  · rename_i c1 t c2 o
    simp only [Bool.and_eq_true, decide_eq_true_eq] at hok
    obtain ⟨⟨e1, h2⟩, h3⟩ := hok
    subst e1
    obtain ⟨rfl, hnx⟩ := o_n_l h2
    have ht := o_t_l h3
    cases c1 <;> dsimp only at ha
    · obtain ⟨x, r, rfl, hz⟩ := b_1_l ha
      refine lv_if_eq hx hb hdg ht (fun hc => ?_) (fun hc => ?_)
      · rw [if_pos hc] at hz; cases hz; exact KT st' _ rfl rfl rfl rfl (w_t hws)
      · rw [if_neg hc] at hz; cases hz; exact K0 st' 3 rfl rfl rfl rfl hnx (w_t hws)
    · obtain ⟨x, r, rfl, hz⟩ := b_1_l ha
      refine lv_if_ne hx hb hdg ht (fun hc => ?_) (fun hc => ?_)
      · rw [if_neg hc] at hz; cases hz; exact KT st' _ rfl rfl rfl rfl (w_t hws)
      · rw [if_pos hc] at hz; cases hz; exact K0 st' 3 rfl rfl rfl rfl hnx (w_t hws)
    · obtain ⟨x, r, rfl, hz⟩ := b_1_l ha
      refine lv_if_lt hx hb hdg ht (fun hc => ?_) (fun hc => ?_)
      · rw [if_pos hc] at hz; cases hz; exact KT st' _ rfl rfl rfl rfl (w_t hws)
      · rw [if_neg hc] at hz; cases hz; exact K0 st' 3 rfl rfl rfl rfl hnx (w_t hws)
    · obtain ⟨x, r, rfl, hz⟩ := b_1_l ha
      refine lv_if_ge hx hb hdg ht (fun hc => ?_) (fun hc => ?_)
      · rw [if_pos hc] at hz; cases hz; exact KT st' _ rfl rfl rfl rfl (w_t hws)
      · rw [if_neg hc] at hz; cases hz; exact K0 st' 3 rfl rfl rfl rfl hnx (w_t hws)
    · obtain ⟨x, r, rfl, hz⟩ := b_1_l ha
      refine lv_if_gt hx hb hdg ht (fun hc => ?_) (fun hc => ?_)
      · rw [if_pos hc] at hz; cases hz; exact KT st' _ rfl rfl rfl rfl (w_t hws)
      · rw [if_neg hc] at hz; cases hz; exact K0 st' 3 rfl rfl rfl rfl hnx (w_t hws)
    · obtain ⟨x, r, rfl, hz⟩ := b_1_l ha
      refine lv_if_le hx hb hdg ht (fun hc => ?_) (fun hc => ?_)
      · rw [if_pos hc] at hz; cases hz; exact KT st' _ rfl rfl rfl rfl (w_t hws)
      · rw [if_neg hc] at hz; cases hz; exact K0 st' 3 rfl rfl rfl rfl hnx (w_t hws)
  · simp only [Bool.and_eq_true] at hok
    obtain ⟨h2, h3⟩ := hok
    obtain ⟨rfl, hnx⟩ := o_n_l h2
    obtain ⟨a, r, rfl, hz⟩ := p_1_l ha
    by_cases h0 : a = 0
    · rw [if_pos h0] at hz; cases hz; subst h0
      exact lv_ifnullN hx hb hdg (o_t_l h3) (KT st' _ rfl rfl rfl rfl (w_t hws))
    · rw [if_neg h0] at hz; cases hz
      rw [List.map_cons, s_v1 ad h0]
      exact lv_ifnull hx hb hdg (K0 st' 3 rfl rfl rfl rfl hnx (w_t hws))
  · simp only [Bool.and_eq_true] at hok
    obtain ⟨h2, h3⟩ := hok
    obtain ⟨rfl, hnx⟩ := o_n_l h2
    obtain ⟨a, r, rfl, hz⟩ := p_1_l ha
    by_cases h0 : a = 0
    · rw [if_pos h0] at hz; cases hz; subst h0
      exact lv_ifnonnullN hx hb hdg (K0 st' 3 rfl rfl rfl rfl hnx (w_t hws))
    · rw [if_neg h0] at hz; cases hz
      rw [List.map_cons, s_v1 ad h0]
      exact lv_ifnonnull hx hb hdg (o_t_l h3) (KT st' _ rfl rfl rfl rfl (w_t hws))
  · rename_i c1 t c2 o
    simp only [Bool.and_eq_true, decide_eq_true_eq] at hok
    obtain ⟨⟨e1, h2⟩, h3⟩ := hok
    subst e1
    obtain ⟨rfl, hnx⟩ := o_n_l h2
    have ht := o_t_l h3
    cases c1 <;> dsimp only at ha
    · obtain ⟨a, b, r, rfl, hz⟩ := p_2_l ha
      obtain ⟨hg, hz⟩ := a_g_l hz
      have hij := s_oinj (D := D) hw hD (w_h (w_t hws)) (w_h hws) hg.1 hg.2
      refine lv_acmp_eq (rx := s_o ad a) (ry := s_o ad b) hx hb hdg ht (fun hc => ?_) (fun hc => ?_)
      · rw [if_pos (hij.mp hc)] at hz; cases hz; exact KT st' _ rfl rfl rfl rfl (w_t (w_t hws))
      · rw [if_neg (fun q => hc (hij.mpr q))] at hz; cases hz; exact K0 st' 3 rfl rfl rfl rfl hnx (w_t (w_t hws))
    · obtain ⟨a, b, r, rfl, hz⟩ := p_2_l ha
      obtain ⟨hg, hz⟩ := a_g_l hz
      have hij := s_oinj (D := D) hw hD (w_h (w_t hws)) (w_h hws) hg.1 hg.2
      refine lv_acmp_ne (rx := s_o ad a) (ry := s_o ad b) hx hb hdg ht (fun hc => ?_) (fun hc => ?_)
      · rw [if_neg (fun q => hc (hij.mpr q))] at hz; cases hz; exact KT st' _ rfl rfl rfl rfl (w_t (w_t hws))
      · rw [if_pos (hij.mp hc)] at hz; cases hz; exact K0 st' 3 rfl rfl rfl rfl hnx (w_t (w_t hws))
  · rename_i d lo hi ts d' lo' hi' os
    simp only [Bool.and_eq_true, decide_eq_true_eq] at hok
    obtain ⟨⟨⟨⟨⟨⟨⟨e1, e2⟩, g0⟩, g1⟩, g2⟩, hd⟩, g3⟩, hall⟩ := hok
    subst e1; subst e2
    obtain ⟨x, r, rfl, hz⟩ := b_1_l ha
    rcases a_sw_l _ _ hz with ⟨i, t, h1, h2, h3⟩ | ⟨h1, h2⟩
    · cases h3
      have hi9 : i < ts.toList.length := (List.getElem?_eq_some_iff.mp h1).1
      have hx9 : x.toInt = lo + i := by rw [h2]; exact s_small (by omega) (by omega)
      have ho : os.toList[i]? = some (os.toList[i]'(by omega)) := List.getElem?_eq_getElem (by omega)
      have hz : o_t j pc t (os.toList[i]'(by omega)) = true := by
        refine List.all_eq_true.mp hall (t, os.toList[i]'(by omega)) (List.mem_of_getElem? (i := i) ?_)
        rw [List.getElem?_zip_eq_some]
        exact ⟨h1, ho⟩
      refine lv_tableIn hx hb hdg (by omega) (by omega) (off := os.toList[i]'(by omega)) ?_ (o_t_l hz) (KT st' _ rfl rfl rfl rfl (w_t hws))
      rw [show (x.toInt - lo).toNat = i by omega]
      simpa using ho
    · cases h2
      refine lv_tableOut hx hb hdg ?_ (o_t_l hd) (KT st' _ rfl rfl rfl rfl (w_t hws))
      by_cases k1 : x.toInt < lo
      · exact Or.inl k1
      · by_cases k2 : hi < x.toInt
        · exact Or.inr k2
        · exact absurd (by rw [show lo + (((x.toInt - lo).toNat : Nat) : Int) = x.toInt by omega]; exact (Int32.ofInt_toInt x).symm) (h1 (x.toInt - lo).toNat (by omega))
  · simp only [Bool.and_eq_true, decide_eq_true_eq] at hok
    obtain ⟨⟨⟨⟨h1, h2⟩, h3⟩, h4⟩, h5⟩ := hok
    obtain ⟨rfl, hnx⟩ := o_n_l h5
    obtain ⟨a, r, rfl, hz⟩ := p_1_l ha
    obtain ⟨hg, hz⟩ := a_g_l hz
    cases hz
    refine s_getf F hw hP h1 h2 hg (hword _ _ h4 rfl) hdg ?_
    rw [if_pos h3]
    exact K0 (.inl _ :: r) 3 rfl rfl rfl rfl hnx (w_c trivial (w_t hws))
  · simp only [Bool.and_eq_true, decide_eq_true_eq, Bool.not_eq_true'] at hok
    obtain ⟨⟨⟨⟨h1, h2⟩, h3⟩, h4⟩, h5⟩ := hok
    obtain ⟨rfl, hnx⟩ := o_n_l h5
    obtain ⟨a, r, rfl, hz⟩ := p_1_l ha
    obtain ⟨hg, hz⟩ := a_g_l hz
    cases hz
    refine s_getf F hw hP h1 h2 hg (hword _ _ h4 rfl) hdg ?_
    rw [if_neg (by rw [h3]; decide)]
    exact K0 (.inr _ :: r) 3 rfl rfl rfl rfl hnx (w_c (hw.1.2.2.2.2.2 _ _) (w_t hws))
  · simp only [Bool.and_eq_true, decide_eq_true_eq, Bool.or_eq_true, Bool.not_eq_true'] at hok
    obtain ⟨⟨⟨⟨⟨h1, h2⟩, h3⟩, h4⟩, h6⟩, h5⟩ := hok
    obtain ⟨rfl, hnx⟩ := o_n_l h5
    obtain ⟨a, x, r, rfl, hz⟩ := p_i_l ha
    obtain ⟨hg, hz⟩ := a_g_l hz
    cases hz
    exact s_putI F hw hP hD hS h1 h2 hg (by rw [h3]; rfl) (by rw [h3]; rfl) (by rw [h3]; rfl) (hword _ _ h4 rfl) h6 hdg (fun H1 locs1 q1 q2 q3 => KH st' 3 _ H1 locs1 rfl rfl rfl rfl hnx rfl rfl (w_si hw (hw.1.at hg (by omega) (by omega)).1) (w_t (w_t hws)) q1 q2 q3)
  · simp only [Bool.and_eq_true, decide_eq_true_eq, Bool.or_eq_true, Bool.not_eq_true'] at hok
    obtain ⟨⟨⟨⟨⟨h1, h2⟩, h3⟩, h4⟩, h6⟩, h5⟩ := hok
    obtain ⟨rfl, hnx⟩ := o_n_l h5
    obtain ⟨a, x, r, rfl, hz⟩ := p_i_l ha
    obtain ⟨hg, hz⟩ := a_g_l hz
    cases hz
    exact s_putI F hw hP hD hS h1 h2 hg.1 (by rw [h3]; rfl) (by rw [h3]; rcases hg.2 with e | e <;> rw [e] <;> rfl) (by rw [h3]; rcases hg.2 with e | e <;> rw [e] <;> rfl) (hword _ _ h4 rfl) h6 hdg (fun H1 locs1 q1 q2 q3 => KH st' 3 _ H1 locs1 rfl rfl rfl rfl hnx rfl rfl (w_si hw (hw.1.at hg.1 (by omega) (by omega)).1) (w_t (w_t hws)) q1 q2 q3)
  · simp only [Bool.and_eq_true, decide_eq_true_eq, Bool.or_eq_true, Bool.not_eq_true'] at hok
    obtain ⟨⟨⟨⟨⟨h1, h2⟩, h3⟩, h4⟩, h6⟩, h5⟩ := hok
    obtain ⟨rfl, hnx⟩ := o_n_l h5
    obtain ⟨a, x, r, rfl, hz⟩ := p_2_l ha
    obtain ⟨hg, hz⟩ := a_g_l hz
    cases hz
    exact s_putR F hw hP hD hS h1 h2 hg h3 (hword _ _ h4 rfl) h6 hdg (fun H1 locs1 q1 q2 q3 => KH st' 3 _ H1 locs1 rfl rfl rfl rfl hnx rfl rfl (w_sr hw (w_h hws)) (w_t (w_t hws)) q1 q2 q3)
  · obtain ⟨rfl, hnx⟩ := o_n_l hok
    obtain ⟨a, x, r, rfl, hz⟩ := p_i_l ha
    obtain ⟨hg, hz⟩ := a_g_l hz
    cases hz
    exact s_iald F hw hxt hP hS hg.1 hg.2 hdg (K0 (.inl _ :: r) 1 rfl rfl rfl rfl hnx (w_c trivial (w_t (w_t hws))))
  · obtain ⟨rfl, hnx⟩ := o_n_l hok
    obtain ⟨a, x, r, rfl, hz⟩ := p_i_l ha
    obtain ⟨hg, hz⟩ := a_g_l hz
    cases hz
    exact s_zald F hw hP hg.1 hg.2 hdg (K0 (.inl _ :: r) 1 rfl rfl rfl rfl hnx (w_c trivial (w_t (w_t hws))))
  · obtain ⟨rfl, hnx⟩ := o_n_l hok
    obtain ⟨a, x, r, rfl, hz⟩ := p_i_l ha
    obtain ⟨hg, hz⟩ := a_g_l hz
    cases hz
    exact s_aald F hw hP hg.1 hg.2 hdg (K0 (.inr _ :: r) 1 rfl rfl rfl rfl hnx (w_c (hw.1.2.2.2.2.2 _ _) (w_t (w_t hws))))
  · obtain ⟨rfl, hnx⟩ := o_n_l hok
    obtain ⟨a, i, x, r, rfl, hz⟩ := p_ii_l ha
    obtain ⟨hg, hz⟩ := a_g_l hz
    cases hz
    exact s_iast F hw hP hD hS hg.1 hg.2 hdg (fun H1 locs1 q1 q2 q3 => KH st' 1 _ H1 locs1 rfl rfl rfl rfl hnx rfl rfl (w_si hw (hw.1.at hg.1 (by omega) (by omega)).1) (w_t (w_t (w_t hws))) q1 q2 q3)
  · obtain ⟨rfl, hnx⟩ := o_n_l hok
    obtain ⟨a, i, x, r, rfl, hz⟩ := p_ii_l ha
    obtain ⟨hg, hz⟩ := a_g_l hz
    cases hz
    exact s_zast F hw hP hD hS hg.1 hg.2.1 hg.2.2 hdg (fun H1 locs1 q1 q2 q3 => KH st' 1 _ H1 locs1 rfl rfl rfl rfl hnx rfl rfl (w_si hw (hw.1.at hg.1 (by omega) (by omega)).1) (w_t (w_t (w_t hws))) q1 q2 q3)
  · obtain ⟨rfl, hnx⟩ := o_n_l hok
    obtain ⟨a, i, x, r, rfl, hz⟩ := p_ir_l ha
    obtain ⟨hg, hz⟩ := a_g_l hz
    cases hz
    exact s_aast F hw hP hD hS hg.1 hg.2 hdg (fun H1 locs1 q1 q2 q3 => KH st' 1 _ H1 locs1 rfl rfl rfl rfl hnx rfl rfl (w_sr hw (w_h hws)) (w_t (w_t (w_t hws))) q1 q2 q3)
  · obtain ⟨rfl, hnx⟩ := o_n_l hok
    obtain ⟨a, r, rfl, hz⟩ := p_1_l ha
    obtain ⟨hg, hz⟩ := a_g_l hz
    cases hz
    exact s_alen F hw hP hg hdg (K0 (.inl _ :: r) 1 rfl rfl rfl rfl hnx (w_c trivial (w_t hws)))
  · simp only [Bool.and_eq_true, decide_eq_true_eq] at hok
    obtain ⟨⟨h1, h2⟩, h3⟩ := hok
    obtain ⟨rfl, hnx⟩ := o_n_l h3
    cases ha
    rw [n_al] at hcR
    rw [v_al] at hsR
    exact s_newc F hw hP hD hS h1 (hword _ _ h2 rfl) (by omega) (by omega) hdg (fun q H1 q1 q2 q3 => KA st 3 _ _ q H1 rfl rfl rfl rfl hnx (by omega) (by omega) hws q1 q2 q3)
  · rename_i a1 a2
    simp only [Bool.and_eq_true, decide_eq_true_eq] at hok
    obtain ⟨e1, h3⟩ := hok
    subst e1
    obtain ⟨rfl, hnx⟩ := o_n_l h3
    cases a1 <;> dsimp only at ha
    case int =>
      obtain ⟨x, r, rfl, hz⟩ := b_1_l ha
      obtain ⟨hg, hz⟩ := a_g_l hz
      cases hz
      rw [n_al] at hcR
      rw [v_al] at hsR
      exact s_newI (Or.inl ⟨rfl, rfl⟩) F hw hP hD hS hg (by omega) (by omega) hdg (fun q H1 q1 q2 q3 => KA r 2 _ _ q H1 rfl rfl rfl rfl hnx (by omega) (by omega) (w_t hws) q1 q2 q3)
    case boolean =>
      obtain ⟨x, r, rfl, hz⟩ := b_1_l ha
      obtain ⟨hg, hz⟩ := a_g_l hz
      cases hz
      rw [n_al] at hcR
      rw [v_al] at hsR
      exact s_newI (Or.inr ⟨rfl, rfl⟩) F hw hP hD hS hg (by omega) (by omega) hdg (fun q H1 q1 q2 q3 => KA r 2 _ _ q H1 rfl rfl rfl rfl hnx (by omega) (by omega) (w_t hws) q1 q2 q3)
    all_goals cases ha
  · simp only [Bool.and_eq_true, decide_eq_true_eq, Bool.or_eq_true] at hok
    obtain ⟨h1, h3⟩ := hok
    obtain ⟨rfl, hnx⟩ := o_n_l h3
    obtain ⟨x, r, rfl, hz⟩ := b_1_l ha
    obtain ⟨hg, hz⟩ := a_g_l hz
    cases hz
    rw [n_al] at hcR
    rw [v_al] at hsR
    rcases h1 with ⟨rfl, h2⟩ | ⟨rfl, h2⟩
    · exact s_newR (by omega) (by omega) (u := 2) rfl F hK.2.2.1 (hword _ _ h2 rfl) hw hP hD hS hg (by omega) (by omega) hdg (fun q H1 q1 q2 q3 => KA r 3 _ _ q H1 rfl rfl rfl rfl hnx (by omega) (by omega) (w_t hws) q1 q2 q3)
    · exact s_newR (by omega) (by omega) (u := 3) rfl F hK.2.2.2.1 (hword _ _ h2 rfl) hw hP hD hS hg (by omega) (by omega) hdg (fun q H1 q1 q2 q3 => KA r 3 _ _ q H1 rfl rfl rfl rfl hnx (by omega) (by omega) (w_t hws) q1 q2 q3)
  · simp only [Bool.and_eq_true] at hok
    obtain ⟨h1, h3⟩ := hok
    obtain ⟨rfl, hnx⟩ := o_n_l h3
    obtain ⟨x, y, r, rfl, hz⟩ := b_2_l ha
    obtain ⟨hg, hz⟩ := a_g_l hz
    obtain ⟨rfl, rfl⟩ := hg
    cases hz
    rw [n_mn] at hcR
    rw [v_mn] at hsR
    have h33 := hw.1.1
    refine s_mna F (hword _ _ h1 rfl) hw hP hD hS (by omega) (by omega) hdg (fun ad' H1 hx9 q1 q2 q3 => ?_)
    have := kk ad' H1 locs lr hx9 (by rw [n_mn]; omega) (by rw [v_mn]; omega) ⟨w_mn hw, fun i v hv => w_up (by rw [n_mn]; omega) (hwl i v hv), w_c (show h_n M + 1 ≤ h_n (h_mn M 5 8) by rw [n_mn]; omega) (fun v hv => w_up (by rw [n_mn]; omega) (w_t (w_t hws) v hv)), by rw [n_mn]; omega, by rw [v_mn]; omega, ⟨hxa.1, fun i hi => (hx9 i (by omega)).trans (hxa.2 i hi)⟩, q1, q2, q3, hl.ext hx9 hwl⟩
    rw [List.map_cons, s_v1 _ (by omega), s_vs_ext hx9 (w_t (w_t hws)), hnx, show h_n (h_mn M 5 8) - n0 = h_n M - n0 + 6 by rw [n_mn]; omega, show h_v (h_mn M 5 8) - v0 = h_v M - v0 + 45 by rw [v_mn]; omega] at this
    exact this
  · simp only [Bool.and_eq_true, decide_eq_true_eq, Bool.or_eq_true] at hok
    obtain ⟨h1, h3⟩ := hok
    obtain ⟨rfl, hnx⟩ := o_n_l h3
    cases ha
    have h33 := hw.1.1
    rcases h1 with (⟨rfl, h2⟩ | ⟨rfl, h2⟩) | ⟨rfl, h2⟩
    · refine va_gets hx hb hSt.1.1 (va_S_weak hS hAb) hown (hword _ _ h2 rfl) (fun _ h9 => h9) hdg ?_
      rw [← hxt 1 (by omega)]
      exact K0 (.inr 1 :: st) 3 rfl rfl rfl rfl hnx (w_c (show 1 ≤ h_n M by omega) hws)
    · refine va_gets hx hb hSt.2.1.1 (va_S_weak hS hAb) hown (hword _ _ h2 rfl) (fun _ h9 => h9) hdg ?_
      rw [← hxt 2 (by omega)]
      exact K0 (.inr 2 :: st) 3 rfl rfl rfl rfl hnx (w_c (show 2 ≤ h_n M by omega) hws)
    · refine va_gets hx hb hSt.2.2.1 (va_S_weak hS hAb) hown (hword _ _ h2 rfl) (fun _ h9 => h9) hdg ?_
      rw [← hxt 3 (by omega)]
      exact K0 (.inr 3 :: st) 3 rfl rfl rfl rfl hnx (w_c (show 3 ≤ h_n M by omega) hws)
  · simp only [Bool.and_eq_true] at hok
    obtain ⟨h1, h3⟩ := hok
    obtain ⟨rfl, hnx⟩ := o_n_l h3
    obtain ⟨a, r, rfl, hz⟩ := p_1_l ha
    obtain ⟨hg, hz⟩ := a_g_l hz
    cases hz
    exact s_oini F (hword _ _ h1 rfl) hrk hl.2.1 (by rw [s_sum]; exact hg.2) hg.1 hdg (K0 st' 3 rfl rfl rfl rfl hnx (w_t hws))
  · simp only [Bool.and_eq_true] at hok
    obtain ⟨h1, h3⟩ := hok
    obtain ⟨rfl, hnx⟩ := o_n_l h3
    obtain ⟨a, sp, b, dp, n, r, rfl, hz⟩ := p_cp_l ha
    obtain ⟨hg, hz⟩ := a_g_l hz
    cases hz
    exact s_copy F (hword _ _ h1 rfl) hrk hl.2.1 (by rw [s_sum]; exact hg.2.2.2) hw hxt hP hD hS hg.1 hg.2.1 hg.2.2.1 hdg (fun H1 locs1 q1 q2 q3 => KH st' 3 _ H1 locs1 rfl rfl rfl rfl hnx rfl rfl (w_cp hw (hw.1.at hg.1.2 (by omega) (by omega)).1) (w_t (w_t (w_t (w_t (w_t hws))))) q1 q2 q3)
  · dsimp only at ha
    split at ha
    · obtain ⟨-, ha⟩ := a_g_l ha
      cases ha
    · cases ha
  · dsimp only at ha
    split at ha
    · obtain ⟨-, ha⟩ := a_g_l ha
      cases ha
    · cases ha
  · dsimp only at ha
    split at ha
    · obtain ⟨-, ha⟩ := a_g_l ha
      cases ha
    · cases ha
  · obtain ⟨x, r, -, hz⟩ := b_1_l ha
    unfold a_ret at hz
    split at hz <;> cases hz
  · obtain ⟨x, r, -, hz⟩ := b_1_l ha
    obtain ⟨-, hz⟩ := a_g_l hz
    unfold a_ret at hz
    split at hz <;> cases hz
  · obtain ⟨x, r, -, hz⟩ := p_1_l ha
    unfold a_ret at hz
    split at hz <;> cases hz
  · dsimp only at ha
    split at ha <;> cases ha
  · cases hok
end SQ
