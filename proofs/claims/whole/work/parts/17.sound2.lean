/-! the rows of the instructions that touch the heap, over the small heap -/
/-- what holds throughout a method's run -/
def s_F (p : Program) (R : Room) (s : State) (m : MethodId) (args : Array Value) (meth : Method) (c : Code) (j base : Nat) (D : va_G) (cs : Nat → ClassId) (ad0 : Nat → Nat) (A : Nat → Prop) : Prop :=
  p.tables.exec = Jvm.exec ∧ c.code = (h_mt j).2.1 ∧ c.maxLocals = (h_cd j).2 ∧ meth.sig.returnType = (h_mt j).2.2.1 ∧ meth.locks = false ∧ meth.name = (h_mt j).1.name ∧ s.vm.findClass (h_mt j).1.cls = some m.cls ∧ (∀ w ∈ s_wj j, w.before args s = true) ∧ s_K D cs s ∧ s_S base ad0 s s.heap ∧ R.frames = (h_mt j).2.2.2.1 ∧ R.locals = 64 * (h_mt j).2.2.2.1 ∧ (∀ q, s.heap.size ≤ q → A q) ∧ (∀ q, A q → base ≤ q) ∧ j < 185
/-- what holds at a place of it -/
def s_G (s : State) (j n0 v0 : Nat) (D : va_G) (cs : Nat → ClassId) (ad0 : Nat → Nat) (A : Nat → Prop) (ad : Nat → Nat) (M : mM) (ls : mL) (st : List mV) (H : Heap) (locs : List Loc) (lr : Array Slot) : Prop :=
  w_2 M ∧ (∀ i v, l_get ls i = some v → w_V M v) ∧ (∀ v ∈ st, w_V M v) ∧ n0 ≤ h_n M ∧ v0 ≤ h_v M ∧ (3 ≤ n0 ∧ ∀ i, i ≤ n0 → ad i = ad0 i) ∧ va_P D vwCl (s_w cs ad M) H ∧ va_D A (s_w cs ad M) ∧ va_S A s.heap H locs ∧ l_rep ad ls lr (h_cd j).2
section SN
variable {p : Program} {l : Launch} {e : Env} {R : Room} {s : State} {m : MethodId} {args : Array Value} {below : List Frame} {meth : Method} {c : Code} {H : Heap} {locs : List Loc} {cells slots : Nat} {Q : State → Prop} {j base : Nat} {D : va_G} {cs : Nat → ClassId} {ad0 ad : Nat → Nat} {A : Nat → Prop} {M : mM} {pc : Nat} {lr : Array Slot} {rest : List Value}
theorem s_getf {t k a i : Nat} (F : s_F p R s m args meth c j base D cs ad0 A) (hw : w_2 M) (hP : va_P D vwCl (s_w cs ad M) H) (ht : t < 8) (hkN : k < h_N t) (hk : h_k M a = t + 1) (hlink : (Cond.fieldLink (h_mt j).1.cls i (s_T t k).1 (s_T t k).2.1 (s_T t k).2.2.1).before args s = true) (hdg : decode (h_mt j).2.1 pc = .ok (.getfield i, 3))
    (kk : W p l e R s m args below meth c H locs cells slots Q (F0 m (pc + 3) lr ((if s_ii (s_ty t k) then .int (h_i M a k) else s_v ad (.inr (h_r M a k))) :: rest))) : W p l e R s m args below meth c H locs cells slots Q (F0 m pc lr (s_v ad (.inr a) :: rest)) := by
  obtain ⟨hx, hb, -, -, -, -, hown, hts, hK, -⟩ := F
  obtain ⟨h3, hn⟩ := hw.1.at hk (by omega) (by omega)
  rw [s_v1 ad (by omega)]
  have he := s_w_get (cs := cs) (ad := ad) h3 hn
  rw [s_ce_obj ht hk] at he
  exact va_get (D := D) hx hb hts (fun w h => List.mem_cons_of_mem _ (s_in ht w h)) hown hK.1 hP (a - 4) he (s_cl ht) k hkN hlink (fun _ h9 => h9) (s_fs_get hkN) hdg kk
theorem s_putI {t k a i : Nat} {x : Int32} (F : s_F p R s m args meth c j base D cs ad0 A) (hw : w_2 M) (hP : va_P D vwCl (s_w cs ad M) H) (hD : va_D A (s_w cs ad M)) (hS : va_S A s.heap H locs) (ht : t < 8) (hkN : k < h_N t) (hk : h_k M a = t + 1) (hii : s_ii (s_ty t k) = true) (hn : narrow (s_ty t k) (.int x) = .int x) (hfit : fits (s_ty t k) (.int x) = true) (hlink : (Cond.fieldLink (h_mt j).1.cls i (s_T t k).1 (s_T t k).2.1 (s_T t k).2.2.1).before args s = true) (hfin : (s_T t k).2.2.2 = false ∨ ((h_mt j).1.name = "<init>" ∧ (s_T t k).1 = (h_mt j).1.cls)) (hdg : decode (h_mt j).2.1 pc = .ok (.putfield i, 3))
    (kk : ∀ (H1 : Heap) (locs1 : List Loc), va_P D vwCl (s_w cs ad (h_si M a k x)) H1 → va_D A (s_w cs ad (h_si M a k x)) → va_S A s.heap H1 locs1 → W p l e R s m args below meth c H1 locs1 cells slots Q (F0 m (pc + 3) lr rest)) : W p l e R s m args below meth c H locs cells slots Q (F0 m pc lr (.int x :: s_v ad (.inr a) :: rest)) := by
  obtain ⟨hx, hb, -, -, -, hname, hown, hts, hK, -⟩ := F
  obtain ⟨h3, hna⟩ := hw.1.at hk (by omega) (by omega)
  rw [s_v1 ad (by omega)]
  have he := s_w_get (cs := cs) (ad := ad) h3 hna
  rw [s_ce_obj ht hk] at he
  have hset : (s_w cs ad M).set (a - 4) (ad a, .inr (t, (s_fs t ad M a).set k (.int x))) = s_w cs ad (h_si M a k x) := by
    rw [s_fs_si hkN hii, ← s_ce_obj (cs := cs) (M := h_si M a k x) ht (by rw [k_si]; exact hk)]
    exact s_w_set rfl h3 hna (fun b hb => s_ce_si hb)
  cases hf : (s_T t k).2.2.2 with
  | false =>
    refine va_put (D := D) (ty := s_ty t k) hx hb hts (fun w h => List.mem_cons_of_mem _ (s_in ht w h)) (s_ty t) (s_tyok ht) (s_nm ht) hown hK.1 hP hD hS (a - 4) he (s_cl ht) k hkN hlink (fun _ h9 => h9) hf (s_tyok ht k hkN) hn hfit (by rw [s_fs_len]; exact hkN) hdg (fun H1 locs1 q1 q2 q3 => ?_)
    rw [hset] at q1 q2
    exact kk H1 locs1 q1 q2 q3
  | true =>
    obtain ⟨f1, f2⟩ := hfin.resolve_left (by rw [hf]; decide)
    refine va_putF (D := D) (ty := s_ty t k) hx hb hts (fun w h => List.mem_cons_of_mem _ (s_in ht w h)) (s_ty t) (s_tyok ht) (s_nm ht) hown hK.1 hP hD hS (a - 4) he (s_cl ht) k hkN hlink (fun _ h9 => h9) hf (hname.trans f1) f2 (s_tyok ht k hkN) hn hfit (by rw [s_fs_len]; exact hkN) hdg (fun H1 locs1 q1 q2 q3 => ?_)
    rw [hset] at q1 q2
    exact kk H1 locs1 q1 q2 q3
theorem s_putR {t k a i r : Nat} (F : s_F p R s m args meth c j base D cs ad0 A) (hw : w_2 M) (hP : va_P D vwCl (s_w cs ad M) H) (hD : va_D A (s_w cs ad M)) (hS : va_S A s.heap H locs) (ht : t < 8) (hkN : k < h_N t) (hk : h_k M a = t + 1) (href : o_ref (s_ty t k) = true) (hlink : (Cond.fieldLink (h_mt j).1.cls i (s_T t k).1 (s_T t k).2.1 (s_T t k).2.2.1).before args s = true) (hfin : (s_T t k).2.2.2 = false ∨ ((h_mt j).1.name = "<init>" ∧ (s_T t k).1 = (h_mt j).1.cls)) (hdg : decode (h_mt j).2.1 pc = .ok (.putfield i, 3))
    (kk : ∀ (H1 : Heap) (locs1 : List Loc), va_P D vwCl (s_w cs ad (h_sr M a k r)) H1 → va_D A (s_w cs ad (h_sr M a k r)) → va_S A s.heap H1 locs1 → W p l e R s m args below meth c H1 locs1 cells slots Q (F0 m (pc + 3) lr rest)) : W p l e R s m args below meth c H locs cells slots Q (F0 m pc lr (s_v ad (.inr r) :: s_v ad (.inr a) :: rest)) := by
  obtain ⟨hx, hb, -, -, -, hname, hown, hts, hK, -⟩ := F
  obtain ⟨h3, hna⟩ := hw.1.at hk (by omega) (by omega)
  rw [s_v1 ad (r := a) (by omega)]
  have he := s_w_get (cs := cs) (ad := ad) h3 hna
  rw [s_ce_obj ht hk] at he
  have hii : s_ii (s_ty t k) = false := by revert href; cases s_ty t k <;> simp [o_ref, s_ii]
  have hn : narrow (s_ty t k) (s_v ad (.inr r)) = s_v ad (.inr r) := by
    by_cases h0 : r = 0
    · subst h0; rw [s_v0]; revert href; cases s_ty t k <;> simp [o_ref, narrow]
    · rw [s_v1 ad h0]; revert href; cases s_ty t k <;> simp [o_ref, narrow]
  have hfit : fits (s_ty t k) (s_v ad (.inr r)) = true := by
    by_cases h0 : r = 0
    · subst h0; rw [s_v0]; revert href; cases s_ty t k <;> simp [o_ref, fits]
    · rw [s_v1 ad h0]; revert href; cases s_ty t k <;> simp [o_ref, fits]
  have hset : (s_w cs ad M).set (a - 4) (ad a, .inr (t, (s_fs t ad M a).set k (s_v ad (.inr r)))) = s_w cs ad (h_sr M a k r) := by
    rw [s_fs_sr hkN hii, ← s_ce_obj (cs := cs) (M := h_sr M a k r) ht (by rw [k_sr]; exact hk)]
    exact s_w_set rfl h3 hna (fun b hb => s_ce_sr hb)
  cases hf : (s_T t k).2.2.2 with
  | false =>
    refine va_put (D := D) (ty := s_ty t k) hx hb hts (fun w h => List.mem_cons_of_mem _ (s_in ht w h)) (s_ty t) (s_tyok ht) (s_nm ht) hown hK.1 hP hD hS (a - 4) he (s_cl ht) k hkN hlink (fun _ h9 => h9) hf (s_tyok ht k hkN) hn hfit (by rw [s_fs_len]; exact hkN) hdg (fun H1 locs1 q1 q2 q3 => ?_)
    rw [hset] at q1 q2
    exact kk H1 locs1 q1 q2 q3
  | true =>
    obtain ⟨f1, f2⟩ := hfin.resolve_left (by rw [hf]; decide)
    refine va_putF (D := D) (ty := s_ty t k) hx hb hts (fun w h => List.mem_cons_of_mem _ (s_in ht w h)) (s_ty t) (s_tyok ht) (s_nm ht) hown hK.1 hP hD hS (a - 4) he (s_cl ht) k hkN hlink (fun _ h9 => h9) hf (hname.trans f1) f2 (s_tyok ht k hkN) hn hfit (by rw [s_fs_len]; exact hkN) hdg (fun H1 locs1 q1 q2 q3 => ?_)
    rw [hset] at q1 q2
    exact kk H1 locs1 q1 q2 q3
/-- the static tables' places -/
theorem s_stat {a : Nat} (hw : w_2 M) (hk : h_k M a = 14) (hS : s_S base ad0 s s.heap) (hx : ∀ i, i ≤ 3 → ad i = ad0 i) : ¬ a = 0 ∧ va_T .int (ad a) (h_l M a) (fun i => if i < h_l M a then .int (h_i M a i) else .int 0) (fun q => base ≤ q) s s.heap ∧ va_X (ad a) (h_l M a) (h_i M a) s s.heap := by
  obtain ⟨⟨q1, q2, q3, q4, q5, q6⟩, s1, s2, s3⟩ := hw
  have h1 := q2 a (by omega)
  have h2 : a ≤ 3 := by
    rcases Nat.lt_or_ge 3 a with h | h
    · have := (q4 a h h1).2; omega
    · exact h
  have h0 : ¬ a = 0 := fun e => by subst e; omega
  refine ⟨h0, ?_⟩
  have key : ∀ (t N : Nat) (C n : String) (f : Nat → Int32), s_S1 base t N C n f s s.heap → h_l M a = N → (∀ i, i < N → h_i M a i = f i) → va_T .int t (h_l M a) (fun i => if i < h_l M a then .int (h_i M a i) else .int 0) (fun q => base ≤ q) s s.heap ∧ va_X t (h_l M a) (h_i M a) s s.heap := by
    intro t N C n f hh hl hi
    obtain ⟨-, ⟨cell, t1, t2, t3, t4, t5, t6, t7⟩, ⟨scr, x1, x2, x3, x4, x5⟩⟩ := hh
    rw [hl]
    refine ⟨⟨cell, t1, t2, t3, t4, t5, fun i h => ?_, t7⟩, ⟨scr, x1, x2, x3, x4, fun i h => ?_⟩⟩
    · rw [t6 i h]; simp only [h, if_true, hi i h]
    · rw [x5 i h, hi i h]
  rcases (show a = 1 ∨ a = 2 ∨ a = 3 by omega) with rfl | rfl | rfl
  · rw [hx 1 (by omega)]; exact key _ _ _ _ _ hS.1 s1.1 s1.2
  · rw [hx 2 (by omega)]; exact key _ _ _ _ _ hS.2.1 s2.1 s2.2
  · rw [hx 3 (by omega)]; exact key _ _ _ _ _ hS.2.2 s3.1 s3.2
theorem s_iald {a : Nat} {i : Int32} (F : s_F p R s m args meth c j base D cs ad0 A) (hw : w_2 M) (hxt : ∀ i, i ≤ 3 → ad i = ad0 i) (hP : va_P D vwCl (s_w cs ad M) H) (hS : va_S A s.heap H locs) (hk : h_k M a = 9 ∨ h_k M a = 14) (hin : h_in i (h_l M a)) (hdg : decode (h_mt j).2.1 pc = .ok (.iaload, 1))
    (kk : W p l e R s m args below meth c H locs cells slots Q (F0 m (pc + 1) lr (.int (h_i M a i.toNatClampNeg) :: rest))) : W p l e R s m args below meth c H locs cells slots Q (F0 m pc lr (.int i :: s_v ad (.inr a) :: rest)) := by
  obtain ⟨hx, hb, -, -, -, -, -, -, hK, hSt, -, -, -, hAb, -⟩ := F
  rcases hk with hk | hk
  · obtain ⟨h3, hna⟩ := hw.1.at hk (by omega) (by omega)
    rw [s_v1 ad (by omega)]
    have he := s_w_get (cs := cs) (ad := ad) h3 hna
    rw [s_ce_int (t := 9) (by omega) (by omega) hk] at he
    exact va_iald hx hb hK.1 hP (a - 4) 0 he rfl hin hdg kk
  · obtain ⟨h0, hT, -⟩ := s_stat hw hk hSt hxt
    rw [s_v1 ad h0]
    have hlt : i.toNatClampNeg < h_l M a := Nat.not_le.mp fun q => hin (Or.inr q)
    exact va_ti hx hb hT (va_S_weak hS hAb) hin (if_pos hlt) hdg kk
theorem s_zald {a : Nat} {i : Int32} (F : s_F p R s m args meth c j base D cs ad0 A) (hw : w_2 M) (hP : va_P D vwCl (s_w cs ad M) H) (hk : h_k M a = 10) (hin : h_in i (h_l M a)) (hdg : decode (h_mt j).2.1 pc = .ok (.baload, 1))
    (kk : W p l e R s m args below meth c H locs cells slots Q (F0 m (pc + 1) lr (.int (h_i M a i.toNatClampNeg) :: rest))) : W p l e R s m args below meth c H locs cells slots Q (F0 m pc lr (.int i :: s_v ad (.inr a) :: rest)) := by
  obtain ⟨hx, hb, -, -, -, -, -, -, hK, -⟩ := F
  obtain ⟨h3, hna⟩ := hw.1.at hk (by omega) (by omega)
  rw [s_v1 ad (by omega)]
  have he := s_w_get (cs := cs) (ad := ad) h3 hna
  rw [s_ce_int (t := 10) (by omega) (by omega) hk] at he
  exact va_zald hx hb hK.1 hP (a - 4) 1 he rfl hin hdg kk
theorem s_aald {a : Nat} {i : Int32} (F : s_F p R s m args meth c j base D cs ad0 A) (hw : w_2 M) (hP : va_P D vwCl (s_w cs ad M) H) (hk : h_k M a = 11 ∨ h_k M a = 12 ∨ h_k M a = 13) (hin : h_in i (h_l M a)) (hdg : decode (h_mt j).2.1 pc = .ok (.aaload, 1))
    (kk : W p l e R s m args below meth c H locs cells slots Q (F0 m (pc + 1) lr (s_v ad (.inr (h_r M a i.toNatClampNeg)) :: rest))) : W p l e R s m args below meth c H locs cells slots Q (F0 m pc lr (.int i :: s_v ad (.inr a) :: rest)) := by
  obtain ⟨hx, hb, -, -, -, -, -, -, hK, -⟩ := F
  have hlt : i.toNatClampNeg < h_l M a := Nat.not_le.mp fun q => hin (Or.inr q)
  have key : ∀ (t t0 : Nat) (ty : FieldType), h_k M a = t → 11 ≤ t → t ≤ 13 → (s_tys cs)[t0]? = some (cs (t - 9), ty) → ty.isReference = true → W p l e R s m args below meth c H locs cells slots Q (F0 m pc lr (.int i :: s_v ad (.inr a) :: rest)) := by
    intro t t0 ty hk h1 h2 ht hr
    obtain ⟨h3, hna⟩ := hw.1.at hk (by omega) (by omega)
    rw [s_v1 ad (by omega)]
    have he := s_w_get (cs := cs) (ad := ad) h3 hna
    rw [s_ce_ref h1 hk] at he
    have hc : H[ad a]? = some (arrV (cs (t - 9)) (h_l M a) (fun i => va_rf (s_o ad (h_r M a i)))) := hP (a - 4) _ he
    refine W.aald hx hb hc ((hK.1.2 t0 _ ht).1 _ _) hr (fun h => by cases h) ?_ ?_ rfl rfl hdg kk
    · simpa [arrV] using hin
    · simp [arrV, hlt, s_v]
  rcases hk with hk | hk | hk
  · exact key 11 2 _ hk (by omega) (by omega) rfl rfl
  · exact key 12 3 _ hk (by omega) (by omega) rfl rfl
  · exact key 13 4 _ hk (by omega) (by omega) rfl rfl
theorem s_alen {a : Nat} (F : s_F p R s m args meth c j base D cs ad0 A) (hw : w_2 M) (hP : va_P D vwCl (s_w cs ad M) H) (hk : 9 ≤ h_k M a ∧ h_k M a ≤ 13) (hdg : decode (h_mt j).2.1 pc = .ok (.arraylength, 1))
    (kk : W p l e R s m args below meth c H locs cells slots Q (F0 m (pc + 1) lr (.int (Int32.ofNat (h_l M a)) :: rest))) : W p l e R s m args below meth c H locs cells slots Q (F0 m pc lr (s_v ad (.inr a) :: rest)) := by
  obtain ⟨hx, hb, -, -, -, -, -, -, hK, -⟩ := F
  obtain ⟨h3, hna⟩ := hw.1.at (a := a) rfl (by omega) (by omega)
  rw [s_v1 ad (by omega)]
  have he := s_w_get (cs := cs) (ad := ad) h3 hna
  rcases (show h_k M a = 9 ∨ h_k M a = 10 ∨ h_k M a = 11 ∨ h_k M a = 12 ∨ h_k M a = 13 by omega) with h | h | h | h | h
  · rw [s_ce_int (t := 9) (by omega) (by omega) h] at he
    exact va_alen hx hb hK.1 hP (a - 4) 0 he rfl rfl hdg kk
  · rw [s_ce_int (t := 10) (by omega) (by omega) h] at he
    exact va_alen hx hb hK.1 hP (a - 4) 1 he rfl rfl hdg kk
  · rw [s_ce_ref (t := 11) (by omega) h] at he
    exact va_alen hx hb hK.1 hP (a - 4) 2 he rfl rfl hdg kk
  · rw [s_ce_ref (t := 12) (by omega) h] at he
    exact va_alen hx hb hK.1 hP (a - 4) 3 he rfl rfl hdg kk
  · rw [s_ce_ref (t := 13) (by omega) h] at he
    exact va_alen hx hb hK.1 hP (a - 4) 4 he rfl rfl hdg kk
theorem s_upd (f : Nat → Int32) (k : Nat) (x : Int32) (M : mM) (a : Nat) (hf : h_i M a = f) : upd f k x = h_i (h_si M a k x) a := by
  funext i
  rw [i_si]
  unfold upd
  subst hf
  by_cases e : i = k <;> simp [e]
theorem s_iast {a : Nat} {i x : Int32} (F : s_F p R s m args meth c j base D cs ad0 A) (hw : w_2 M) (hP : va_P D vwCl (s_w cs ad M) H) (hD : va_D A (s_w cs ad M)) (hS : va_S A s.heap H locs) (hk : h_k M a = 9) (hin : h_in i (h_l M a)) (hdg : decode (h_mt j).2.1 pc = .ok (.iastore, 1))
    (kk : ∀ (H1 : Heap) (locs1 : List Loc), va_P D vwCl (s_w cs ad (h_si M a i.toNatClampNeg x)) H1 → va_D A (s_w cs ad (h_si M a i.toNatClampNeg x)) → va_S A s.heap H1 locs1 → W p l e R s m args below meth c H1 locs1 cells slots Q (F0 m (pc + 1) lr rest)) : W p l e R s m args below meth c H locs cells slots Q (F0 m pc lr (.int x :: .int i :: s_v ad (.inr a) :: rest)) := by
  obtain ⟨hx, hb, -, -, -, -, -, -, hK, -⟩ := F
  obtain ⟨h3, hna⟩ := hw.1.at hk (by omega) (by omega)
  rw [s_v1 ad (by omega)]
  have he := s_w_get (cs := cs) (ad := ad) h3 hna
  rw [s_ce_int (t := 9) (by omega) (by omega) hk] at he
  have hset : (s_w cs ad M).set (a - 4) (ad a, .inl (cs (9 - 9), h_l M a, .inl (upd (h_i M a) i.toNatClampNeg x))) = s_w cs ad (h_si M a i.toNatClampNeg x) := by
    rw [s_upd _ _ _ M a rfl, ← l_si M a i.toNatClampNeg x a, ← s_ce_int (cs := cs) (ad := ad) (M := h_si M a i.toNatClampNeg x) (t := 9) (by omega) (by omega) (by rw [k_si]; exact hk)]
    exact s_w_set rfl h3 hna (fun b hb => s_ce_si hb)
  refine va_iast hx hb hK.1 hP hD hS (a - 4) 0 he rfl hin hdg (fun H1 locs1 q1 q2 q3 => ?_)
  rw [hset] at q1 q2
  exact kk H1 locs1 q1 q2 q3
theorem s_zast {a : Nat} {i x : Int32} (F : s_F p R s m args meth c j base D cs ad0 A) (hw : w_2 M) (hP : va_P D vwCl (s_w cs ad M) H) (hD : va_D A (s_w cs ad M)) (hS : va_S A s.heap H locs) (hk : h_k M a = 10) (hin : h_in i (h_l M a)) (h01 : x = 0 ∨ x = 1) (hdg : decode (h_mt j).2.1 pc = .ok (.bastore, 1))
    (kk : ∀ (H1 : Heap) (locs1 : List Loc), va_P D vwCl (s_w cs ad (h_si M a i.toNatClampNeg x)) H1 → va_D A (s_w cs ad (h_si M a i.toNatClampNeg x)) → va_S A s.heap H1 locs1 → W p l e R s m args below meth c H1 locs1 cells slots Q (F0 m (pc + 1) lr rest)) : W p l e R s m args below meth c H locs cells slots Q (F0 m pc lr (.int x :: .int i :: s_v ad (.inr a) :: rest)) := by
  obtain ⟨hx, hb, -, -, -, -, -, -, hK, -⟩ := F
  obtain ⟨h3, hna⟩ := hw.1.at hk (by omega) (by omega)
  rw [s_v1 ad (by omega)]
  have he := s_w_get (cs := cs) (ad := ad) h3 hna
  rw [s_ce_int (t := 10) (by omega) (by omega) hk] at he
  have hnar : vp_nar .boolean x = x := by rcases h01 with rfl | rfl <;> rfl
  have hset : (s_w cs ad M).set (a - 4) (ad a, .inl (cs (10 - 9), h_l M a, .inl (upd (h_i M a) i.toNatClampNeg (vp_nar .boolean x)))) = s_w cs ad (h_si M a i.toNatClampNeg x) := by
    rw [hnar, s_upd _ _ _ M a rfl, ← l_si M a i.toNatClampNeg x a, ← s_ce_int (cs := cs) (ad := ad) (M := h_si M a i.toNatClampNeg x) (t := 10) (by omega) (by omega) (by rw [k_si]; exact hk)]
    exact s_w_set rfl h3 hna (fun b hb => s_ce_si hb)
  refine va_zast hx hb hK.1 hP hD hS (a - 4) 1 he rfl hin hdg (fun H1 locs1 q1 q2 q3 => ?_)
  rw [hset] at q1 q2
  exact kk H1 locs1 q1 q2 q3
theorem s_aast {a v : Nat} {i : Int32} (F : s_F p R s m args meth c j base D cs ad0 A) (hw : w_2 M) (hP : va_P D vwCl (s_w cs ad M) H) (hD : va_D A (s_w cs ad M)) (hS : va_S A s.heap H locs) (hk : (h_k M a = 11 ∧ h_k M v = 3) ∨ (h_k M a = 12 ∧ h_k M v = 2)) (hin : h_in i (h_l M a)) (hdg : decode (h_mt j).2.1 pc = .ok (.aastore, 1))
    (kk : ∀ (H1 : Heap) (locs1 : List Loc), va_P D vwCl (s_w cs ad (h_sr M a i.toNatClampNeg v)) H1 → va_D A (s_w cs ad (h_sr M a i.toNatClampNeg v)) → va_S A s.heap H1 locs1 → W p l e R s m args below meth c H1 locs1 cells slots Q (F0 m (pc + 1) lr rest)) : W p l e R s m args below meth c H locs cells slots Q (F0 m pc lr (s_v ad (.inr v) :: .int i :: s_v ad (.inr a) :: rest)) := by
  obtain ⟨hx, hb, -, -, -, -, -, -, hK, -⟩ := F
  have key : ∀ (t t0 u : Nat), h_k M a = t → h_k M v = u + 1 → 11 ≤ t → t ≤ 13 → u < 8 → (s_tys cs)[t0]? = some (cs (t - 9), .object (s_R u)) → W p l e R s m args below meth c H locs cells slots Q (F0 m pc lr (s_v ad (.inr v) :: .int i :: s_v ad (.inr a) :: rest)) := by
    intro t t0 u hka hkv h1 h2 hu ht
    obtain ⟨h3, hna⟩ := hw.1.at hka (by omega) (by omega)
    obtain ⟨h4, hnv⟩ := hw.1.at hkv (by omega) (by omega)
    rw [s_v1 ad (r := a) (by omega), s_v1 ad (r := v) (by omega)]
    have he := s_w_get (cs := cs) (ad := ad) h3 hna
    rw [s_ce_ref h1 hka] at he
    have hv := s_w_get (cs := cs) (ad := ad) h4 hnv
    rw [s_ce_obj hu hkv] at hv
    have hup : va_up (fun i => s_o ad (h_r M a i)) i.toNatClampNeg (some (ad v)) = fun k => s_o ad (h_r (h_sr M a i.toNatClampNeg v) a k) := by
      funext k
      rw [r_sr]
      unfold va_up
      by_cases e : k = i.toNatClampNeg
      · subst e; rw [if_pos rfl, if_pos ⟨rfl, rfl⟩]; simp [s_o, show ¬ v = 0 by omega]
      · rw [if_neg e, if_neg (fun q => e q.2)]
    have hset : (s_w cs ad M).set (a - 4) (ad a, .inl (cs (t - 9), h_l M a, .inr (.inr (.inr (.inr (va_up (fun i => s_o ad (h_r M a i)) i.toNatClampNeg (some (ad v)))))))) = s_w cs ad (h_sr M a i.toNatClampNeg v) := by
      rw [hup, ← l_sr M a i.toNatClampNeg v a, ← s_ce_ref (cs := cs) (ad := ad) (M := h_sr M a i.toNatClampNeg v) (t := t) h1 (by rw [k_sr]; exact hka)]
      exact s_w_set rfl h3 hna (fun b hb => s_ce_sr hb)
    refine va_astq hx hb hK.1 hP hD hS (a - 4) t0 (v - 4) u he ht hv (s_cl hu) hin hdg (fun H1 locs1 q1 q2 q3 => ?_)
    rw [hset] at q1 q2
    exact kk H1 locs1 q1 q2 q3
  rcases hk with ⟨h1, h2⟩ | ⟨h1, h2⟩
  · exact key 11 2 2 h1 h2 (by omega) (by omega) (by omega) rfl
  · exact key 12 3 1 h1 h2 (by omega) (by omega) (by omega) rfl
end SN
