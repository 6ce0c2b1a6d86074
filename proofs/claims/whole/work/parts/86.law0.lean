/-! THE CLAIM OUT OF ONE WALK OF THE LAW'S BODY. Your part is whole_start (and what it stands on); all else here is the same for every law, but numbers. -/
def R_law : String := "GranuleHallLaw"
def lw_P (b : Addr) (xs : List Int32) (args : Array Value) (s : State) : Prop := args = #[.ref b] ∧ s.IntsAt b xs ∧ xs.length ≤ 2561 ∧ (Jvm.Cond.and given_1 narrow_1).before args s = true
def lw_Q (_ : Array Value) (s : State) (o : Outcome) (t : State) : Prop := o = .returned (some (.int 1)) ∧ Framed s o t [] 628569 7216541
def lw_Z (below : List Frame) (a : Array Value) (s : State) : State → Prop := fun t => ∃ o, t.status = .running ∧ Ended t below o ∧ lw_Q a s o t
/-- the law's own end, with 1 on the stack, nothing written that was there before, its room as the claim has it -/
theorem lw_ret {p : Program} {l : Launch} {e : Env} {s : State} {m : MethodId} {below : List Frame} {meth : Method} {c : Code} {b : Nat} (hx : p.tables.exec = Jvm.exec) (hb : c.code = code) (hr : meth.sig.returnType = ret) (hlocks : meth.locks = false) {pc : Nat} {H : Heap} {ls : Array Slot} (hdg : decode code pc = .ok (.ireturn, 1)) : W p l e room_1 s m #[Value.ref b] below meth c H [] 628569 7216541 (lw_Z below #[Value.ref b] s) (F0 m pc ls [.int 1]) := by
  intro T hT X
  obtain ⟨fs, hret, hrun, hended, hW, hframe⟩ := X.leave (v := some (.int 1)) (hlocks := hlocks) (fun h => by rw [hr] at h; cases h)
  have hmeth' : T.vm.method? m = some meth := X.method'
  refine ⟨T.setFrames fs, ?_, .returned (some (.int 1)), hrun, hended, rfl, ⟨_, rfl⟩, hW, hframe⟩
  jvm_step X.here [X.here.top, hx, hb, hdg, hmeth', hr, ret, narrow_b1]
  (try refine ⟨rfl, ?_⟩); (try refine ⟨rfl, ?_⟩)
  first | (intro acts; rw [hret _ acts rfl rfl rfl]) | rw [hret _ _ rfl rfl rfl]
  exact Steps.refl _
/-- what holds at the law's entry: the machine, the code, the tables' words (any of lw_tbl by 'hts w (by decide +kernel)'), the script of L ints xs at the cell b, what the Statement gives of the start (any of its parts by flat_of_before) -/
def lw_At (p : Program) (s : State) (m : MethodId) (meth : Method) (c : Code) (b L : Nat) (xs : Nat → Int32) : Prop :=
  p.tables.exec = Jvm.exec ∧ c.code = code ∧ meth.sig.returnType = ret ∧ c.maxLocals = 4 ∧ s.vm.findClass R_law = some m.cls ∧ (∀ w ∈ lw_tbl, w.before #[Value.ref b] s = true) ∧ va_X b L xs s s.heap ∧ b < s.heap.size ∧ meth.locks = false ∧ (Jvm.Cond.and given_1 narrow_1).before #[Value.ref b] s = true
/-! two small heaps in one heap -/
def L2 (s : State) (D : va_G) (cs : Nat → ClassId) (ad0 ad1 : Nat → Nat) (M1 : mM) (ad2 : Nat → Nat) (M2 : mM) (H : Heap) (locs : List Loc) : Prop := w_2 M1 ∧ w_2 M2 ∧ va_P D vwCl (s_w cs ad1 M1) H ∧ va_P D vwCl (s_w cs ad2 M2) H ∧ va_D (fun q => s.heap.size ≤ q) (s_w cs ad1 M1) ∧ va_D (fun q => s.heap.size ≤ q) (s_w cs ad2 M2) ∧ (∀ i j, 3 < i → i ≤ h_n M1 → 3 < j → j ≤ h_n M2 → ad1 i ≠ ad2 j) ∧ va_S (fun q => s.heap.size ≤ q) s.heap H locs ∧ ∀ i, i ≤ 3 → ad1 i = ad0 i ∧ ad2 i = ad0 i
theorem L2.symm {s : State} {D : va_G} {cs : Nat → ClassId} {ad0 ad1 ad2 : Nat → Nat} {M1 M2 : mM} {H : Heap} {locs : List Loc} (h : L2 s D cs ad0 ad1 M1 ad2 M2 H locs) : L2 s D cs ad0 ad2 M2 ad1 M1 H locs := by
  obtain ⟨a1, a2, a3, a4, a5, a6, a7, a8, a9⟩ := h
  exact ⟨a2, a1, a4, a3, a6, a5, fun i j h1 h2 h3 h4 e => a7 j i h3 h4 h1 h2 e.symm, a8, fun i hi => ⟨(a9 i hi).2, (a9 i hi).1⟩⟩
theorem s_w_at {cs : Nat → ClassId} {ad : Nat → Nat} {M : mM} {k : Nat} {q : Nat × va_E} (h : (s_w cs ad M)[k]? = some q) : 3 < k + 4 ∧ k + 4 ≤ h_n M ∧ q.1 = ad (k + 4) := by
  unfold s_w at h
  rw [List.getElem?_map, Option.map_eq_some_iff] at h
  obtain ⟨i, h1, h2⟩ := h
  obtain ⟨hlt, e⟩ := List.getElem?_eq_some_iff.mp h1
  rw [List.length_range] at hlt
  rw [List.getElem_range] at e
  subst e
  exact ⟨by omega, by omega, by rw [← h2]⟩
section LW
variable {p : Program} {l : Launch} {e : Env} {R : Room} {s : State} {m : MethodId} {args : Array Value} {below : List Frame} {meth : Method} {c : Code} {H : Heap} {locs : List Loc} {cells slots : Nat} {Q : State → Prop} {D : va_G} {cs : Nat → ClassId} {ad0 ad1 ad2 : Nat → Nat} {M1 M2 : mM} {pc : Nat} {lr : Array Slot} {rest : List Value}
/-- behind a call on the first of two small heaps -/
theorem lw_back {w : mR} {st0 : List Value} {a : Array Value} (hrun : va_Run p l e R s m args below meth c H locs cells slots (h_n w.2 - h_n M1) (h_v w.2 - h_v M1) (F0 m pc lr st0) rest (s_Q D cs ad1 M1 w H.size a) (s_A ad1 M1 H.size)) (hL : L2 s D cs ad0 ad1 M1 ad2 M2 H locs) (h3 : 3 ≤ h_n M1)
    (kk : ∀ (ad' : Nat → Nat) (H' : Heap) (locs' : List Loc), (∀ i, i ≤ h_n M1 → ad' i = ad1 i) → L2 s D cs ad0 ad' w.2 ad2 M2 H' locs' → W p l e R s m args below meth c H' locs' (cells + (h_n w.2 - h_n M1)) (slots + (h_v w.2 - h_v M1)) Q (F0 m (pc + 3) lr ((w.1.map (s_v ad')).toList ++ rest))) : W p l e R s m args below meth c H locs cells slots Q (F0 m pc lr st0) := by
  obtain ⟨a1, a2, a3, a4, a5, a6, a7, a8, a9⟩ := hL
  have hAA : ∀ q, s_A ad1 M1 H.size q → s.heap.size ≤ q := fun q hq => by
    rcases hq with ⟨i, h1, h2, rfl⟩ | h
    · exact a5.2 _ _ (s_w_get h1 h2)
    · exact Nat.le_trans a8.1 h
  have hlt2 : ∀ j, 3 < j → j ≤ h_n M2 → ad2 j < H.size := fun j h1 h2 => (a4 _ _ (s_w_get (cs := cs) (ad := ad2) h1 h2)).lt
  have hn2 : ∀ j, 3 < j → j ≤ h_n M2 → ¬ s_A ad1 M1 H.size (ad2 j) := fun j h1 h2 hq => by
    rcases hq with ⟨i, g1, g2, e⟩ | h
    · exact a7 i j g1 g2 h1 h2 e.symm
    · exact absurd (hlt2 j h1 h2) (Nat.not_lt.mpr h)
  intro T hT X
  obtain ⟨v, st₀, t, T', L, h0, X', hL', e1, e2, ⟨⟨ad', x1, x2, x3, x4, x5, x6⟩, hz, hk⟩, st⟩ := hrun T hT X
  cases x2
  rw [h0] at hz hk
  have hS' : va_S (fun q => s.heap.size ≤ q) s.heap T'.heap (locs ++ L) := ⟨Nat.le_trans a8.1 (by rw [e1]; exact hz), fun q h1 h2 => by rw [e1, hk q (Nat.lt_of_lt_of_le h1 a8.1) (fun z => h2 (hAA q z))]; exact a8.2.1 q h1 h2, fun q hq => by
      rcases List.mem_append.mp hq with h | h
      · exact a8.2.2 q h
      · exact hAA _ (hL' q h)⟩
  have hP2 : va_P D vwCl (s_w cs ad2 M2) T'.heap := a4.kept (fun k q hq => by
    obtain ⟨g1, g2, g3⟩ := s_w_at hq
    rw [e1, g3]
    exact hk _ (hlt2 _ g1 g2) (hn2 _ g1 g2))
  have hdis : ∀ i j, 3 < i → i ≤ h_n w.2 → 3 < j → j ≤ h_n M2 → ad' i ≠ ad2 j := fun i j g1 g2 g3 g4 e => by
    have := x6.2 _ _ (s_w_get (cs := cs) (ad := ad') g1 g2)
    rw [show (ad' i, s_ce cs ad' w.2 i).1 = ad2 j from e] at this
    exact hn2 j g3 g4 this
  obtain ⟨t2, b1, b2⟩ := kk ad' T'.heap (locs ++ L) x1 ⟨x3, a2, by rw [e1]; exact x5, hP2, ⟨x6.1, fun k q hq => hAA _ (x6.2 k q hq)⟩, a6, hdis, hS', fun i hi => ⟨(x1 i (by omega)).trans (a9 i hi).1, (a9 i hi).2⟩⟩ T' rfl X'
  exact ⟨t2, st t2 b1, b2⟩
theorem lw_gc {j' : Nat} {ws : List Cond} (hj : j' < 185) (h : ∀ w ∈ ws, w ∈ s_ws) : GoodIn lw_tbl (ws ++ s_wj j') := fun w hw => by
  have h9 : w ∈ s_ws := by
    rcases List.mem_append.mp hw with h1 | h1
    · exact h w h1
    · rcases List.mem_cons.mp h1 with h2 | h2
      · rw [h2]; exact s_code hj
      · exact h2
  exact ⟨(List.mem_filter.mp h9).1, s_good h9⟩
theorem lw_pre {ad : Nat → Nat} {M : mM} (hK : s_K D cs s) (hSt : s_S s.heap.size ad0 s s.heap) (hL : L2 s D cs ad0 ad M ad2 M2 H locs) : ∀ U : State, U.heap = H → s.WarmedH U.vm → s_Pre D cs s.heap.size H.size ad M U := fun U hU hW => by
  obtain ⟨a1, a2, a3, a4, a5, a6, a7, a8, a9⟩ := hL
  refine ⟨by rw [hU], a8.1, by rw [hU]; exact a3, a5, hK.warm hW, ?_⟩
  rw [hU]
  exact ((hSt.ext (fun i hi => (a9 i hi).1)).kept (fun a h1 h2 => a8.2.1 a h1 h2)).moved hW.alike
set_option maxHeartbeats 2000000 in
/-- a call of a method of the first of two small heaps, by the law -/
theorem lw_callV {b L : Nat} {xs : Nat → Int32} (C0 : lw_At p s m meth c b L xs) (hK : s_K D cs s) (hSt : s_S s.heap.size ad0 s s.heap) (hL : L2 s D cs ad0 ad1 M1 ad2 M2 H locs) {j ix t : Nat} {as : List mV} {w : mR} (hj : j < 185) (ht : t < 8) (hk : h_k M1 4 = t + 1) (hR : s_R t = (h_mt j).1.cls) (hlen : (.inr 4 :: as : List mV).length ≤ (h_cd j).2) (hps : as.length = o_ps (h_mt j).1) (hev : ev j 0 (a_ent (h_cd j).2 (.inr 4 :: as)) [] M1 = some w) (has : ∀ v ∈ as, w_V M1 v) (h1 : Cond.methodLink R_law ix (h_mt j).1 ∈ s_ws) (h2 : Cond.instanceMethod (h_mt j).1 ∈ s_ws) (h3 : Cond.selects (h_mt j).1.cls (h_mt j).1 (h_mt j).1 ∈ s_ws) (hrk : (h_mt j).2.2.2.1 ≤ 20) (hrest : (rest.map fun v => v.category).sum ≤ 8) (hsz : lr.size = 4) (hdg : decode code pc = .ok (.invokevirtual ix, 3)) (hcR : cells + (h_n w.2 - h_n M1) ≤ 628569) (hsR : slots + (h_v w.2 - h_v M1) ≤ 7216541)
    (kk : ∀ (ad' : Nat → Nat) (H' : Heap) (locs' : List Loc), (∀ i, i ≤ h_n M1 → ad' i = ad1 i) → L2 s D cs ad0 ad' w.2 ad2 M2 H' locs' → W p l e room_1 s m #[Value.ref b] below meth c H' locs' (cells + (h_n w.2 - h_n M1)) (slots + (h_v w.2 - h_v M1)) Q (F0 m (pc + 3) lr ((w.1.map (s_v ad')).toList ++ rest))) : W p l e room_1 s m #[Value.ref b] below meth c H locs cells slots Q (F0 m pc lr ((as.map (s_v ad1)).reverse ++ .ref (ad1 4) :: rest)) := by
  obtain ⟨hx, hb, hr, hml, hown, hts, hX, hbl, hlocks, hgv⟩ := C0
  obtain ⟨om, oini, -, om20⟩ := s_om hj
  have hw := hL.1
  obtain ⟨g3, gn⟩ := hw.1.at hk (by omega) (by omega)
  have hm := s_ev (l := l) hj hlen hev D cs s.heap.size H.size ad1 hw (fun v hv => by
    rcases List.mem_cons.mp hv with h | h
    · rw [h]; exact gn
    · exact has v h)
  have hrv := s_w_get (cs := cs) (ad := ad1) g3 gn
  rw [s_ce_obj (t := t) (by omega) (by omega)] at hrv
  have hcl := va_recv hK.1 hL.2.2.1 (s_cl ht) hrv
  dsimp only at hcl
  rw [hR] at hcl
  have hargs : (.inr 4 :: as : List mV).map (s_v ad1) = .ref (ad1 4) :: as.map (s_v ad1) := by rw [List.map_cons, s_v1 ad1 (by decide)]
  refine lw_back (va_runV (As := as.map (s_v ad1)) (rest := rest) ⟨hx, hb, hml, hown, hts⟩ hm (cwV (o_ps (h_mt j).1) hts (lw_gc hj (fun z hz => ?_)) rfl rfl rfl ⟨rfl, om⟩ ⟨?_, ?_⟩) ⟨s_blind, hcl, fun U hU hW => ⟨by rw [hargs], lw_pre hK hSt hL U hU hW⟩⟩ rfl ?_ hsz rfl (lv_room hrest) hdg ⟨hcR, hsR⟩) hL (by omega) kk
  · simp only [List.mem_cons, List.not_mem_nil, or_false] at hz
    rcases hz with rfl | rfl | rfl | rfl
    · exact h1
    · exact h2
    · exact h3
    · exact oini
  · show (h_mt j).2.2.2.1 + 1 ≤ 2048; omega
  · show 8 + ((h_cd j).2 + 11) + 64 * (h_mt j).2.2.2.1 ≤ 84000; omega
  · rw [List.length_map]; exact hps
end LW
