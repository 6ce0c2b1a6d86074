/-! new int[5][8]: the outer array, then its rows one by one -/
section MZ
variable {p : Program} {l : Launch} {e : Env} {R : Room} {s : State} {m : MethodId} {args : Array Value} {below : List Frame} {meth : Method} {c : Code} {locs : List Loc} {cells slots : Nat}
/-- the outer array with i rows in it -/
def mz_o (h0 i : Nat) : Nat → Value := fun j => va_rf (if j < i then some (h0 + 1 + j) else none)
/-- the state behind i rows -/
def mz_U (T : State) (cA cI : ClassId) : Nat → State
  | 0 => T.pushCell (arrV cA 5 (fun _ => .null))
  | i + 1 => ((mz_U T cA cI i).pushCell (arrV cI 8 (fun _ => .int 0))).setCell T.heap.size ((arrV cA 5 (mz_o T.heap.size i)).setSlot i (.ref (T.heap.size + 1 + i)))
def mz_I (p : Program) (l : Launch) (e : Env) (R : Room) (s : State) (m : MethodId) (args : Array Value) (below : List Frame) (meth : Method) (c : Code) (T : State) (locs : List Loc) (cells slots : Nat) (cA cI : ClassId) (i : Nat) (U : State) : Prop :=
  Stand p l e R s m args below meth c U locs (cells + 1 + i) (slots + 5 + 8 * i) ∧ U.vm = T.vm ∧ U.heap.size = T.heap.size + 1 + i ∧ U.slotsUsed = T.slotsUsed + 5 + 8 * i ∧ (∀ q, q < T.heap.size → U.heap[q]? = T.heap[q]?) ∧ U.heap[T.heap.size]? = some (arrV cA 5 (mz_o T.heap.size i)) ∧ ∀ j, j < i → U.heap[T.heap.size + 1 + j]? = some (arrV cI 8 (fun _ => .int 0))
theorem mz_all {T : State} (cA cI : ClassId) (X : Stand p l e R s m args below meth c T locs cells slots) : ∀ i, i ≤ 5 → mz_I p l e R s m args below meth c T locs cells slots cA cI i (mz_U T cA cI i) := by
  intro i
  induction i with
  | zero =>
    intro _
    have h := X.pushed (arrV cA 5 (fun _ => .null))
    rw [arrV_size] at h
    refine ⟨h, rfl, ?_, ?_, fun q hq => ?_, ?_, fun j hj => absurd hj (Nat.not_lt_zero j)⟩
    · show (T.pushCell _).heap.size = _
      rw [State.heap_size_pushCell]
    · show (T.pushCell _).slotsUsed = _
      rw [State.slotsUsed_pushCell, arrV_size]
    · show (T.pushCell _).heap[q]? = _
      exact State.heap_pushCell_of_lt (h := hq) ..
    · show (T.pushCell _).heap[T.heap.size]? = _
      rw [State.heap_pushCell_size]
      refine congrArg some (congrArg _ (funext fun j => ?_))
      unfold mz_o
      rw [if_neg (Nat.not_lt_zero j)]
      rfl
  | succ i ih =>
    intro hi
    obtain ⟨Y, h1, h2, h3, h4, h5, h6⟩ := ih (by omega)
    show mz_I p l e R s m args below meth c T locs cells slots cA cI (i + 1) (((mz_U T cA cI i).pushCell (arrV cI 8 (fun _ => .int 0))).setCell T.heap.size ((arrV cA 5 (mz_o T.heap.size i)).setSlot i (.ref (T.heap.size + 1 + i))))
    generalize mz_U T cA cI i = U at *
    have hlt : T.heap.size < U.heap.size := by omega
    have hc : (U.pushCell (arrV cI 8 (fun _ => .int 0))).heap[T.heap.size]? = some (arrV cA 5 (mz_o T.heap.size i)) := by rw [State.heap_pushCell_of_lt (h := hlt)]; exact h5
    have X1 := (Y.pushed (arrV cI 8 (fun _ => .int 0))).stored hc i (.ref (T.heap.size + 1 + i))
    rw [arrV_size] at X1
    have X2 := X1.dropFresh (fun x hx => by rw [List.mem_singleton] at hx; subst hx; exact X.heapGrown)
    have hlt2 : T.heap.size < (U.pushCell (arrV cI 8 (fun _ => .int 0))).heap.size := by rw [State.heap_size_pushCell]; omega
    refine ⟨?_, h1, ?_, ?_, fun q hq => ?_, ?_, fun j hj => ?_⟩
    · rw [show cells + 1 + (i + 1) = cells + 1 + i + 1 by omega, show slots + 5 + 8 * (i + 1) = slots + 5 + 8 * i + 8 by omega]
      exact X2
    · rw [size_setCell, State.heap_size_pushCell]; omega
    · show U.slotsUsed + (arrV cI 8 (fun _ => .int 0)).slots.size = _
      rw [arrV_size]; omega
    · rw [heapAt_setCell_ne _ (show T.heap.size ≠ q by omega), State.heap_pushCell_of_lt (h := show q < U.heap.size by omega)]; exact h4 q hq
    · rw [heapAt_setCell_self _ hlt2, arrV_store]
      refine congrArg some (congrArg _ (funext fun j => ?_))
      unfold updV mz_o
      by_cases q : j = i
      · subst q; rw [if_pos rfl, if_pos (by omega)]; rfl
      · rw [if_neg q]
        by_cases q2 : j < i
        · rw [if_pos q2, if_pos (by omega)]
        · rw [if_neg q2, if_neg (by omega)]
    · rw [heapAt_setCell_ne _ (show T.heap.size ≠ T.heap.size + 1 + j by omega)]
      by_cases q : j = i
      · subst q; rw [← h2, State.heap_pushCell_size]
      · rw [State.heap_pushCell_of_lt (h := show T.heap.size + 1 + j < U.heap.size by omega)]; exact h6 j (by omega)
theorem mz_dr : ∀ {i x : Nat} {r : List Nat}, x :: r = [0, 1, 2, 3, 4].drop i → x = i ∧ i < 5 ∧ r = [0, 1, 2, 3, 4].drop (i + 1)
  | 0, _, _, h => by cases h; exact ⟨rfl, by decide, rfl⟩
  | 1, _, _, h => by cases h; exact ⟨rfl, by decide, rfl⟩
  | 2, _, _, h => by cases h; exact ⟨rfl, by decide, rfl⟩
  | 3, _, _, h => by cases h; exact ⟨rfl, by decide, rfl⟩
  | 4, _, _, h => by cases h; exact ⟨rfl, by decide, rfl⟩
  | i + 5, _, _, h => by simp at h
theorem mz_dn {i : Nat} (hi : i ≤ 5) (h : ([] : List Nat) = [0, 1, 2, 3, 4].drop i) : i = 5 := by
  rcases (show i = 0 ∨ i = 1 ∨ i = 2 ∨ i = 3 ∨ i = 4 ∨ i = 5 by omega) with rfl | rfl | rfl | rfl | rfl | rfl <;> first | rfl | cases h
theorem mz_row {cI cc : ClassId} {kI : Class} {E : CtlPost} {d : Bool} {acts : List Action} {U : State} {Q : Addr → Pre} (hkI : U.vm.classes[cI]? = some kI) (hI : kI.kind = .array cc .int) (hlim : e.platform.arrayLengthLimit = 2147483645) (hmax : e.platform.maxHeapBytes = 536870912) (h1 : U.heap.size < e.platform.maxCells) (h2 : U.slotsUsed + 8 ≤ e.platform.maxSlots)
    (hq : ∀ acts', Q U.heap.size d acts' (U.pushCell (arrV cI 8 (fun _ => .int 0)))) : wp (multianewarray.make cI [8]) Q E e d acts U := by
  have n8 : (8 : Int32).toNatClampNeg = 8 := rfl
  have p8 : ¬ (8 : Int32) < 0 := by decide
  rw [multianewarray.make]
  simp only [wp_bind', Jvm.W.ite, p8, if_false, wp_pure', Jvm.W.theClass, hkI, hI, Option.some.injEq, exists_eq_left', n8]
  refine Jvm.W.newArray_of (type := .int) hkI hI (by rw [hlim]; omega) (by rw [hmax]; show ¬ 8 * 4 > 536870912; omega) h1 h2 rfl (fun acts' => ?_)
  rw [show ({ cls := cI, slots := Array.replicate 8 (defaultValue .int) } : Cell) = arrV cI 8 (fun _ => .int 0) from arrV_new cI 8 (.int 0)]
  exact hq acts'
theorem mz_make {T : State} {cA cI cc : ClassId} {kA kI : Class} {E : CtlPost} {d : Bool} {acts : List Action} {f : JFrame} {Q : Addr → Pre} (X : Stand p l e R s m args below meth c T locs cells slots) (hkA : T.vm.classes[cA]? = some kA) (hA : kA.kind = .array cI (.array .int)) (hkI : T.vm.classes[cI]? = some kI) (hI : kI.kind = .array cc .int) (hcells : cells + 6 ≤ R.cells) (hslots : slots + 45 ≤ R.slots)
    (hq : ∀ d' acts', Q T.heap.size d' acts' ((mz_U T cA cI 5).setTop f)) : wp (multianewarray.make cA [5, 8]) Q E e d acts (T.setTop f) := by
  obtain ⟨r1, r2⟩ := X.roomAbove hcells hslots
  have hlim := Launch.admits_arrayLengthLimit X.admits
  have hmax := Launch.admits_maxHeapBytes X.admits
  have n5 : (5 : Int32).toNatClampNeg = 5 := rfl
  have p5 : ¬ (5 : Int32) < 0 := by decide
  have z5 : ((5 : Int32) == 0) = false := rfl
  rw [multianewarray.make]
  simp only [wp_bind', Jvm.W.ite, p5, if_false, wp_pure', Jvm.W.theClass, State.vm_setTop, hkA, hA, Option.some.injEq, exists_eq_left', n5, z5, Bool.false_eq_true]
  refine Jvm.W.newArray_of (type := .array .int) hkA hA (by rw [hlim]; omega) (by rw [hmax]; show ¬ 5 * 4 > 536870912; omega) (by show T.heap.size < _; omega) (by show T.slotsUsed + 5 ≤ _; omega) rfl (fun acts' => ?_)
  rw [show ({ cls := cA, slots := Array.replicate 5 Value.null } : Cell) = arrV cA 5 (fun _ => .null) from arrV_new cA 5 .null]
  rw [wp_bind', Std.Legacy.Range.forIn_eq_forIn_range', show ([0:5] : Std.Legacy.Range).size = 5 from rfl]
  show wp (forIn [0, 1, 2, 3, 4] PUnit.unit _) _ E e d _ _
  refine wp_forIn_inv (fun r U => ∃ i, i ≤ 5 ∧ r = [0, 1, 2, 3, 4].drop i ∧ U = (mz_U T cA cI i).setTop f) _ _ ⟨0, Nat.zero_le _, rfl, rfl⟩ ?_ ?_
  · rintro x r U d' acts' Q' ⟨i, hi, hl, rfl⟩ hnext
    obtain ⟨rfl, h5, hr⟩ := mz_dr hl
    obtain ⟨Y, h1, h2, h3, h4, h6, h7⟩ := mz_all cA cI X x hi
    simp only [wp_bind']
    refine mz_row (kI := kI) (cc := cc) (by show (mz_U T cA cI x).vm.classes[cI]? = _; rw [h1]; exact hkI) hI hlim hmax (by show (mz_U T cA cI x).heap.size < _; omega) (by show (mz_U T cA cI x).slotsUsed + 8 ≤ _; omega) (fun acts'' => ?_)
    simp only [wp_bind', Jvm.W.writeLoc, wp_pure']
    have hlt : T.heap.size < (mz_U T cA cI x).heap.size := by omega
    refine ⟨arrV cA 5 (mz_o T.heap.size x), ?_, (fun q => by cases q), (by rw [arrV_size]; exact h5), ?_, hnext _ _ _ ⟨x + 1, h5, hr, ?_⟩⟩
    · show ((mz_U T cA cI x).pushCell _).heap[T.heap.size]? = _
      rw [State.heap_pushCell_of_lt (h := hlt)]; exact h6
    · show State.fitsSlot (((mz_U T cA cI x).setTop f).pushCell _) cA .none x _ = true
      simp [State.fitsSlot, State.slotType?, h1, hkA, hA]
      rfl
    · show ((((mz_U T cA cI x).pushCell _).setCell T.heap.size _).setTop f) = _
      rw [show ((mz_U T cA cI x).setTop f).heap.size = T.heap.size + 1 + x from h2]
      rfl
  · rintro U d' acts' ⟨i, hi, hl, rfl⟩
    have := mz_dn hi hl
    subst this
    exact hq _ _
theorem w_mna {H : Heap} {Q : State → Prop} {cc : ByteArray} {own : String} {index pc : Nat} {ls : Array Slot} {rest : List Value} (hexec : p.tables.exec = Jvm.exec) (hb : c.code = cc) (hown : s.vm.findClass own = some m.cls) (hcl : (Cond.classLink own index "[[I").before args s = true) (hover : (Cond.arrayOver (.array .int)).before #[] s = true) (harr : (Cond.arrayClass .int).before args s = true) (hdg : decode cc pc = .ok (.multianewarray index 2, 4)) (hcells : cells + 6 ≤ R.cells) (hslots : slots + 45 ≤ R.slots)
    (kk : ∀ (cA cI : ClassId) (H1 : Heap), s.vm.findClass "[[I" = some cA → s.vm.findClass "[I" = some cI → H1.size = H.size + 6 → (∀ q, q < H.size → H1[q]? = H[q]?) → H1[H.size]? = some (arrV cA 5 (mz_o H.size 5)) → (∀ j, j < 5 → H1[H.size + 1 + j]? = some (arrV cI 8 (fun _ => .int 0))) → W p l e R s m args below meth c H1 locs (cells + 6) (slots + 45) Q (F0 m (pc + 4) ls (.ref H.size :: rest))) : W p l e R s m args below meth c H locs cells slots Q (F0 m pc ls (.int 8 :: .int 5 :: rest)) := by
  intro T hT X
  subst hT; subst hb
  have hpl : e.platform.magicAccessors = ({} : Platform).magicAccessors := by rw [X.admits.platform]
  obtain ⟨cI, cA, kA, hnI, -, hkA, hA, hnA⟩ := arrayOverA_spec hover
  obtain ⟨cI', kI, cc, hnI', hkI, hI⟩ := Cond.arrayClass_spec harr
  have eI : cI' = cI := Option.some.inj (hnI'.symm.trans hnI)
  subst eI
  obtain ⟨c0, hn0, hlk⟩ := Cond.classLink_spec hown hcl e.platform hpl
  have e0 : c0 = cA := Option.some.inj (hn0.symm.trans hnA)
  subst e0
  obtain ⟨hg₁, hwarm₁, hready₁⟩ := State.classEntry (e := e) X.warmed hlk
  generalize T.vm.noted m.cls index (.cls c0) = vm₁ at hg₁ hwarm₁ hready₁
  obtain ⟨kA₁, hkA₁, eA⟩ := hwarm₁.alike.2.2 _ _ hkA
  obtain ⟨kI₁, hkI₁, eI⟩ := hwarm₁.alike.2.2 _ _ hkI
  have X₁ := X.noted hwarm₁
  obtain ⟨Y, y1, y2, y3, y4, y5, y6⟩ := mz_all c0 cI' X₁ 5 (Nat.le_refl _)
  obtain ⟨t, a1, b1⟩ := kk c0 cI' (mz_U (T.setVm vm₁) c0 cI' 5).heap hn0 hnI y2 y4 y5 y6 (mz_U (T.setVm vm₁) c0 cI' 5) rfl Y
  refine ⟨t, ?_, b1⟩
  jvm_step X.here [hexec, hdg]
  simp only [multianewarray.sem, wp_bind', Jvm.W.resolveClassAt_links (State.method?_setTop (F0 m pc ls (.int 8 :: .int 5 :: rest)) X.here.top) hg₁]
  rw [Jvm.W.popN, if_neg (by decide)]
  refine ⟨F0 m pc ls (.int 8 :: .int 5 :: rest), State.topJava?_setTop' (s := T.setVm vm₁) _ X.here.top, [.int 5, .int 8], rest, rfl, rfl, ?_⟩
  simp only [List.mapM_cons, List.mapM_nil, wp_bind', wp_pure']
  rw [show (((T.setTop (F0 m pc ls (.int 8 :: .int 5 :: rest))).setVm vm₁).setTop (F0 m pc ls rest)) = (T.setVm vm₁).setTop (F0 m pc ls rest) from (by
    show ((T.setVm vm₁).setTop _).setTop _ = _
    rw [State.setTop_setTop])]
  refine mz_make X₁ hkA₁ (by rw [eA]; exact hA) hkI₁ (by rw [eI]; exact hI) hcells hslots (fun d' acts' => ?_)
  simp only [wp_bind', Jvm.W.mark, Jvm.W.pushRef, State.topJava?_setTop' _ Y.here.top, Option.some.injEq, exists_eq_left', State.setTop_setTop]
  intro acts
  simp [jvm, Y.here.top]
  exact a1
end MZ
section SMN
variable {p : Program} {l : Launch} {e : Env} {R : Room} {s : State} {m : MethodId} {args : Array Value} {below : List Frame} {meth : Method} {c : Code} {H : Heap} {locs : List Loc} {cells slots : Nat} {Q : State → Prop} {j base : Nat} {D : va_G} {cs : Nat → ClassId} {ad0 ad : Nat → Nat} {A : Nat → Prop} {M : mM} {pc : Nat} {lr : Array Slot} {rest : List Value}
/-- where the cells of a heap stand behind new int[5][8] -/
def mz_a (ad : Nat → Nat) (n sz : Nat) : Nat → Nat := fun i => if i ≤ n then ad i else sz + (i - (n + 1))
theorem mz_a1 {ad : Nat → Nat} {n sz i : Nat} (h : i ≤ n) : mz_a ad n sz i = ad i := if_pos h
theorem mz_a2 {ad : Nat → Nat} {n sz i : Nat} (h : n < i) : mz_a ad n sz i = sz + (i - (n + 1)) := if_neg (by omega)
theorem s_ce_mn {cs : Nat → ClassId} {ad : Nat → Nat} {M : mM} {N K x : Nat} (h : x ≤ h_n M) : s_ce cs ad (h_mn M N K) x = s_ce cs ad M x := by
  have e : h_i (h_mn M N K) x = h_i M x := funext fun i => by rw [i_mn, if_neg (by omega)]
  have e2 : h_r (h_mn M N K) x = h_r M x := funext fun i => by rw [r_mn, if_neg (by omega), if_neg (by omega)]
  have e3 : h_k (h_mn M N K) x = h_k M x := by rw [k_mn, if_neg (by omega), if_neg (by omega)]
  have e4 : h_l (h_mn M N K) x = h_l M x := by rw [l_mn, if_neg (by omega), if_neg (by omega)]
  unfold s_ce s_fs
  simp only [e, e2, e3, e4]
theorem s_w_of {cs : Nat → ClassId} {ad : Nat → Nat} {M : mM} {k : Nat} {q : Nat × va_E} (h : (s_w cs ad M)[k]? = some q) : k + 4 ≤ h_n M ∧ q = (ad (k + 4), s_ce cs ad M (k + 4)) := by
  unfold s_w at h
  rw [List.getElem?_map, Option.map_eq_some_iff] at h
  obtain ⟨i, h1, h2⟩ := h
  obtain ⟨hlt, e⟩ := List.getElem?_eq_some_iff.mp h1
  rw [List.length_range] at hlt
  rw [List.getElem_range] at e
  subst e
  exact ⟨by omega, h2.symm⟩
theorem s_mna {ix : Nat} (F : s_F p R s m args meth c j base D cs ad0 A) (hcl : (Cond.classLink (h_mt j).1.cls ix "[[I").before args s = true) (hw : w_2 M) (hP : va_P D vwCl (s_w cs ad M) H) (hD : va_D A (s_w cs ad M)) (hS : va_S A s.heap H locs) (hcells : cells + 6 ≤ R.cells) (hslots : slots + 45 ≤ R.slots) (hdg : decode (h_mt j).2.1 pc = .ok (.multianewarray ix 2, 4))
    (kk : ∀ (ad' : Nat → Nat) (H1 : Heap), (∀ i, i ≤ h_n M → ad' i = ad i) → va_P D vwCl (s_w cs ad' (h_mn M 5 8)) H1 → va_D A (s_w cs ad' (h_mn M 5 8)) → va_S A s.heap H1 locs → W p l e R s m args below meth c H1 locs (cells + 6) (slots + 45) Q (F0 m (pc + 4) lr (.ref (ad' (h_n M + 1)) :: rest))) : W p l e R s m args below meth c H locs cells slots Q (F0 m pc lr (.int 8 :: .int 5 :: rest)) := by
  obtain ⟨hx, hb, -, -, -, -, hown, hts, hK, -, -, -, hA0, -, -⟩ := F
  have h3 := hw.1.1
  refine w_mna hx hb hown hcl hK.2.2.2.2 (hts _ (List.mem_cons_of_mem _ s_arrI)) hdg hcells hslots (fun cA cI H1 f1 f2 z1 z2 z3 z4 => ?_)
  have g4 : s.vm.findClass "[[I" = some (cs 4) := (hK.1.2 4 (cs 4, .array .int) rfl).2
  have g0 : s.vm.findClass "[I" = some (cs 0) := (hK.1.2 0 (cs 0, .int) rfl).2
  have eA : cA = cs 4 := Option.some.inj (f1.symm.trans g4)
  have eI : cI = cs 0 := Option.some.inj (f2.symm.trans g0)
  subst eA; subst eI
  have hold : ∀ i, 3 < i → i ≤ h_n M → ad i < H.size := fun i q1 q2 => (hP _ _ (s_w_get (cs := cs) (ad := ad) q1 q2)).lt
  have hext : ∀ i, i ≤ h_n M → mz_a ad (h_n M) H.size i = ad i := fun i hi => mz_a1 hi
  have hk := kk (mz_a ad (h_n M) H.size) H1 hext (fun k q hq => ?_) ⟨fun i k q1 q2 hi hk he => ?_, fun k q hq => ?_⟩ ⟨Nat.le_trans hS.1 (by omega), fun q g1 g2 => (z2 q (Nat.lt_of_lt_of_le g1 hS.1)).trans (hS.2.1 q g1 g2), hS.2.2⟩
  · rw [mz_a2 (show h_n M < h_n M + 1 by omega), Nat.sub_self] at hk
    exact hk
  · obtain ⟨q1, rfl⟩ := s_w_of hq
    rw [n_mn] at q1
    rcases (show k + 4 ≤ h_n M ∨ k + 4 = h_n M + 1 ∨ (h_n M + 1 < k + 4) by omega) with g | g | g
    · rw [s_ce_mn g, s_ce_ext hw.1 hext, hext _ g]
      exact (hP _ _ (s_w_get (cs := cs) (ad := ad) (by omega) g)).kept (z2 _ (hold _ (by omega) g))
    · rw [g, mz_a2 (by omega), Nat.sub_self, s_ce_ref (t := 13) (by omega) (by rw [k_mn, if_pos rfl])]
      show H1[H.size]? = some (vp_cell _ _)
      rw [vp_cell_q, z3, l_mn, if_pos rfl]
      refine congrArg some (congrArg _ (funext fun i => ?_))
      unfold mz_o s_o
      rw [r_mn, if_pos rfl]
      by_cases q : i < 5
      · rw [if_pos q, if_pos q, if_neg (by omega), mz_a2 (by omega), show h_n M + 2 + i - (h_n M + 1) = 1 + i by omega, Nat.add_assoc]
      · rw [if_neg q, if_neg q, if_pos rfl]
    · rw [mz_a2 (by omega), s_ce_int (t := 9) (by omega) (by omega) (by rw [k_mn, if_neg (by omega), if_pos (by omega)])]
      show H1[H.size + (k + 4 - (h_n M + 1))]? = some (vp_cell _ _)
      rw [vp_cell_i, l_mn, if_neg (by omega), if_pos (by omega), show H.size + (k + 4 - (h_n M + 1)) = H.size + 1 + (k + 4 - (h_n M + 2)) by omega, z4 _ (by omega)]
      refine congrArg some (congrArg _ (funext fun i => ?_))
      rw [i_mn, if_pos (by omega)]
  · obtain ⟨g1, rfl⟩ := s_w_of hi
    obtain ⟨g2, rfl⟩ := s_w_of hk
    rw [n_mn] at g1 g2
    replace he : mz_a ad (h_n M) H.size (i + 4) = mz_a ad (h_n M) H.size (k + 4) := he
    by_cases y1 : i + 4 ≤ h_n M
    · have := hold _ (by omega) y1
      by_cases y2 : k + 4 ≤ h_n M
      · rw [mz_a1 y1, mz_a1 y2] at he
        have := hD.1 (i + 4 - 4) (k + 4 - 4) _ _ (s_w_get (by omega) y1) (s_w_get (by omega) y2) he
        omega
      · rw [mz_a1 y1, mz_a2 (by omega)] at he
        omega
    · by_cases y2 : k + 4 ≤ h_n M
      · have := hold _ (by omega) y2
        rw [mz_a2 (by omega), mz_a1 y2] at he
        omega
      · rw [mz_a2 (by omega), mz_a2 (by omega)] at he
        omega
  · obtain ⟨g1, rfl⟩ := s_w_of hq
    rw [n_mn] at g1
    show A (mz_a ad (h_n M) H.size (k + 4))
    by_cases y1 : k + 4 ≤ h_n M
    · rw [mz_a1 y1]
      exact hD.2 _ _ (s_w_get (cs := cs) (M := M) (by omega) y1)
    · rw [mz_a2 (by omega)]
      exact hA0 _ (Nat.le_trans hS.1 (by omega))
end SMN
