/-! how the small heap stands in the machine's heap -/
def s_R (t : Nat) : String := match t with
  | 0 => RX0
  | 1 => RX1
  | 2 => RX2
  | 3 => RX3
  | 4 => RX4
  | 5 => RX5
  | 6 => RX6
  | _ => RX7
def s_T (t : Nat) : u_T := match t with
  | 0 => TX0
  | 1 => TX1
  | 2 => TX2
  | 3 => TX3
  | 4 => TX4
  | 5 => TX5
  | 6 => TX6
  | _ => TX7
def s_ty (t : Nat) : Nat → FieldType := match t with
  | 0 => tyX0
  | 1 => tyX1
  | 2 => tyX2
  | 3 => tyX3
  | 4 => tyX4
  | 5 => tyX5
  | 6 => tyX6
  | _ => tyX7
theorem s_cl {t : Nat} (h : t < 8) : vwCl[t]? = some (s_R t, s_T t, h_N t) := by
  rcases (show t = 0 ∨ t = 1 ∨ t = 2 ∨ t = 3 ∨ t = 4 ∨ t = 5 ∨ t = 6 ∨ t = 7 by omega) with rfl | rfl | rfl | rfl | rfl | rfl | rfl | rfl <;> rfl
theorem s_nm {t : Nat} (h : t < 8) : ∀ a, a < h_N t → ∀ b, b < h_N t → a ≠ b → (s_T t a).2.1 ≠ (s_T t b).2.1 := by
  rcases (show t = 0 ∨ t = 1 ∨ t = 2 ∨ t = 3 ∨ t = 4 ∨ t = 5 ∨ t = 6 ∨ t = 7 by omega) with rfl | rfl | rfl | rfl | rfl | rfl | rfl | rfl
  · exact nmX0
  · exact nmX1
  · exact nmX2
  · exact nmX3
  · exact nmX4
  · exact nmX5
  · exact nmX6
  · exact nmX7
theorem s_tyok {t : Nat} (h : t < 8) : ∀ k, k < h_N t → parseFieldDescriptor (s_T t k).2.2.1 = some (s_ty t k) := by
  rcases (show t = 0 ∨ t = 1 ∨ t = 2 ∨ t = 3 ∨ t = 4 ∨ t = 5 ∨ t = 6 ∨ t = 7 by omega) with rfl | rfl | rfl | rfl | rfl | rfl | rfl | rfl
  · exact tyX0_ok
  · exact tyX1_ok
  · exact tyX2_ok
  · exact tyX3_ok
  · exact tyX4_ok
  · exact tyX5_ok
  · exact tyX6_ok
  · exact tyX7_ok
def s_ii : FieldType → Bool
  | .int => true
  | .boolean => true
  | _ => false
def s_o (ad : Nat → Nat) (r : Nat) : Option Nat := if r = 0 then none else some (ad r)
def s_v (ad : Nat → Nat) : mV → Value
  | .inl x => .int x
  | .inr r => va_rf (s_o ad r)
theorem s_v0 (ad : Nat → Nat) : s_v ad (.inr 0) = .null := rfl
theorem s_v1 (ad : Nat → Nat) {r : Nat} (h : ¬ r = 0) : s_v ad (.inr r) = .ref (ad r) := by simp [s_v, s_o, h, va_rf]
theorem s_cat (ad : Nat → Nat) (v : mV) : (s_v ad v).category = 1 := by
  cases v with
  | inl x => rfl
  | inr r =>
    by_cases h : r = 0
    · subst h; rfl
    · rw [s_v1 ad h]; rfl
def s_fs (t : Nat) (ad : Nat → Nat) (M : mM) (a : Nat) : List Value := (List.range (h_N t)).map fun k => if s_ii (s_ty t k) then .int (h_i M a k) else s_v ad (.inr (h_r M a k))
def s_ce (cs : Nat → ClassId) (ad : Nat → Nat) (M : mM) (a : Nat) : va_E :=
  if h_k M a ≤ 8 then .inr (h_k M a - 1, s_fs (h_k M a - 1) ad M a)
  else if h_k M a ≤ 10 then .inl (cs (h_k M a - 9), h_l M a, .inl (h_i M a))
  else .inl (cs (h_k M a - 9), h_l M a, .inr (.inr (.inr (.inr (fun i => s_o ad (h_r M a i))))))
def s_w (cs : Nat → ClassId) (ad : Nat → Nat) (M : mM) : va_W := (List.range (h_n M - 3)).map fun i => (ad (i + 4), s_ce cs ad M (i + 4))
def s_tys (cs : Nat → ClassId) : List (ClassId × FieldType) := [(cs 0, .int), (cs 1, .boolean), (cs 2, .object RX2), (cs 3, .object RX1), (cs 4, .array .int)]
theorem s_w_len (cs : Nat → ClassId) (ad : Nat → Nat) (M : mM) : (s_w cs ad M).length = h_n M - 3 := by simp [s_w]
theorem s_w_get {cs : Nat → ClassId} {ad : Nat → Nat} {M : mM} {a : Nat} (h1 : 3 < a) (h2 : a ≤ h_n M) : (s_w cs ad M)[a - 4]? = some (ad a, s_ce cs ad M a) := by
  unfold s_w
  rw [List.getElem?_map, List.getElem?_range (by omega)]
  simp [show a - 4 + 4 = a by omega]
/-- a reference that may stand there -/
def w_V (M : mM) : mV → Prop
  | .inl _ => True
  | .inr r => r ≤ h_n M
/-- a small heap in order -/
def w_M (M : mM) : Prop := 3 ≤ h_n M ∧ (∀ a, ¬ h_k M a = 0 → a ≤ h_n M) ∧ (∀ a, 1 ≤ a → a ≤ 3 → h_k M a = 14) ∧ (∀ a, 3 < a → a ≤ h_n M → 1 ≤ h_k M a ∧ h_k M a ≤ 13) ∧ h_k M 0 = 0 ∧ ∀ a k, h_r M a k ≤ h_n M
theorem w_M.at {M : mM} (h : w_M M) {a t : Nat} (hk : h_k M a = t) (h1 : 1 ≤ t) (h2 : t ≤ 13) : 3 < a ∧ a ≤ h_n M := by
  obtain ⟨q1, q2, q3, q4, q5, q6⟩ := h
  have h3 := q2 a (by omega)
  refine ⟨?_, h3⟩
  rcases Nat.lt_or_ge 3 a with h4 | h4
  · exact h4
  · rcases Nat.eq_zero_or_pos a with h5 | h5
    · subst h5; omega
    · have := q3 a h5 h4; omega
theorem s_o_ext {ad ad' : Nat → Nat} {n r : Nat} (h : ∀ i, i ≤ n → ad' i = ad i) (hr : r ≤ n) : s_o ad' r = s_o ad r := by
  unfold s_o
  split
  · rfl
  · rw [h r hr]
theorem s_v_ext {ad ad' : Nat → Nat} {M : mM} {v : mV} (h : ∀ i, i ≤ h_n M → ad' i = ad i) (hv : w_V M v) : s_v ad' v = s_v ad v := by
  cases v with
  | inl x => rfl
  | inr r => exact congrArg va_rf (s_o_ext h hv)
theorem s_vs_ext {ad ad' : Nat → Nat} {M : mM} {st : List mV} (h : ∀ i, i ≤ h_n M → ad' i = ad i) (hv : ∀ v ∈ st, w_V M v) : st.map (s_v ad') = st.map (s_v ad) := List.map_congr_left fun v hm => s_v_ext h (hv v hm)
theorem s_ce_ext {cs : Nat → ClassId} {ad ad' : Nat → Nat} {M : mM} (hw : w_M M) (h : ∀ i, i ≤ h_n M → ad' i = ad i) (a : Nat) : s_ce cs ad' M a = s_ce cs ad M a := by
  have hr : ∀ k, s_o ad' (h_r M a k) = s_o ad (h_r M a k) := fun k => s_o_ext h (hw.2.2.2.2.2 a k)
  unfold s_ce s_fs s_v
  simp only [hr]
theorem s_w_ext {cs : Nat → ClassId} {ad ad' : Nat → Nat} {M : mM} (hw : w_M M) (h : ∀ i, i ≤ h_n M → ad' i = ad i) : s_w cs ad' M = s_w cs ad M := by
  unfold s_w
  refine List.map_congr_left fun i hi => ?_
  have := List.mem_range.mp hi
  rw [s_ce_ext hw h, h (i + 4) (by omega)]
/-- one cell changes -/
theorem s_w_set {cs : Nat → ClassId} {ad : Nat → Nat} {M M' : mM} {a : Nat} (hn : h_n M' = h_n M) (h1 : 3 < a) (h2 : a ≤ h_n M) (ho : ∀ b, b ≠ a → s_ce cs ad M' b = s_ce cs ad M b) : (s_w cs ad M).set (a - 4) (ad a, s_ce cs ad M' a) = s_w cs ad M' := by
  apply List.ext_getElem?
  intro i
  rw [List.getElem?_set]
  unfold s_w
  rw [hn, List.length_map, List.length_range]
  by_cases e : a - 4 = i
  · subst e
    rw [if_pos rfl, if_pos (by omega), List.getElem?_map, List.getElem?_range (by omega)]
    simp [show a - 4 + 4 = a by omega]
  · rw [if_neg e]
    by_cases hi : i < h_n M - 3
    · rw [List.getElem?_map, List.getElem?_range hi, List.getElem?_map, List.getElem?_range hi]
      simp only [Option.map_some]
      rw [ho (i + 4) (by omega)]
    · rw [List.getElem?_eq_none (by simp; omega), List.getElem?_eq_none (by simp; omega)]
/-- one cell comes -/
theorem s_w_push {cs : Nat → ClassId} {ad : Nat → Nat} {M M' : mM} {q : Nat} (hw : w_M M) (hn : h_n M' = h_n M + 1) (ho : ∀ b, b ≤ h_n M → s_ce cs (va_up ad (h_n M + 1) q) M' b = s_ce cs (va_up ad (h_n M + 1) q) M b) : s_w cs ad M ++ [(q, s_ce cs (va_up ad (h_n M + 1) q) M' (h_n M + 1))] = s_w cs (va_up ad (h_n M + 1) q) M' := by
  have h3 := hw.1
  have hx : ∀ i, i ≤ h_n M → va_up ad (h_n M + 1) q i = ad i := fun i hi => by unfold va_up; rw [if_neg (by omega)]
  rw [← s_w_ext (cs := cs) hw hx]
  unfold s_w
  rw [hn, show h_n M + 1 - 3 = (h_n M - 3) + 1 by omega, List.range_succ, List.map_append]
  congr 1
  · refine List.map_congr_left fun i hi => ?_
    have := List.mem_range.mp hi
    rw [ho (i + 4) (by omega)]
  · simp only [List.map_cons, List.map_nil]
    rw [show h_n M - 3 + 4 = h_n M + 1 by omega]
    simp [va_up]
/-- the method's own locals -/
def l_rep (ad : Nat → Nat) (ls : mL) (lr : Array Slot) (n : Nat) : Prop := ls.length = n ∧ lr.size = n ∧ lv_wf lr ∧ ∀ (i : Nat) (v : mV), l_get ls i = some v → lr[i]? = some (.val (s_v ad v))
def l_lv (ad : Nat → Nat) (ls : mL) : List (Nat × Value) := (List.range ls.length).filterMap fun i => (l_get ls i).map fun v => (i, s_v ad v)
theorem l_rep.has {ad : Nat → Nat} {ls : mL} {lr : Array Slot} {n : Nat} (h : l_rep ad ls lr n) : lv_has lr n (l_lv ad ls) := by
  refine ⟨h.2.1, h.2.2.1, fun q hq => ?_⟩
  obtain ⟨i, -, hi⟩ := List.mem_filterMap.mp hq
  cases hg : l_get ls i with
  | none => rw [hg] at hi; cases hi
  | some v =>
    rw [hg] at hi
    cases hi
    exact h.2.2.2 i v hg
theorem l_set_len : ∀ (ls : mL) (i : Nat) (x : mV), (l_set ls i x).length = ls.length := by
  intro ls
  induction ls with
  | nil => intro i x; rfl
  | cons v vs ih =>
    intro i x
    cases i with
    | zero => rfl
    | succ i => simp [l_set, ih]
theorem l_get_set : ∀ (ls : mL) (i k : Nat) (x : mV), l_get (l_set ls i x) k = if k = i ∧ i < ls.length then some x else l_get ls k := by
  intro ls
  induction ls with
  | nil => intro i k x; simp [l_set, l_get]
  | cons v vs ih =>
    intro i k x
    cases i with
    | zero =>
      cases k with
      | zero => simp [l_set, l_get]
      | succ k => simp [l_set, l_get]
    | succ i =>
      cases k with
      | zero => simp [l_set, l_get]
      | succ k => simp [l_set, l_get, ih]
theorem l_get_lt : ∀ {ls : mL} {i : Nat} {v : mV}, l_get ls i = some v → i < ls.length := by
  intro ls
  induction ls with
  | nil => intro i v h; simp [l_get] at h
  | cons w vs ih =>
    intro i v h
    cases i with
    | zero => simp
    | succ i => have := ih (i := i) (v := v) h; simp; omega
theorem l_lv_mem {ad : Nat → Nat} {ls : mL} {i : Nat} {v : mV} (h : l_get ls i = some v) : (i, s_v ad v) ∈ l_lv ad ls := List.mem_filterMap.mpr ⟨i, List.mem_range.mpr (l_get_lt h), by rw [h]; rfl⟩
/-- behind a store -/
theorem l_rep.put {ad : Nat → Nat} {ls : mL} {lr lr' : Array Slot} {n i : Nat} {x : mV} {w : Value} (h : l_rep ad ls lr n) (hi : i < n) (hx : s_v ad x = w) (h' : lv_has lr' n ((i, w) :: (l_lv ad ls).filter (fun q => !(q.1 == i) && !(q.1 + 1 == i && q.2.category == 2)))) : l_rep ad (l_set ls i x) lr' n := by
  refine ⟨by rw [l_set_len]; exact h.1, h'.1, h'.2.1, fun k v hk => ?_⟩
  rw [l_get_set] at hk
  split at hk
  · rename_i hc
    cases hk
    rw [hc.1, hx]
    exact h'.2.2 _ List.mem_cons_self
  · rename_i hc
    have hne : k ≠ i := fun e => hc ⟨e, by rw [h.1]; exact hi⟩
    refine h'.2.2 (k, s_v ad v) (List.mem_cons_of_mem _ (List.mem_filter.mpr ⟨l_lv_mem hk, ?_⟩))
    simp [hne, s_cat]
theorem l_rep.ext {ad ad' : Nat → Nat} {M : mM} {ls : mL} {lr : Array Slot} {n : Nat} (h : l_rep ad ls lr n) (hx : ∀ i, i ≤ h_n M → ad' i = ad i) (hv : ∀ i v, l_get ls i = some v → w_V M v) : l_rep ad' ls lr n :=
  ⟨h.1, h.2.1, h.2.2.1, fun i v hg => by rw [s_v_ext hx (hv i v hg)]; exact h.2.2.2 i v hg⟩
