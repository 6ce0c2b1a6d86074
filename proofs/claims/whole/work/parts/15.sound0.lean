/-! the machine and the small machine: what holds throughout a method, and the rows that take an instruction apart -/
def s_t1 (i : Nat) : Int32 := ([1779033703, -1150833019, 1013904242, -1521486534, 1359893119, -1694144372, 528734635, 1541459225] : List Int32).getD i 0
def s_t2 (i : Nat) : Int32 := ([1116352408, 1899447441, -1245643825, -373957723, 961987163, 1508970993, -1841331548, -1424204075, -670586216, 310598401, 607225278, 1426881987, 1925078388, -2132889090, -1680079193, -1046744716, -459576895, -272742522, 264347078, 604807628, 770255983, 1249150122, 1555081692, 1996064986, -1740746414, -1473132947, -1341970488, -1084653625, -958395405, -710438585, 113926993, 338241895, 666307205, 773529912, 1294757372, 1396182291, 1695183700, 1986661051, -2117940946, -1838011259, -1564481375, -1474664885, -1035236496, -949202525, -778901479, -694614492, -200395387, 275423344, 430227734, 506948616, 659060556, 883997877, 958139571, 1322822218, 1537002063, 1747873779, 1955562222, 2024104815, -2067236844, -1933114872, -1866530822, -1538233109, -1090935817, -965641998] : List Int32).getD i 0
def s_t3 (i : Nat) : Int32 := ([1116352408, 1899447441, -1245643825, -373957723, 961987163, 1508970993, -1841331548, -1424204075, -670586216, 310598401, 607225278, 1426881987, 1925078388, -2132889090, -1680079193, -1046744716, -459576895, -272742522, 264347078, 604807628, 770255983, 1249150122, 1555081692, 1996064986, -1740746414, -1473132947, -1341970488, -1084653625, -958395405, -710438585, 113926993, 338241895, 666307205, 773529912, 1294757372, 1396182291, 1695183700, 1986661051, -2117940946, -1838011259, -1564481375, -1474664885, -1035236496, -949202525, -778901479, -694614492, -200395387, 275423344, 430227734, 506948616, 659060556, 883997877, 958139571, 1322822218, 1537002063, 1747873779, 1955562222, 2024104815, -2067236844, -1933114872, -1866530822, -1538233109, -1090935817, -965641998] : List Int32).getD i 0
def s_ws : List Cond := lw_tbl.filter goodWord
def s_wj (j : Nat) : List Cond := .code (h_mt j).1 (h_mt j).2.1 (h_cd j).2 (h_mt j).2.2.1 :: s_ws
def s_rm (j mc ms : Nat) : Room := { frames := (h_mt j).2.2.2.1, cells := mc, slots := ms, locals := 64 * (h_mt j).2.2.2.1 }
theorem o_w_mem {i : Nat} {w : Cond} (h : o_w i w = true) : w ∈ lw_tbl := List.mem_of_getElem? (of_decide_eq_true h)
theorem o_w_in {i : Nat} {w : Cond} (h : o_w i w = true) (hg : goodWord w = true) : w ∈ s_ws := List.mem_filter.mpr ⟨o_w_mem h, hg⟩
theorem s_good {w : Cond} (h : w ∈ s_ws) : (w.onTables && w.keeps) = true ∨ ∃ ty, w = .arrayClass ty := good_of_word (List.mem_filter.mp h).2
/-- what the small heap says of the static tables -/
def w_S (M : mM) : Prop := (h_l M 1 = 8 ∧ ∀ i, i < 8 → h_i M 1 i = s_t1 i) ∧ (h_l M 2 = 64 ∧ ∀ i, i < 64 → h_i M 2 i = s_t2 i) ∧ (h_l M 3 = 64 ∧ ∀ i, i < 64 → h_i M 3 i = s_t3 i)
def w_2 (M : mM) : Prop := w_M M ∧ w_S M
def s_K (D : va_G) (cs : Nat → ClassId) (U : State) : Prop := va_K D vwCl (s_tys cs) U ∧ (∀ (a : String) (i : Nat) (x : MethodName) (h : String), Cond.methodLinkNest a i x h ∈ lw_tbl → va_Nw (.methodLinkNest a i x h) U) ∧ va_AO RX2 U ∧ va_AO RX1 U ∧ (Cond.arrayOver (.array .int)).before #[] U = true
theorem s_K.warm {D : va_G} {cs : Nat → ClassId} {s U : State} (hW : s.WarmedH U.vm) (h : s_K D cs s) : s_K D cs U :=
  ⟨va_K.moved hW.alike h.1, fun a i x hh hm => va_Nw.warmM hW (h.2.1 a i x hh hm), h.2.2.1.moved hW.alike, h.2.2.2.1.moved hW.alike, over_moved hW.alike h.2.2.2.2⟩
theorem s_K.call {D : va_G} {cs : Nat → ClassId} {U : State} {g : JFrame} {mk : MethodId} {a : Array Value} (h : s_K D cs U) : s_K D cs (U.calling g mk a) :=
  ⟨va_K.moved (u := U) (U := U.calling g mk a) (Vm.Alike.refl U.vm) h.1, fun a i x hh hm => va_Nw.same rfl rfl (h.2.1 a i x hh hm), va_AO.moved (u := U) (Vm.Alike.refl U.vm) h.2.2.1, va_AO.moved (u := U) (Vm.Alike.refl U.vm) h.2.2.2.1, over_moved (u := U) (Vm.Alike.refl U.vm) h.2.2.2.2⟩
def s_S1 (base t N : Nat) (C n : String) (f : Nat → Int32) (U : State) (H : Heap) : Prop := va_Z C n "[I" (.ref t) (fun q => base ≤ q) U H ∧ va_T .int t N (fun i => .int (f i)) (fun q => base ≤ q) U H ∧ va_X t N f U H
def s_S (base : Nat) (ad : Nat → Nat) (U : State) (H : Heap) : Prop := s_S1 base (ad 1) 8 RX0 "START" s_t1 U H ∧ s_S1 base (ad 2) 64 RX0 "ROUND" s_t2 U H ∧ s_S1 base (ad 3) 64 RX7 "K" s_t3 U H
theorem s_S1.moved {base t N : Nat} {C n : String} {f : Nat → Int32} {u U : State} {H : Heap} (hvm : u.vm.Alike U.vm) (h : s_S1 base t N C n f u H) : s_S1 base t N C n f U H := ⟨h.1.moved hvm, h.2.1.moved hvm, h.2.2.moved hvm⟩
theorem s_S1.kept {base t N : Nat} {C n : String} {f : Nat → Int32} {U : State} {H H1 : Heap} (h : s_S1 base t N C n f U H) (hq : ∀ a : Nat, a < H.size → ¬ base ≤ a → H1[a]? = H[a]?) : s_S1 base t N C n f U H1 :=
  ⟨h.1.kept hq, h.2.1.kept hq, h.2.2.kept (hq t (by obtain ⟨scr, h1, -⟩ := h.2.2; exact (Array.getElem?_eq_some_iff.mp h1).1) h.2.1.out)⟩
theorem s_S.moved {base : Nat} {ad : Nat → Nat} {u U : State} {H : Heap} (hvm : u.vm.Alike U.vm) (h : s_S base ad u H) : s_S base ad U H := ⟨h.1.moved hvm, h.2.1.moved hvm, h.2.2.moved hvm⟩
theorem s_S.kept {base : Nat} {ad : Nat → Nat} {U : State} {H H1 : Heap} (h : s_S base ad U H) (hq : ∀ a : Nat, a < H.size → ¬ base ≤ a → H1[a]? = H[a]?) : s_S base ad U H1 := ⟨h.1.kept hq, h.2.1.kept hq, h.2.2.kept hq⟩
theorem s_S.ext {base : Nat} {ad ad' : Nat → Nat} {U : State} {H : Heap} (h : s_S base ad U H) (hx : ∀ i, i ≤ 3 → ad' i = ad i) : s_S base ad' U H := by
  unfold s_S
  rw [hx 1 (by omega), hx 2 (by omega), hx 3 (by omega)]
  exact h
/-- what may change: the cells of the heap, and all that come -/
def s_A (ad : Nat → Nat) (M : mM) (sz : Nat) : Nat → Prop := fun q => (∃ i, 3 < i ∧ i ≤ h_n M ∧ q = ad i) ∨ sz ≤ q
theorem va_S_weak {A B : Nat → Prop} {H0 H : Heap} {locs : List Loc} (h : va_S A H0 H locs) (hB : ∀ q, A q → B q) : va_S B H0 H locs := ⟨h.1, fun q h1 h2 => h.2.1 q h1 (fun h3 => h2 (hB q h3)), fun l hl => hB _ (h.2.2 l hl)⟩
theorem b_1_l {st : List mV} {k : Int32 → List mV → mA} {z : mC} (h : b_1 st k = .inl z) : ∃ x r, st = .inl x :: r ∧ k x r = .inl z := by
  unfold b_1 at h
  split at h
  · exact ⟨_, _, rfl, h⟩
  · cases h
theorem b_2_l {st : List mV} {k : Int32 → Int32 → List mV → mA} {z : mC} (h : b_2 st k = .inl z) : ∃ x y r, st = .inl y :: .inl x :: r ∧ k x y r = .inl z := by
  unfold b_2 at h
  split at h
  · exact ⟨_, _, _, rfl, h⟩
  · cases h
theorem p_1_l {st : List mV} {k : Nat → List mV → mA} {z : mC} (h : p_1 st k = .inl z) : ∃ x r, st = .inr x :: r ∧ k x r = .inl z := by
  unfold p_1 at h
  split at h
  · exact ⟨_, _, rfl, h⟩
  · cases h
theorem p_2_l {st : List mV} {k : Nat → Nat → List mV → mA} {z : mC} (h : p_2 st k = .inl z) : ∃ a b r, st = .inr b :: .inr a :: r ∧ k a b r = .inl z := by
  unfold p_2 at h
  split at h
  · exact ⟨_, _, _, rfl, h⟩
  · cases h
theorem p_i_l {st : List mV} {k : Nat → Int32 → List mV → mA} {z : mC} (h : p_i st k = .inl z) : ∃ a i r, st = .inl i :: .inr a :: r ∧ k a i r = .inl z := by
  unfold p_i at h
  split at h
  · exact ⟨_, _, _, rfl, h⟩
  · cases h
theorem p_ii_l {st : List mV} {k : Nat → Int32 → Int32 → List mV → mA} {z : mC} (h : p_ii st k = .inl z) : ∃ a i x r, st = .inl x :: .inl i :: .inr a :: r ∧ k a i x r = .inl z := by
  unfold p_ii at h
  split at h
  · exact ⟨_, _, _, _, rfl, h⟩
  · cases h
theorem p_ir_l {st : List mV} {k : Nat → Int32 → Nat → List mV → mA} {z : mC} (h : p_ir st k = .inl z) : ∃ a i x r, st = .inr x :: .inl i :: .inr a :: r ∧ k a i x r = .inl z := by
  unfold p_ir at h
  split at h
  · exact ⟨_, _, _, _, rfl, h⟩
  · cases h
theorem p_cp_l {st : List mV} {k : Nat → Int32 → Nat → Int32 → Int32 → List mV → mA} {z : mC} (h : p_cp st k = .inl z) : ∃ a s b d n r, st = .inl n :: .inl d :: .inr b :: .inl s :: .inr a :: r ∧ k a s b d n r = .inl z := by
  unfold p_cp at h
  split at h
  · exact ⟨_, _, _, _, _, _, rfl, h⟩
  · cases h
theorem d_1_l {st : List mV} {k : mV → List mV → mA} {z : mC} (h : d_1 st k = .inl z) : ∃ x r, st = x :: r ∧ k x r = .inl z := by
  unfold d_1 at h
  split at h
  · exact ⟨_, _, rfl, h⟩
  · cases h
theorem d_2_l {st : List mV} {k : mV → mV → List mV → mA} {z : mC} (h : d_2 st k = .inl z) : ∃ x y r, st = x :: y :: r ∧ k x y r = .inl z := by
  unfold d_2 at h
  split at h
  · exact ⟨_, _, _, rfl, h⟩
  · cases h
theorem a_g_l {c : Prop} [Decidable c] {x : mA} {z : mC} (h : a_g c x = .inl z) : c ∧ x = .inl z := by
  unfold a_g at h
  split at h
  · exact ⟨by assumption, h⟩
  · cases h
theorem w_t {M : mM} {v : mV} {r : List mV} (h : ∀ x ∈ v :: r, w_V M x) : ∀ x ∈ r, w_V M x := fun x hx => h x (List.mem_cons_of_mem _ hx)
theorem w_h {M : mM} {v : mV} {r : List mV} (h : ∀ x ∈ v :: r, w_V M x) : w_V M v := h v List.mem_cons_self
theorem w_c {M : mM} {v : mV} {r : List mV} (h1 : w_V M v) (h : ∀ x ∈ r, w_V M x) : ∀ x ∈ v :: r, w_V M x := fun x hx => (List.mem_cons.mp hx).elim (fun e => e ▸ h1) (h x)
theorem w_ls {M : mM} {ls : mL} {i : Nat} {x : mV} (h : ∀ i v, l_get ls i = some v → w_V M v) (hx : w_V M x) : ∀ k v, l_get (l_set ls i x) k = some v → w_V M v := fun k v hk => by
  rw [l_get_set] at hk
  split at hk
  · cases hk; exact hx
  · exact h k v hk
theorem w_up {M M' : mM} (h : h_n M ≤ h_n M') {v : mV} (hv : w_V M v) : w_V M' v := by
  cases v with
  | inl x => trivial
  | inr r => exact Nat.le_trans hv h
