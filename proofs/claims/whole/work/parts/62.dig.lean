/-! digests of both sides, by the list of their words -/
def rowL (u : Nat → Int32) (n : Nat) : List Int32 := (List.range n).map u
def dgl (wl : List Int32) : Nat → Int32 := dgs (fun i => wl.getD i 0) wl.length
theorem rowL_len (u : Nat → Int32) (n : Nat) : (rowL u n).length = n := by unfold rowL; rw [List.length_map, List.length_range]
theorem rowL_get (u : Nat → Int32) {n k : Nat} (h : k < n) : (rowL u n).getD k 0 = u k := by
  unfold rowL
  rw [List.getD_eq_getElem?_getD, List.getElem?_map, List.getElem?_range h]
  rfl
theorem rowL_congr {u v : Nat → Int32} {n : Nat} (h : ∀ k, k < n → u k = v k) : rowL u n = rowL v n := by
  unfold rowL
  exact List.map_congr_left (fun k hk => h k (List.mem_range.mp hk))
theorem getD_l {a b : List Int32} {i : Nat} (h : i < a.length) : (a ++ b).getD i 0 = a.getD i 0 := by
  rw [List.getD_eq_getElem?_getD, List.getD_eq_getElem?_getD, List.getElem?_append_left h]
theorem getD_r {a b : List Int32} {i : Nat} (h : a.length ≤ i) : (a ++ b).getD i 0 = b.getD (i - a.length) 0 := by
  rw [List.getD_eq_getElem?_getD, List.getD_eq_getElem?_getD, List.getElem?_append_right h]
/-- the class's digest holds these words -/
def dS (M : mM) (wl : List Int32) (M' : mM) : Prop := ∃ c, M' = mkU M c ∧ c 5 3 = nI wl.length ∧ (∀ i, i < wl.length → c 6 i = wl.getD i 0) ∧ ∀ a j, a ≠ 6 → ¬ (a = 5 ∧ j = 3) → c a j = h_i M a j
theorem dS_start {M : mM} (hD : D_sh M) : ∃ M', ev 1 0 [some (.inr 5)] [] M = some (none, M') ∧ dS M [] M' :=
  ⟨h_si M 5 3 0, by rw [e_1_0, if_pos hD.1], f_s (h_i M) 5 3 0, rfl, f_s_eq, fun i hi => absurd hi (by simp), fun a j h1 h2 => f_s_ne (by omega)⟩
theorem dS_take {M M1 : mM} (hD : D_sh M) {wl : List Int32} (h : dS M wl M1) (hl : wl.length < 45) (v : Int32) : ∃ M', ev 3 0 [some (.inr 5), some (.inl v)] [] M1 = some (none, M') ∧ dS M (wl ++ [v]) M' := by
  obtain ⟨c, rfl, h1, h2, h3⟩ := h
  refine ⟨_, C_take hD hl h1, _, rfl, ?_, fun i hi => ?_, fun a j q1 q2 => ?_⟩
  · rw [f_s_eq, List.length_append]; rfl
  · rw [f_s_row (show 6 ≠ 5 by decide)]
    rw [List.length_append] at hi
    have hi' : i < wl.length + 1 := hi
    rcases Nat.lt_or_ge i wl.length with q | q
    · rw [f_s_ne (by omega), getD_l q]; exact h2 i q
    · rw [show i = wl.length by omega, f_s_eq, getD_r (Nat.le_refl _), Nat.sub_self]; rfl
  · rw [f_s_ne (by omega), f_s_ne (by omega)]; exact h3 a j q1 q2
theorem dS_row {M M1 : mM} (hD : D_sh M) {wl : List Int32} (h : dS M wl M1) {n a : Nat} (hl : wl.length + n ≤ 45) (ha : h_k M a = 9) (hn : n ≤ h_l M a) (hl2 : h_l M a < 2 ^ 31) (ha6 : a ≠ 6) (ha5 : a ≠ 5) : ∃ M', ev 4 0 [some (.inr 5), some (.inr a), some (.inl (nI n)), none] [] M1 = some (none, M') ∧ dS M (wl ++ rowL (h_i M a) n) M' := by
  obtain ⟨c, rfl, h1, h2, h3⟩ := h
  obtain ⟨c', e1, e2, e3, e4, e5⟩ := C_takeRow hD hl ha hn hl2 ha6 h1
  refine ⟨_, e1, c', rfl, ?_, fun i hi => ?_, fun b j q1 q2 => ?_⟩
  · rw [e2, List.length_append, rowL_len]
  · rw [List.length_append, rowL_len] at hi
    rcases Nat.lt_or_ge i wl.length with q | q
    · rw [e3 i q, getD_l q]; exact h2 i q
    · rw [getD_r q, rowL_get _ (by omega)]
      have := e4 (i - wl.length) (by omega)
      rw [show wl.length + (i - wl.length) = i by omega] at this
      rw [this]; exact h3 a _ ha6 (fun q => ha5 q.1)
  · rw [e5 b j q1 q2]; exact h3 b j q1 q2
theorem rc1 {M : mM} {a : Nat} (h : h_k M a = 1) (as : List mV) : a_rec M 1 (.inr a :: as) = true := a_rec1 (q := 0) h
theorem dS_k {M M1 : mM} {wl : List Int32} (h : dS M wl M1) : h_k M1 = h_k M ∧ h_l M1 = h_l M ∧ h_r M1 = h_r M ∧ h_n M1 = h_n M ∧ h_v M1 = h_v M := by
  obtain ⟨c, rfl, -⟩ := h
  exact ⟨rfl, rfl, rfl, rfl, rfl⟩
theorem dS_with {M : mM} (hD : D_sh M) {a : Nat} (ha : h_k M a = 9) (hl : h_l M a = 8) (ha6 : a ≠ 6) (ha5 : a ≠ 5) : ∃ M', ev 2 0 [some (.inr 5), some (.inr a)] [] M = some (none, M') ∧ dS M (rowL (h_i M a) 8) M' := by
  obtain ⟨M1, e1, d1⟩ := dS_start hD
  obtain ⟨M2, e2, d2⟩ := dS_row hD d1 (n := 8) (a := a) (by simp) ha (by omega) (by omega) ha6 ha5
  rw [show nI 8 = 8 from rfl] at e2
  have k1 := (dS_k d1).1
  refine ⟨M2, ?_, d2⟩
  rw [e_2_0]
  simp only [rc1 hD.1, true_and, List.length_nil, Nat.zero_le, if_true, e1, c_V, rc1 (show h_k M1 5 = 1 by rw [k1]; exact hD.1), e2]
/-- the class's digest goes out into a row -/
theorem dS_fin {M M1 : mM} (hD : D_sh M) {wl : List Int32} (h : dS M wl M1) {a o n : Nat} (hl : wl.length ≤ 45) (ha : h_k M a = 9) (ha9 : ¬ (5 ≤ a ∧ a ≤ 8)) (hn : n ≤ 8) (hl1 : o + n ≤ h_l M a) (hl2 : h_l M a < 2 ^ 31) (hK1 : ∀ i, i < 8 → h_i M 1 i = s_t1 i) (hK2 : ∀ i, i < 64 → h_i M 2 i = s_t2 i) : ∃ c, ev 5 0 [some (.inr 5), some (.inr a), some (.inl (nI o)), some (.inl (nI n)), none, none, none] [] M1 = some (none, mkU M c) ∧ (∀ k, k < n → c a (o + k) = dgl wl k) ∧ (∀ j, ¬ (o ≤ j ∧ j < o + n) → c a j = h_i M a j) ∧ ∀ b j, b ≠ a → ¬ (5 ≤ b ∧ b ≤ 8) → c b j = h_i M b j := by
  obtain ⟨c, rfl, h1, h2, h3⟩ := h
  obtain ⟨c', e1, e2, e3, e4⟩ := C_finish hD (o := o) (n := n) hl ha (by omega) (by omega) (by omega) hn hl1 hl2 h1 (fun i hi => (h3 1 i (by decide) (by omega)).trans (hK1 i hi)) (fun i hi => (h3 2 i (by decide) (by omega)).trans (hK2 i hi))
  refine ⟨c', e1, fun k hk => ?_, fun j hj => ?_, fun b j q1 q2 => ?_⟩
  · rw [e2 k hk]; exact dgs_congr h2 (by omega)
  · rw [e3 j hj]; exact h3 a j (by omega) (by omega)
  · rw [e4 b j q1 (by omega) (by omega) (by omega)]; exact h3 b j (by omega) (by omega)
/-- the reference's text holds these words -/
def rS (f : Nat → Nat → Int32) (wl : List Int32) (F : Nat → Nat → Int32) : Prop := F 4 31 = nI wl.length ∧ (∀ i, i < wl.length → F 30 i = wl.getD i 0) ∧ ∀ b j, b ≠ 30 → ¬ (b = 4 ∧ j = 31) → F b j = f b j
theorem rS_nil {f : Nat → Nat → Int32} (h : f 4 31 = 0) : rS f [] f := ⟨h, fun i hi => absurd hi (by simp), fun _ _ _ _ => rfl⟩
theorem rS_say {f F : Nat → Nat → Int32} {wl : List Int32} (h : rS f wl F) (hl : wl.length < 64) (v : Int32) : ∃ F', ev 111 0 [some (.inr 4), some (.inl v)] [] (mkR F) = some (none, mkR F') ∧ rS f (wl ++ [v]) F' := by
  obtain ⟨h1, h2, h3⟩ := h
  refine ⟨_, R_say hl h1, ?_, fun i hi => ?_, fun a j q1 q2 => ?_⟩
  · rw [f_s_eq, List.length_append]; rfl
  · rw [f_s_row (show 30 ≠ 4 by decide)]
    rw [List.length_append] at hi
    have hi' : i < wl.length + 1 := hi
    rcases Nat.lt_or_ge i wl.length with q | q
    · rw [f_s_ne (by omega), getD_l q]; exact h2 i q
    · rw [show i = wl.length by omega, f_s_eq, getD_r (Nat.le_refl _), Nat.sub_self]; rfl
  · rw [f_s_ne (by omega), f_s_ne (by omega)]; exact h3 a j q1 q2
theorem rS_sayM {f F : Nat → Nat → Int32} {wl : List Int32} (h : rS f wl F) {rd m : Nat} (hl : wl.length + 8 ≤ 64) (hrd : rd < 96) (hm : m < 5) : ∃ F', ev 112 0 [some (.inr 4), some (.inl (nI rd)), some (.inl (nI m)), none] [] (mkR F) = some (none, mkR F') ∧ rS f (wl ++ rowL (fun k => f 11 (40 * rd + 8 * m + k)) 8) F' := by
  obtain ⟨h1, h2, h3⟩ := h
  obtain ⟨F', e1, e2, e3, e4, e5⟩ := R_sayM hl hrd hm h1
  refine ⟨F', e1, ?_, fun i hi => ?_, fun b j q1 q2 => ?_⟩
  · rw [e2, List.length_append, rowL_len]
  · rw [List.length_append, rowL_len] at hi
    rcases Nat.lt_or_ge i wl.length with q | q
    · rw [e3 i q, getD_l q]; exact h2 i q
    · rw [getD_r q, rowL_get _ (by omega)]
      have := e4 (i - wl.length) (by omega)
      rw [show wl.length + (i - wl.length) = i by omega] at this
      rw [this]; exact h3 11 _ (by decide) (by omega)
  · rw [e5 b j q1 q2]; exact h3 b j q1 q2
theorem rS_keep {f F : Nat → Nat → Int32} {wl : List Int32} (h : rS f wl F) {rd m : Nat} (hl : wl.length ≤ 45) (hrd : rd < 96) (hm : m < 5) (hK : ∀ i, i < 64 → f 3 i = s_t3 i) : ∃ F', ev 115 0 [some (.inr 4), some (.inl (nI rd)), some (.inl (nI m)), none] [] (mkR F) = some (none, mkR F') ∧ F' 4 31 = 0 ∧ (∀ b j, b ≠ 28 → b ≠ 29 → b ≠ 30 → ¬ (b = 4 ∧ j = 31) → F' b j = f_r f 11 (40 * rd + 8 * m) (40 * rd + 8 * m + 8) (fun j => dgl wl (j - (40 * rd + 8 * m))) b j) := by
  obtain ⟨h1, h2, h3⟩ := h
  obtain ⟨F', e1, e2, e3, e4, e5⟩ := R_keep hl hrd hm h1 (fun i hi => (h3 3 i (by decide) (by omega)).trans (hK i hi))
  refine ⟨F', e1, e3, fun b j q1 q2 q3 q4 => ?_⟩
  by_cases hb : b = 11
  · subst hb
    by_cases hj : 40 * rd + 8 * m ≤ j ∧ j < 40 * rd + 8 * m + 8
    · rw [f_r_in hj.1 hj.2]
      have := e2 (j - (40 * rd + 8 * m)) (by omega)
      rw [show 40 * rd + 8 * m + (j - (40 * rd + 8 * m)) = j by omega] at this
      rw [this]
      exact dgs_congr h2 (by omega)
    · rw [e4 j hj, f_r_ne (by omega)]
      exact h3 11 j (by decide) (by omega)
  · rw [e5 b j hb q1 q2 q4, f_r_row hb]
    exact h3 b j q3 q4
theorem rS_dig {f F : Nat → Nat → Int32} {wl : List Int32} (h : rS f wl F) (hl : wl.length ≤ 45) (hK : ∀ i, i < 64 → f 3 i = s_t3 i) : ∃ F', ev 114 0 [some (.inr 4), none, none, none, none] [] (mkR F) = some (none, mkR F') ∧ F' 4 31 = 0 ∧ (∀ k, k < 8 → F' 28 k = dgl wl k) ∧ (∀ b j, b ≠ 28 → b ≠ 29 → b ≠ 30 → ¬ (b = 4 ∧ j = 31) → F' b j = f b j) := by
  obtain ⟨h1, h2, h3⟩ := h
  obtain ⟨F', e1, e2, e3, e4⟩ := R_digest hl h1 (fun i hi => (h3 3 i (by decide) (by omega)).trans (hK i hi))
  refine ⟨F', e1, e3, fun k hk => ?_, fun b j q1 q2 q3 q4 => ?_⟩
  · rw [e2 k hk]; exact dgs_congr h2 hk
  · rw [e4 b j q1 q2 q4]; exact h3 b j q3 q4
section OP
variable {n : Nat} {M : mM} {f : Nat → Nat → Int32} {ρ τ κ : Nat → Nat}
/-- a measurement is kept, on both sides -/
theorem meas_ (h : Rel n M f ρ τ κ) {o q : Nat} (ho : o < n) (ho2 : f 5 o = 2) (hq : q < 5) {D : Nat → Int32} {c F : Nat → Nat → Int32} (c1 : ∀ k, k < 8 → c (ρ o + 2 + q) (0 + k) = D k) (c2 : ∀ j, ¬ (0 ≤ j ∧ j < 0 + 8) → c (ρ o + 2 + q) j = h_i M (ρ o + 2 + q) j) (c3 : ∀ b j, b ≠ ρ o + 2 + q → ¬ (5 ≤ b ∧ b ≤ 8) → c b j = h_i M b j) (f1 : F 4 31 = 0) (f2 : ∀ b j, b ≠ 28 → b ≠ 29 → b ≠ 30 → ¬ (b = 4 ∧ j = 31) → F b j = f_r f 11 (40 * o + 8 * q) (40 * o + 8 * q + 8) (fun j => D (j - (40 * o + 8 * q))) b j) : Rel n (mkU M c) F ρ τ κ := by
  have h1 := U_rows h ho ho2 hq (Nat.le_refl 8) (lo := 0) D (fun j => D (j - (40 * o + 8 * q))) (fun k _ hk j hj => by rw [hj, show 40 * o + 8 * q + k - (40 * o + 8 * q) = k by omega])
  have h2 := Rel_f h1 f1 f2
  have h3 := Rel_c (c := c) h2 (fun a k hs => by
    have h58 : ¬ (5 ≤ a ∧ a ≤ 8) := fun q => hs (Or.inl (by omega))
    rw [U_i]
    by_cases ha : a = ρ o + 2 + q
    · subst ha
      rcases Nat.lt_or_ge k 8 with q | q
      · rw [f_r_in (Nat.zero_le _) q, ← c1 k q, Nat.zero_add]
      · rw [f_r_ne (by omega)]; exact c2 k (by omega)
    · rw [f_r_row ha]; exact c3 a k ha h58)
  exact h3
end OP
