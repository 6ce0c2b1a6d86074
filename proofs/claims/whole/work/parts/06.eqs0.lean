/-! rows for the equations of the methods -/
def a_cts (C : List Instr) : Nat → Nat → mL → List mV → mM → Option mC
  | 0, ip, ls, st, M => some (ip, ls, st, M)
  | n + 1, ip, ls, st, M => match a_ct C ip ls st M with
    | .inl (ip', ls', st', M') => a_cts C n ip' ls' st' M'
    | _ => none
theorem ev_ns {j q : Nat} {C : List Instr} (hc : h_cd j = (C, q)) : ∀ (k : Nat) {ip ip' : Nat} {ls ls' : mL} {st st' : List mV} {M M' : mM}, a_cts C k ip ls st M = some (ip', ls', st', M') → ev j ip ls st M = ev j ip' ls' st' M' := by
  intro k
  induction k with
  | zero =>
    intro ip ip' ls ls' st st' M M' h
    simp only [a_cts, Option.some.injEq, Prod.mk.injEq] at h
    obtain ⟨rfl, rfl, rfl, h⟩ := h
    rw [h]
  | succ k ih =>
    intro ip ip' ls ls' st st' M M' h
    rw [a_cts] at h
    cases hq : a_ct C ip ls st M with
    | inl w =>
      obtain ⟨i1, l1, s1, M1⟩ := w
      rw [hq] at h
      exact (ev_n hc hq).trans (ih h)
    | inr w => rw [hq] at h; cases h
theorem ev_g {j ip q ip' : Nat} {C : List Instr} {ls ls' : mL} {st st' : List mV} {M M' : mM} (c : Prop) [Decidable c] (hc : h_cd j = (C, q)) (h : a_ct C ip ls st M = a_g c (.inl (ip', ls', st', M'))) : ev j ip ls st M = if c then ev j ip' ls' st' M' else none := by
  by_cases hh : c
  · rw [if_pos hh]
    rw [a_g, if_pos hh] at h
    exact ev_n hc h
  · rw [if_neg hh]
    rw [a_g, if_neg hh] at h
    exact ev_d hc h
theorem ev_i {j ip q i1 i2 : Nat} {C : List Instr} {ls l1 l2 : mL} {st s1 s2 : List mV} {M M1 M2 : mM} (c : Prop) [Decidable c] (hc : h_cd j = (C, q)) (h : a_ct C ip ls st M = if c then .inl (i1, l1, s1, M1) else .inl (i2, l2, s2, M2)) : ev j ip ls st M = if c then ev j i1 l1 s1 M1 else ev j i2 l2 s2 M2 := by
  by_cases hh : c
  · rw [if_pos hh]
    rw [if_pos hh] at h
    exact ev_n hc h
  · rw [if_neg hh]
    rw [if_neg hh] at h
    exact ev_n hc h
theorem t_i {α : Type} {c : Prop} [Decidable c] {a b a' b' : α} (h1 : a = a') (h2 : b = b') : (if c then a else b) = if c then a' else b' := by rw [h1, h2]
theorem t_cI {o : Option mR} {k k' : Int32 → mM → Option mR} (h : ∀ x M, k x M = k' x M) : c_I o k = c_I o k' := by rw [show k = k' from funext fun x => funext fun M => h x M]
theorem t_cR {o : Option mR} {k k' : Nat → mM → Option mR} (h : ∀ x M, k x M = k' x M) : c_R o k = c_R o k' := by rw [show k = k' from funext fun x => funext fun M => h x M]
theorem t_cV {o : Option mR} {k k' : mM → Option mR} (h : ∀ M, k M = k' M) : c_V o k = c_V o k' := by rw [show k = k' from funext fun M => h M]
theorem ev_gI {j ip q j' q' : Nat} {C C' : List Instr} {ls : mL} {st as rr : List mV} {M : mM} (c : Prop) [Decidable c] (hc : h_cd j = (C, q)) (hc' : h_cd j' = (C', q')) (h : a_ct C ip ls st M = a_g c (.inr (.inl (j', as, 1, rr)))) : ev j ip ls st M = if c then c_I (ev j' 0 (a_ent q' as) [] M) (fun x M => ev j (ip + 1) ls (.inl x :: rr) M) else none := by
  by_cases hh : c
  · rw [if_pos hh]
    rw [a_g, if_pos hh] at h
    exact ev_cI hc h hc'
  · rw [if_neg hh]
    rw [a_g, if_neg hh] at h
    exact ev_d hc h
theorem ev_gR {j ip q j' q' : Nat} {C C' : List Instr} {ls : mL} {st as rr : List mV} {M : mM} (c : Prop) [Decidable c] (hc : h_cd j = (C, q)) (hc' : h_cd j' = (C', q')) (h : a_ct C ip ls st M = a_g c (.inr (.inl (j', as, 2, rr)))) : ev j ip ls st M = if c then c_R (ev j' 0 (a_ent q' as) [] M) (fun x M => ev j (ip + 1) ls (.inr x :: rr) M) else none := by
  by_cases hh : c
  · rw [if_pos hh]
    rw [a_g, if_pos hh] at h
    exact ev_cR hc h hc'
  · rw [if_neg hh]
    rw [a_g, if_neg hh] at h
    exact ev_d hc h
theorem ev_gV {j ip q j' q' : Nat} {C C' : List Instr} {ls : mL} {st as rr : List mV} {M : mM} (c : Prop) [Decidable c] (hc : h_cd j = (C, q)) (hc' : h_cd j' = (C', q')) (h : a_ct C ip ls st M = a_g c (.inr (.inl (j', as, 0, rr)))) : ev j ip ls st M = if c then c_V (ev j' 0 (a_ent q' as) [] M) (fun M => ev j (ip + 1) ls rr M) else none := by
  by_cases hh : c
  · rw [if_pos hh]
    rw [a_g, if_pos hh] at h
    exact ev_cV hc h hc'
  · rw [if_neg hh]
    rw [a_g, if_neg hh] at h
    exact ev_d hc h
theorem ev_gd {j ip q : Nat} {C : List Instr} {ls : mL} {st : List mV} {M : mM} {o : Option mR} (c : Prop) [Decidable c] (hc : h_cd j = (C, q)) (h : a_ct C ip ls st M = a_g c (.inr (.inr o))) : ev j ip ls st M = if c then o else none := by
  by_cases hh : c
  · rw [if_pos hh]
    rw [a_g, if_pos hh] at h
    exact ev_d hc h
  · rw [if_neg hh]
    rw [a_g, if_neg hh] at h
    exact ev_d hc h
def e_sw (x : Int32) (k : Nat → Option mR) (d : Int) : Int → List Int → Option mR
  | _, [] => k d.toNat
  | lo, t :: ts => if x = Int32.ofInt lo then k t.toNat else e_sw x k d (lo + 1) ts
theorem ev_sw0 {j q : Nat} {C : List Instr} {x : Int32} {ls : mL} {r : List mV} {M : mM} {d : Int} (hc : h_cd j = (C, q)) : ∀ (ts : List Int) (lo : Int) (ip : Nat) (st : List mV) (l0 : mL), a_ct C ip l0 st M = a_sw x (fun t => .inl (t, ls, r, M)) d lo ts → ev j ip l0 st M = e_sw x (fun t => ev j t ls r M) d lo ts := by
  intro ts
  induction ts with
  | nil => intro lo ip st l0 h; exact ev_n hc h
  | cons t ts ih =>
    intro lo ip st l0 h
    rw [a_sw] at h
    rw [e_sw]
    by_cases hh : x = Int32.ofInt lo
    · rw [if_pos hh] at h ⊢
      exact ev_n hc h
    · rw [if_neg hh] at h ⊢
      exact ih _ _ _ _ h
theorem ev_sw {j q ip : Nat} {C : List Instr} {x : Int32} {ls : mL} {r : List mV} {M : mM} {d : Int} {lo : Int} {ts : List Int} (hc : h_cd j = (C, q)) (h : a_ct C ip ls (.inl x :: r) M = a_sw x (fun t => .inl (t, ls, r, M)) d lo ts) : ev j ip ls (.inl x :: r) M = e_sw x (fun t => ev j t ls r M) d lo ts := ev_sw0 hc ts lo ip _ _ h
theorem ev_gi {j ip q i1 i2 : Nat} {C : List Instr} {ls l1 l2 : mL} {st s1 s2 : List mV} {M M1 M2 : mM} (g : Prop) [Decidable g] (c : Prop) [Decidable c] (hc : h_cd j = (C, q)) (h : a_ct C ip ls st M = a_g g (if c then .inl (i1, l1, s1, M1) else .inl (i2, l2, s2, M2))) : ev j ip ls st M = if g then (if c then ev j i1 l1 s1 M1 else ev j i2 l2 s2 M2) else none := by
  by_cases hh : g
  · rw [if_pos hh]
    rw [a_g, if_pos hh] at h
    exact ev_i c hc h
  · rw [if_neg hh]
    rw [a_g, if_neg hh] at h
    exact ev_d hc h
