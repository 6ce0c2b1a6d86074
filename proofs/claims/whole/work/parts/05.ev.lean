/-! runs of the small machine, and their limit ev, which needs no fuel -/
def a_run : Nat → Nat → Nat → mL → List mV → mM → Option mR
  | 0, _, _, _, _, _ => none
  | n + 1, j, ip, ls, st, M => match a_ct (h_cd j).1 ip ls st M with
    | .inl (ip', ls', st', M') => a_run n j ip' ls' st' M'
    | .inr (.inl (j', as, rt, r)) => (match a_run n j' 0 (a_ent (h_cd j').2 as) [] M with
      | some (v, M') => (match a_push rt v r with
        | some st' => a_run n j (ip + 1) ls st' M'
        | none => none)
      | none => none)
    | .inr (.inr o) => o
theorem a_run_mono : ∀ (n j ip : Nat) (ls : mL) (st : List mV) (M : mM) (r : mR), a_run n j ip ls st M = some r → a_run (n + 1) j ip ls st M = some r := by
  intro n
  induction n with
  | zero => intro j ip ls st M r h; simp [a_run] at h
  | succ n ih =>
    intro j ip ls st M r h
    rw [a_run] at h ⊢
    generalize a_ct (h_cd j).1 ip ls st M = q at h ⊢
    rcases q with ⟨ip', ls', st', M'⟩ | ⟨j', as, rt, rr⟩ | o
    · exact ih _ _ _ _ _ _ h
    · dsimp only at h ⊢
      cases h1 : a_run n j' 0 (a_ent (h_cd j').2 as) [] M with
      | none => rw [h1] at h; cases h
      | some w =>
        obtain ⟨v, M'⟩ := w
        rw [ih _ _ _ _ _ _ h1]
        rw [h1] at h
        dsimp only at h ⊢
        cases h2 : a_push rt v rr with
        | none => rw [h2] at h; cases h
        | some st' =>
          rw [h2] at h
          exact ih _ _ _ _ _ _ h
    · exact h
theorem a_run_le {n k j ip : Nat} {ls : mL} {st : List mV} {M : mM} {r : mR} (hk : n ≤ k) (h : a_run n j ip ls st M = some r) : a_run k j ip ls st M = some r := by
  induction hk with
  | refl => exact h
  | step _ ih => exact a_run_mono _ _ _ _ _ _ _ ih
theorem a_run_det {n k j ip : Nat} {ls : mL} {st : List mV} {M : mM} {r t : mR} (h : a_run n j ip ls st M = some r) (g : a_run k j ip ls st M = some t) : r = t := by
  have h1 := a_run_le (Nat.le_max_left n k) h
  have h2 := a_run_le (Nat.le_max_right n k) g
  exact Option.some.inj (h1.symm.trans h2)
noncomputable def ev (j ip : Nat) (ls : mL) (st : List mV) (M : mM) : Option mR :=
  @dite _ (∃ r : mR, ∃ n : Nat, a_run n j ip ls st M = some r) (Classical.propDecidable _) (fun h => some h.choose) (fun _ => none)
theorem ev_some {j ip : Nat} {ls : mL} {st : List mV} {M : mM} {r : mR} : ev j ip ls st M = some r ↔ ∃ n : Nat, a_run n j ip ls st M = some r := by
  unfold ev
  constructor
  · intro h
    split at h
    · rename_i hx
      obtain ⟨n, hn⟩ := hx.choose_spec
      exact ⟨n, by rw [hn]; exact h⟩
    · cases h
  · rintro ⟨n, hn⟩
    rw [dif_pos ⟨r, n, hn⟩]
    obtain ⟨k, hk⟩ := Exists.choose_spec (⟨r, n, hn⟩ : ∃ r : mR, ∃ n : Nat, a_run n j ip ls st M = some r)
    rw [a_run_det hk hn]
theorem ev_eq {j ip j2 ip2 : Nat} {ls ls2 : mL} {st st2 : List mV} {M M2 : mM} (h : ∀ r, (∃ n, a_run n j ip ls st M = some r) ↔ ∃ n, a_run n j2 ip2 ls2 st2 M2 = some r) : ev j ip ls st M = ev j2 ip2 ls2 st2 M2 :=
  Option.ext fun r => by rw [ev_some, ev_some]; exact h r
theorem ev_n {j ip q ip' : Nat} {C : List Instr} {ls ls' : mL} {st st' : List mV} {M M' : mM} (hc : h_cd j = (C, q)) (h : a_ct C ip ls st M = .inl (ip', ls', st', M')) : ev j ip ls st M = ev j ip' ls' st' M' := by
  refine ev_eq fun r => ⟨?_, ?_⟩
  · rintro ⟨n, hn⟩
    cases n with
    | zero => simp [a_run] at hn
    | succ n => rw [a_run, hc, h] at hn; exact ⟨n, hn⟩
  · rintro ⟨n, hn⟩
    exact ⟨n + 1, by rw [a_run, hc, h]; exact hn⟩
theorem ev_d {j ip q : Nat} {C : List Instr} {ls : mL} {st : List mV} {M : mM} {o : Option mR} (hc : h_cd j = (C, q)) (h : a_ct C ip ls st M = .inr (.inr o)) : ev j ip ls st M = o := by
  refine Option.ext fun r => ?_
  rw [ev_some]
  constructor
  · rintro ⟨n, hn⟩
    cases n with
    | zero => simp [a_run] at hn
    | succ n => rw [a_run, hc, h] at hn; exact hn
  · intro hr
    exact ⟨1, by rw [a_run, hc, h]; exact hr⟩
/-- behind a call: an int, a reference, nothing -/
def c_I (o : Option mR) (k : Int32 → mM → Option mR) : Option mR := match o with
  | some (some (.inl x), M) => k x M
  | _ => none
def c_R (o : Option mR) (k : Nat → mM → Option mR) : Option mR := match o with
  | some (some (.inr x), M) => k x M
  | _ => none
def c_V (o : Option mR) (k : mM → Option mR) : Option mR := match o with
  | some (none, M) => k M
  | _ => none
theorem ev_c0 {j ip q j' rt : Nat} {C : List Instr} {ls : mL} {st as rr : List mV} {M : mM} (hc : h_cd j = (C, q)) (h : a_ct C ip ls st M = .inr (.inl (j', as, rt, rr))) :
    ev j ip ls st M = (ev j' 0 (a_ent (h_cd j').2 as) [] M).bind fun w => (a_push rt w.1 rr).bind fun st' => ev j (ip + 1) ls st' w.2 := by
  refine Option.ext fun r => ?_
  rw [ev_some, Option.bind_eq_some_iff]
  constructor
  · rintro ⟨n, hn⟩
    cases n with
    | zero => simp [a_run] at hn
    | succ n =>
      rw [a_run, hc, h] at hn
      dsimp only at hn
      cases h1 : a_run n j' 0 (a_ent (h_cd j').2 as) [] M with
      | none => rw [h1] at hn; cases hn
      | some w =>
        obtain ⟨v, M'⟩ := w
        rw [h1] at hn
        dsimp only at hn
        refine ⟨(v, M'), ev_some.mpr ⟨n, h1⟩, ?_⟩
        dsimp only
        cases h2 : a_push rt v rr with
        | none => rw [h2] at hn; cases hn
        | some st' =>
          rw [h2] at hn
          exact ev_some.mpr ⟨n, hn⟩
  · rintro ⟨⟨v, M'⟩, h1, h2⟩
    obtain ⟨n, hn⟩ := ev_some.mp h1
    rw [Option.bind_eq_some_iff] at h2
    obtain ⟨st', h3, h4⟩ := h2
    obtain ⟨k, hk⟩ := ev_some.mp h4
    refine ⟨max n k + 1, ?_⟩
    rw [a_run, hc, h]
    dsimp only at h3 hk ⊢
    rw [a_run_le (Nat.le_max_left n k) hn]
    dsimp only
    rw [h3]
    exact a_run_le (Nat.le_max_right n k) hk
theorem ev_cI {j ip q j' q' : Nat} {C C' : List Instr} {ls : mL} {st as rr : List mV} {M : mM} (hc : h_cd j = (C, q)) (h : a_ct C ip ls st M = .inr (.inl (j', as, 1, rr))) (hc' : h_cd j' = (C', q')) :
    ev j ip ls st M = c_I (ev j' 0 (a_ent q' as) [] M) fun x M => ev j (ip + 1) ls (.inl x :: rr) M := by
  rw [ev_c0 hc h, hc']
  generalize ev j' 0 (a_ent q' as) [] M = o
  rcases o with _ | ⟨_ | x | x, M'⟩ <;> rfl
theorem ev_cR {j ip q j' q' : Nat} {C C' : List Instr} {ls : mL} {st as rr : List mV} {M : mM} (hc : h_cd j = (C, q)) (h : a_ct C ip ls st M = .inr (.inl (j', as, 2, rr))) (hc' : h_cd j' = (C', q')) :
    ev j ip ls st M = c_R (ev j' 0 (a_ent q' as) [] M) fun x M => ev j (ip + 1) ls (.inr x :: rr) M := by
  rw [ev_c0 hc h, hc']
  generalize ev j' 0 (a_ent q' as) [] M = o
  rcases o with _ | ⟨_ | x | x, M'⟩ <;> rfl
theorem ev_cV {j ip q j' q' : Nat} {C C' : List Instr} {ls : mL} {st as rr : List mV} {M : mM} (hc : h_cd j = (C, q)) (h : a_ct C ip ls st M = .inr (.inl (j', as, 0, rr))) (hc' : h_cd j' = (C', q')) :
    ev j ip ls st M = c_V (ev j' 0 (a_ent q' as) [] M) fun M => ev j (ip + 1) ls rr M := by
  rw [ev_c0 hc h, hc']
  generalize ev j' 0 (a_ent q' as) [] M = o
  rcases o with _ | ⟨_ | x | x, M'⟩ <;> rfl
