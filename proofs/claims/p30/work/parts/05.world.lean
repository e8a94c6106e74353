/-! 05: the cells behind the abstract machine -/
def AK : List Key := [(7, 0, 0), (5, 0, 0), (1, 0, 0), (9, 0, 0), (0, 0, 0), (0, 0, 1), (0, 0, 2), (0, 0, 3), (0, 0, 4), (0, 0, 5), (13, 0, 0), (14, 0, 0), (10, 0, 0), (11, 0, 0), (3, 0, 0), (6, 0, 0), (3, 0, 1), (6, 0, 1), (3, 0, 2), (6, 0, 2), (3, 0, 3), (6, 0, 3), (3, 0, 4), (6, 0, 4), (3, 0, 5), (6, 0, 5), (3, 0, 6), (6, 0, 6), (3, 0, 7), (6, 0, 7), (3, 0, 8), (6, 0, 8), (3, 0, 9), (6, 0, 9), (3, 0, 10), (6, 0, 10), (3, 0, 11), (6, 0, 11), (3, 0, 12), (6, 0, 12), (3, 0, 13), (6, 0, 13), (3, 0, 14), (6, 0, 14), (3, 0, 15), (6, 0, 15), (3, 0, 16), (6, 0, 16), (3, 0, 17), (6, 0, 17), (3, 0, 18), (6, 0, 18), (3, 0, 19), (6, 0, 19), (5, 1, 0), (1, 1, 0), (9, 1, 0), (0, 1, 0), (0, 1, 1), (0, 1, 2), (0, 1, 3), (0, 1, 4), (0, 1, 5), (13, 1, 0), (14, 1, 0), (10, 1, 0), (11, 1, 0), (3, 1, 0), (6, 1, 0), (3, 1, 1), (6, 1, 1), (3, 1, 2), (6, 1, 2), (3, 1, 3), (6, 1, 3), (3, 1, 4), (6, 1, 4), (3, 1, 5), (6, 1, 5), (3, 1, 6), (6, 1, 6), (3, 1, 7), (6, 1, 7), (3, 1, 8), (6, 1, 8), (3, 1, 9), (6, 1, 9), (3, 1, 10), (6, 1, 10), (3, 1, 11), (6, 1, 11), (3, 1, 12), (6, 1, 12), (3, 1, 13), (6, 1, 13), (3, 1, 14), (6, 1, 14), (3, 1, 15), (6, 1, 15), (3, 1, 16), (6, 1, 16), (3, 1, 17), (6, 1, 17), (3, 1, 18), (6, 1, 18), (3, 1, 19), (6, 1, 19), (2, 0, 0), (12, 0, 0), (5, 2, 0), (1, 2, 0), (9, 2, 0), (0, 2, 0), (0, 2, 1), (0, 2, 2), (0, 2, 3), (0, 2, 4), (0, 2, 5), (13, 2, 0), (14, 2, 0), (10, 2, 0), (11, 2, 0), (3, 2, 0), (6, 2, 0), (3, 2, 1), (6, 2, 1), (3, 2, 2), (6, 2, 2), (3, 2, 3), (6, 2, 3), (3, 2, 4), (6, 2, 4), (3, 2, 5), (6, 2, 5), (3, 2, 6), (6, 2, 6), (3, 2, 7), (6, 2, 7), (3, 2, 8), (6, 2, 8), (3, 2, 9), (6, 2, 9), (3, 2, 10), (6, 2, 10), (3, 2, 11), (6, 2, 11), (3, 2, 12), (6, 2, 12), (3, 2, 13), (6, 2, 13), (3, 2, 14), (6, 2, 14), (3, 2, 15), (6, 2, 15), (3, 2, 16), (6, 2, 16), (3, 2, 17), (6, 2, 17), (3, 2, 18), (6, 2, 18), (3, 2, 19), (6, 2, 19), (5, 3, 0), (1, 3, 0), (9, 3, 0), (0, 3, 0), (0, 3, 1), (0, 3, 2), (0, 3, 3), (0, 3, 4), (0, 3, 5), (13, 3, 0), (14, 3, 0), (10, 3, 0), (11, 3, 0), (3, 3, 0), (6, 3, 0), (3, 3, 1), (6, 3, 1), (3, 3, 2), (6, 3, 2), (3, 3, 3), (6, 3, 3), (3, 3, 4), (6, 3, 4), (3, 3, 5), (6, 3, 5), (3, 3, 6), (6, 3, 6), (3, 3, 7), (6, 3, 7), (3, 3, 8), (6, 3, 8), (3, 3, 9), (6, 3, 9), (3, 3, 10), (6, 3, 10), (3, 3, 11), (6, 3, 11), (3, 3, 12), (6, 3, 12), (3, 3, 13), (6, 3, 13), (3, 3, 14), (6, 3, 14), (3, 3, 15), (6, 3, 15), (3, 3, 16), (6, 3, 16), (3, 3, 17), (6, 3, 17), (3, 3, 18), (6, 3, 18), (3, 3, 19), (6, 3, 19), (5, 4, 0), (1, 4, 0), (9, 4, 0), (0, 4, 0), (0, 4, 1), (0, 4, 2), (0, 4, 3), (0, 4, 4), (0, 4, 5), (13, 4, 0), (14, 4, 0), (10, 4, 0), (11, 4, 0), (3, 4, 0), (6, 4, 0), (3, 4, 1), (6, 4, 1), (3, 4, 2), (6, 4, 2), (3, 4, 3), (6, 4, 3), (3, 4, 4), (6, 4, 4), (3, 4, 5), (6, 4, 5), (3, 4, 6), (6, 4, 6), (3, 4, 7), (6, 4, 7), (3, 4, 8), (6, 4, 8), (3, 4, 9), (6, 4, 9), (3, 4, 10), (6, 4, 10), (3, 4, 11), (6, 4, 11), (3, 4, 12), (6, 4, 12), (3, 4, 13), (6, 4, 13), (3, 4, 14), (6, 4, 14), (3, 4, 15), (6, 4, 15), (3, 4, 16), (6, 4, 16), (3, 4, 17), (6, 4, 17), (3, 4, 18), (6, 4, 18), (3, 4, 19), (6, 4, 19), (5, 5, 0), (1, 5, 0), (9, 5, 0), (0, 5, 0), (0, 5, 1), (0, 5, 2), (0, 5, 3), (0, 5, 4), (0, 5, 5), (13, 5, 0), (14, 5, 0), (10, 5, 0), (11, 5, 0), (3, 5, 0), (6, 5, 0), (3, 5, 1), (6, 5, 1), (3, 5, 2), (6, 5, 2), (3, 5, 3), (6, 5, 3), (3, 5, 4), (6, 5, 4), (3, 5, 5), (6, 5, 5), (3, 5, 6), (6, 5, 6), (3, 5, 7), (6, 5, 7), (3, 5, 8), (6, 5, 8), (3, 5, 9), (6, 5, 9), (3, 5, 10), (6, 5, 10), (3, 5, 11), (6, 5, 11), (3, 5, 12), (6, 5, 12), (3, 5, 13), (6, 5, 13), (3, 5, 14), (6, 5, 14), (3, 5, 15), (6, 5, 15), (3, 5, 16), (6, 5, 16), (3, 5, 17), (6, 5, 17), (3, 5, 18), (6, 5, 18), (3, 5, 19), (6, 5, 19), (5, 6, 0), (1, 6, 0), (9, 6, 0), (0, 6, 0), (0, 6, 1), (0, 6, 2), (0, 6, 3), (0, 6, 4), (0, 6, 5), (13, 6, 0), (14, 6, 0), (10, 6, 0), (11, 6, 0), (3, 6, 0), (6, 6, 0), (3, 6, 1), (6, 6, 1), (3, 6, 2), (6, 6, 2), (3, 6, 3), (6, 6, 3), (3, 6, 4), (6, 6, 4), (3, 6, 5), (6, 6, 5), (3, 6, 6), (6, 6, 6), (3, 6, 7), (6, 6, 7), (3, 6, 8), (6, 6, 8), (3, 6, 9), (6, 6, 9), (3, 6, 10), (6, 6, 10), (3, 6, 11), (6, 6, 11), (3, 6, 12), (6, 6, 12), (3, 6, 13), (6, 6, 13), (3, 6, 14), (6, 6, 14), (3, 6, 15), (6, 6, 15), (3, 6, 16), (6, 6, 16), (3, 6, 17), (6, 6, 17), (3, 6, 18), (6, 6, 18), (3, 6, 19), (6, 6, 19), (5, 7, 0), (1, 7, 0), (9, 7, 0), (0, 7, 0), (0, 7, 1), (0, 7, 2), (0, 7, 3), (0, 7, 4), (0, 7, 5), (13, 7, 0), (14, 7, 0), (10, 7, 0), (11, 7, 0), (3, 7, 0), (6, 7, 0), (3, 7, 1), (6, 7, 1), (3, 7, 2), (6, 7, 2), (3, 7, 3), (6, 7, 3), (3, 7, 4), (6, 7, 4), (3, 7, 5), (6, 7, 5), (3, 7, 6), (6, 7, 6), (3, 7, 7), (6, 7, 7), (3, 7, 8), (6, 7, 8), (3, 7, 9), (6, 7, 9), (3, 7, 10), (6, 7, 10), (3, 7, 11), (6, 7, 11), (3, 7, 12), (6, 7, 12), (3, 7, 13), (6, 7, 13), (3, 7, 14), (6, 7, 14), (3, 7, 15), (6, 7, 15), (3, 7, 16), (6, 7, 16), (3, 7, 17), (6, 7, 17), (3, 7, 18), (6, 7, 18), (3, 7, 19), (6, 7, 19), (4, 0, 0), (15, 0, 0), (16, 0, 0), (17, 9, 0), (18, 9, 0), (19, 9, 0), (20, 9, 0), (21, 9, 0)]
def tysA (dA : Nat → ClassId) : List (ClassId × FieldType) := [(dA 0, .int), (dA 1, .char), (dA 2, .object RX0), (dA 3, .object RX3), (dA 4, .object RX6), (dA 5, .object RX5)]
def NC : Nat := 8
def X0 : SX := (0, fun _ => 0)
def fdsOf (ad : Key → Nat) (K j i : Nat) (M : Mem) : List Value := (List.range (clN K)).map fun s => match shp K s j with
  | some k => Value.ref (ad k)
  | none => .int (M K j i s)
def ent (dA : Nat → ClassId) (ad : Key → Nat) (M : Mem) (k : Key) : va_E :=
  if k.1 < NC then .inr (k.1, fdsOf ad k.1 k.2.1 k.2.2 M) else match aln X0 k.1 with
    | some (N, c) => .inl (dA (if c = true then 1 else 0), N, .inl (M k.1 k.2.1 k.2.2))
    | none => .inl (dA (k.1 - 7), (rln k.1).getD 0, .inr (.inr (.inr (.inr (fun n => some (ad (ael k.1 k.2.1 n)))))))
def WS (dA : Nat → ClassId) (ad : Key → Nat) (M : Mem) : va_W := AK.map fun k => (ad k, ent dA ad M k)
def AA (ad : Key → Nat) : Nat → Prop := fun q => ∃ k, k ∈ AK ∧ q = ad k
def vok : V → Prop
  | .inr (.inr (some k)) => k ∈ AK ∨ k = (30, 0, 0) ∨ (k.1 = 31 ∧ k.2.2 = 0 ∧ ∃ s, nth strT k.2.1 = some s)
  | _ => True
def cv (ad : Key → Nat) : V → Value
  | .inl a => .int a
  | .inr (.inl a) => .long a
  | .inr (.inr none) => .null
  | .inr (.inr (some k)) => .ref (ad k)
def vls (ls : List (Option V)) : Prop := ∀ (i : Nat) (v : V), getL ls i = some v → vok v
def vst (st : List V) : Prop := ∀ v ∈ st, vok v
def LR (ad : Key → Nat) (g : Bool) (n : Nat) (ls : List (Option V)) (als : Array Slot) : Prop := ls.length = n ∧ als.size = n ∧ lv_wf als ∧ (∀ (i : Nat) (v : V), getL ls i = some v → als[i]? = some (.val (cv ad v))) ∧ (g = false → ∀ (i : Nat) (v : V), getL ls i = some v → (cv ad v).category ≠ 2)
def asc (ad : Key → Nat) (ls : List (Option V)) : List (Nat × Value) := (List.range ls.length).filterMap fun i => (getL ls i).map fun v => (i, cv ad v)
theorem getL_lt {ls : List (Option V)} {i : Nat} {v : V} (h : getL ls i = some v) : i < ls.length := by
  rw [getL, nth_get] at h
  rcases Nat.lt_or_ge i ls.length with q | q
  · exact q
  · rw [List.getElem?_eq_none q] at h; simp at h
theorem mem_asc {ad : Key → Nat} {ls : List (Option V)} {q : Nat × Value} : q ∈ asc ad ls ↔ ∃ v, getL ls q.1 = some v ∧ q.2 = cv ad v := by
  obtain ⟨i, w⟩ := q
  constructor
  · intro h
    obtain ⟨j, -, hj⟩ := List.mem_filterMap.mp h
    cases hv : getL ls j with
    | none => rw [hv] at hj; cases hj
    | some v => rw [hv] at hj; cases hj; exact ⟨v, hv, rfl⟩
  · rintro ⟨v, hv, hw⟩
    simp only at hv hw
    exact List.mem_filterMap.mpr ⟨i, List.mem_range.mpr (getL_lt hv), by rw [hv, hw]; rfl⟩
theorem LR_has {ad : Key → Nat} {g : Bool} {n : Nat} {ls : List (Option V)} {als : Array Slot} (h : LR ad g n ls als) : lv_has als n (asc ad ls) := by
  obtain ⟨h1, h2, h3, h4, -⟩ := h
  refine ⟨h2, h3, fun q hq => ?_⟩
  obtain ⟨v, hv, e⟩ := mem_asc.mp hq
  rw [e]; exact h4 _ _ hv
theorem setL_len : ∀ (ls : List (Option V)) (i : Nat) (v : Option V), (setL ls i v).length = ls.length := by
  intro ls
  induction ls with
  | nil => intro i v; rfl
  | cons a l ih =>
    intro i v
    cases i with
    | zero => rfl
    | succ i => simp [setL, ih]
theorem nth_setL : ∀ (ls : List (Option V)) (i j : Nat) (v : Option V), nth (setL ls i v) j = if j = i ∧ i < ls.length then some v else nth ls j := by
  intro ls
  induction ls with
  | nil => intro i j v; simp [setL, nth]
  | cons a l ih =>
    intro i j v
    cases i with
    | zero =>
      cases j with
      | zero => simp [setL, nth]
      | succ j => simp [setL, nth]
    | succ i =>
      cases j with
      | zero => simp [setL, nth]
      | succ j => simp [setL, nth, ih]
theorem getL_setL (ls : List (Option V)) (i j : Nat) (v : Option V) : getL (setL ls i v) j = if j = i ∧ i < ls.length then v else getL ls j := by
  unfold getL
  rw [nth_setL]
  by_cases h : j = i ∧ i < ls.length
  · rw [if_pos h, if_pos h]
    cases v <;> rfl
  · rw [if_neg h, if_neg h]
theorem kilL_succ (ls : List (Option V)) (n : Nat) : kilL ls (n + 1) = bif isLong ((nth ls n).getD none) then setL ls n none else ls := rfl
theorem kilL_len (ls : List (Option V)) (i : Nat) : (kilL ls i).length = ls.length := by
  cases i with
  | zero => rfl
  | succ n =>
    rw [kilL_succ]
    cases isLong ((nth ls n).getD none) with
    | true => exact setL_len _ _ _
    | false => rfl
theorem isLong_cat {ad : Key → Nat} {v : V} (h : (cv ad v).category = 2) : isLong (some v) = true := by
  match v, h with
  | .inr (.inl a), _ => rfl
  | .inl a, h => simp [cv, Value.category] at h
  | .inr (.inr none), h => simp [cv, Value.category] at h
  | .inr (.inr (some k)), h => simp [cv, Value.category] at h
theorem getL_kilL {ad : Key → Nat} {ls : List (Option V)} {i j : Nat} {v : V} (h : getL (kilL ls i) j = some v) : getL ls j = some v ∧ ¬ (j + 1 = i ∧ (cv ad v).category = 2) := by
  cases i with
  | zero => exact ⟨h, fun q => absurd q.1 (by omega)⟩
  | succ n =>
    rw [kilL_succ] at h
    cases hl : isLong ((nth ls n).getD none) with
    | true =>
      rw [hl] at h
      simp only [cond_true] at h
      rw [getL_setL] at h
      split at h
      · cases h
      · next q =>
        refine ⟨h, fun z => q ⟨by omega, ?_⟩⟩
        have := getL_lt h
        omega
    | false =>
      rw [hl] at h
      simp only [cond_false] at h
      refine ⟨h, fun z => ?_⟩
      have e : j = n := by omega
      subst e
      have h2 := isLong_cat z.2
      unfold getL at h
      cases hn : nth ls j with
      | none => rw [hn] at h; cases h
      | some w =>
        rw [hn] at h hl
        cases w with
        | none => cases h
        | some w =>
          simp only [Option.some.injEq] at h
          subst h
          simp only [Option.getD_some] at hl
          rw [h2] at hl; cases hl
theorem LR_st1 {ad : Key → Nat} {g : Bool} {n i : Nat} {ls : List (Option V)} {als als' : Array Slot} {v : V} (h : LR ad g n ls als) (hi : i < n) (hc : (cv ad v).category = 1)
    (h' : lv_has als' n ((i, cv ad v) :: (asc ad ls).filter (fun q => !(q.1 == i) && !(q.1 + 1 == i && q.2.category == 2)))) : LR ad g n (st1 g ls i v) als' := by
  obtain ⟨h1, h2, h3, h4, h5⟩ := h
  obtain ⟨a1, a2, a3⟩ := h'
  have key : ∀ (j : Nat) (w : V), getL (st1 g ls i v) j = some w → (j = i ∧ w = v) ∨ (j ≠ i ∧ getL ls j = some w ∧ ¬ (j + 1 = i ∧ (cv ad w).category = 2)) := by
    intro j w hw
    unfold st1 at hw
    rw [getL_setL] at hw
    split at hw
    · next q => exact Or.inl ⟨q.1, by cases hw; rfl⟩
    · next q =>
      have hlen : (bif g then kilL ls i else ls).length = n := by
        cases g with
        | true => rw [cond_true, kilL_len, h1]
        | false => exact h1
      have hji : j ≠ i := fun z => q ⟨z, by rw [hlen]; exact hi⟩
      refine Or.inr ⟨hji, ?_⟩
      cases g with
      | true => exact getL_kilL hw
      | false =>
        refine ⟨hw, fun z => h5 rfl j w hw z.2⟩
  refine ⟨?_, a1, a2, fun j w hw => ?_, fun hg j w hw => ?_⟩
  · unfold st1
    rw [setL_len]
    cases g with
    | true => rw [cond_true, kilL_len, h1]
    | false => exact h1
  · rcases key j w hw with ⟨rfl, rfl⟩ | ⟨hji, hw, hn⟩
    · exact a3 _ List.mem_cons_self
    · refine a3 (j, cv ad w) (List.mem_cons_of_mem _ (List.mem_filter.mpr ⟨mem_asc.mpr ⟨w, hw, rfl⟩, ?_⟩))
      simp only [Bool.and_eq_true, Bool.not_eq_true', beq_eq_false_iff_ne, ne_eq, hji, not_false_eq_true, true_and, Bool.and_eq_false_iff]
      by_cases q : j + 1 = i
      · exact Or.inr (fun z => hn ⟨q, z⟩)
      · exact Or.inl q
  · rcases key j w hw with ⟨rfl, rfl⟩ | ⟨hji, hw, hn⟩
    · omega
    · exact h5 hg j w hw
theorem LR_st2 {ad : Key → Nat} {n i : Nat} {ls : List (Option V)} {als als' : Array Slot} {v : V} (h : LR ad true n ls als) (hi : i + 1 < n)
    (h' : lv_has als' n ((i, cv ad v) :: (asc ad ls).filter (fun q => !(q.1 == i) && (!(q.1 == i + 1) && !(q.1 + 1 == i && q.2.category == 2))))) : LR ad true n (st2 ls i v) als' := by
  obtain ⟨h1, h2, h3, h4, h5⟩ := h
  obtain ⟨a1, a2, a3⟩ := h'
  have hlen : (setL (kilL ls i) (i + 1) none).length = n := by rw [setL_len, kilL_len, h1]
  refine ⟨by unfold st2; rw [setL_len, hlen], a1, a2, fun j w hw => ?_, fun hg => by cases hg⟩
  unfold st2 at hw
  rw [getL_setL] at hw
  split at hw
  · next q =>
    obtain ⟨rfl, -⟩ := q
    cases hw
    exact a3 _ List.mem_cons_self
  · next q =>
    have hji : j ≠ i := fun z => q ⟨z, by rw [hlen]; omega⟩
    rw [getL_setL] at hw
    split at hw
    · cases hw
    · next q2 =>
      have hj2 : j ≠ i + 1 := fun z => q2 ⟨z, by rw [kilL_len, h1]; exact hi⟩
      obtain ⟨hw, hn⟩ := getL_kilL (ad := ad) hw
      refine a3 (j, cv ad w) (List.mem_cons_of_mem _ (List.mem_filter.mpr ⟨mem_asc.mpr ⟨w, hw, rfl⟩, ?_⟩))
      simp only [Bool.and_eq_true, Bool.not_eq_true', beq_eq_false_iff_ne, ne_eq, hji, hj2, not_false_eq_true, true_and, Bool.and_eq_false_iff]
      by_cases q : j + 1 = i
      · exact Or.inr (fun z => hn ⟨q, z⟩)
      · exact Or.inl q
theorem vls_st1 {g : Bool} {ls : List (Option V)} {i : Nat} {v : V} (h : vls ls) (hv : vok v) : vls (st1 g ls i v) := by
  intro j w hw
  unfold st1 at hw
  rw [getL_setL] at hw
  split at hw
  · cases hw; exact hv
  · cases g with
    | true => exact h j w (getL_kilL (ad := fun _ => 0) hw).1
    | false => exact h j w hw
theorem vls_st2 {ls : List (Option V)} {i : Nat} {v : V} (h : vls ls) (hv : vok v) : vls (st2 ls i v) := by
  intro j w hw
  unfold st2 at hw
  rw [getL_setL] at hw
  split at hw
  · cases hw; exact hv
  · rw [getL_setL] at hw
    split at hw
    · cases hw
    · exact h j w (getL_kilL (ad := fun _ => 0) hw).1
theorem cat_S (ad : Key → Nat) : ∀ st : List V, ((st.map (cv ad)).map fun v => v.category).sum = catS st := by
  intro st
  induction st with
  | nil => rfl
  | cons v st ih =>
    rw [List.map_cons, List.map_cons, List.sum_cons, ih]
    match v with
    | .inl a => rfl
    | .inr (.inl a) => rfl
    | .inr (.inr none) => rfl
    | .inr (.inr (some k)) => rfl
theorem popN_spec : ∀ (n : Nat) (st as rest : List V), popN n st = some (as, rest) → st = as.reverse ++ rest ∧ as.length = n := by
  intro n
  induction n with
  | zero => intro st as rest h; rw [popN] at h; cases h; exact ⟨rfl, rfl⟩
  | succ n ih =>
    intro st as rest h
    cases st with
    | nil => cases h
    | cons v st =>
      rw [popN] at h
      cases hq : popN n st with
      | none => rw [hq] at h; cases h
      | some q =>
        rw [hq] at h
        simp only [Option.some.injEq, Prod.mk.injEq] at h
        obtain ⟨rfl, rfl⟩ := h
        obtain ⟨e1, e2⟩ := ih st q.1 q.2 hq
        refine ⟨?_, by simp [e2]⟩
        rw [e1]; simp
theorem argS_len : ∀ as : List V, (lg_sl (as.map (cv fun _ => 0))).length = (argS as).length := by
  intro as
  induction as with
  | nil => rfl
  | cons v as ih =>
    match v with
    | .inl a => simp [lg_sl, argS, cv, Value.category] at ih ⊢; omega
    | .inr (.inl a) => simp [lg_sl, argS, cv, Value.category] at ih ⊢; omega
    | .inr (.inr none) => simp [lg_sl, argS, cv, Value.category] at ih ⊢; omega
    | .inr (.inr (some k)) => simp [lg_sl, argS, cv, Value.category] at ih ⊢; omega
theorem argS_len' (ad : Key → Nat) : ∀ as : List V, (lg_sl (as.map (cv ad))).length = (argS as).length := by
  intro as
  induction as with
  | nil => rfl
  | cons v as ih =>
    match v with
    | .inl a => simp [lg_sl, argS, cv, Value.category] at ih ⊢; omega
    | .inr (.inl a) => simp [lg_sl, argS, cv, Value.category] at ih ⊢; omega
    | .inr (.inr none) => simp [lg_sl, argS, cv, Value.category] at ih ⊢; omega
    | .inr (.inr (some k)) => simp [lg_sl, argS, cv, Value.category] at ih ⊢; omega
theorem argS_mem (ad : Key → Nat) : ∀ (as : List V) (i j : Nat) (v : V), nth (argS as) i = some (some v) → (j + i, cv ad v) ∈ lv_args j (as.map (cv ad)) ∧ v ∈ as := by
  intro as
  induction as with
  | nil => intro i j v h; simp [argS, nth] at h
  | cons w as ih =>
    intro i j v h
    match w, h with
    | .inl a, h =>
      cases i with
      | zero => simp [argS, nth] at h; subst h; exact ⟨List.mem_cons_self, List.mem_cons_self⟩
      | succ i => obtain ⟨q1, q2⟩ := ih i (j + 1) v (by simpa [argS, nth] using h); refine ⟨?_, List.mem_cons_of_mem _ q2⟩; have e : j + (i + 1) = j + 1 + i := by omega
                  rw [e]; exact List.mem_cons_of_mem _ q1
    | .inr (.inr none), h =>
      cases i with
      | zero => simp [argS, nth] at h; subst h; exact ⟨List.mem_cons_self, List.mem_cons_self⟩
      | succ i => obtain ⟨q1, q2⟩ := ih i (j + 1) v (by simpa [argS, nth] using h); refine ⟨?_, List.mem_cons_of_mem _ q2⟩; have e : j + (i + 1) = j + 1 + i := by omega
                  rw [e]; exact List.mem_cons_of_mem _ q1
    | .inr (.inr (some k)), h =>
      cases i with
      | zero => simp [argS, nth] at h; subst h; exact ⟨List.mem_cons_self, List.mem_cons_self⟩
      | succ i => obtain ⟨q1, q2⟩ := ih i (j + 1) v (by simpa [argS, nth] using h); refine ⟨?_, List.mem_cons_of_mem _ q2⟩; have e : j + (i + 1) = j + 1 + i := by omega
                  rw [e]; exact List.mem_cons_of_mem _ q1
    | .inr (.inl a), h =>
      match i, h with
      | 0, h => simp [argS, nth] at h; subst h; exact ⟨List.mem_cons_self, List.mem_cons_self⟩
      | 1, h => simp [argS, nth] at h
      | i + 2, h => obtain ⟨q1, q2⟩ := ih i (j + 2) v (by simpa [argS, nth] using h); refine ⟨?_, List.mem_cons_of_mem _ q2⟩; have e : j + (i + 2) = j + 2 + i := by omega
                    rw [e]; exact List.mem_cons_of_mem _ q1
theorem padL_len : ∀ (n : Nat) (l : List (Option V)), (padL n l).length = n := by
  intro n
  induction n with
  | zero => intro l; rfl
  | succ n ih => intro l; cases l <;> simp [padL, ih]
theorem padL_get : ∀ (n : Nat) (l : List (Option V)) (i : Nat) (v : V), getL (padL n l) i = some v → nth l i = some (some v) := by
  intro n
  induction n with
  | zero => intro l i v h; simp [padL, getL, nth] at h
  | succ n ih =>
    intro l i v h
    cases l with
    | nil =>
      cases i with
      | zero => simp [padL, getL, nth] at h
      | succ i =>
        have := ih [] i v (by simpa [padL, getL, nth] using h)
        simp [nth] at this
    | cons a l =>
      cases i with
      | zero =>
        cases a with
        | none => simp [padL, getL, nth] at h
        | some a => simp [padL, getL, nth] at h; simp [nth, h]
      | succ i => simpa [nth] using ih l i v (by simpa [padL, getL, nth] using h)
theorem LR_init {ad : Key → Nat} {g : Bool} {n : Nat} {as : List V} (hn : (argS as).length ≤ n) (hg : g = false → ∀ v ∈ as, (cv ad v).category ≠ 2) :
    LR ad g n (initL n as) (lg_sl (as.map (cv ad)) ++ List.replicate (n - (lg_sl (as.map (cv ad))).length) Slot.unset).toArray := by
  have h := lv_entry (as.map (cv ad)) (n := n) (by rw [argS_len']; exact hn)
  refine ⟨padL_len _ _, h.1, h.2.1, fun i v hv => ?_, fun hf i v hv => ?_⟩
  · have := (argS_mem ad as i 0 v (padL_get _ _ _ _ hv)).1
    rw [Nat.zero_add] at this
    exact h.2.2 _ this
  · exact hg hf v (argS_mem ad as i 0 v (padL_get _ _ _ _ hv)).2
theorem vls_init {n : Nat} {as : List V} (h : vst as) : vls (initL n as) := fun i v hv => h v (argS_mem (fun _ => 0) as i 0 v (padL_get _ _ _ _ hv)).2
/-! the list of cells -/
def nodupB : List Key → Bool
  | [] => true
  | a :: l => !(l.contains a) && nodupB l
theorem nodupB_inj : ∀ (l : List Key), nodupB l = true → ∀ (i j : Nat) (a : Key), l[i]? = some a → l[j]? = some a → i = j
  | [], _, i, j, a, h, _ => by simp at h
  | b :: l, hn, i, j, a, h1, h2 => by
    simp only [nodupB, Bool.and_eq_true, Bool.not_eq_true', List.contains_eq_mem, decide_eq_false_iff_not] at hn
    cases i with
    | zero =>
      cases j with
      | zero => rfl
      | succ j =>
        rw [List.getElem?_cons_zero] at h1
        rw [List.getElem?_cons_succ] at h2
        cases h1
        exact absurd (List.mem_of_getElem? h2) hn.1
    | succ i =>
      rw [List.getElem?_cons_succ] at h1
      cases j with
      | zero =>
        rw [List.getElem?_cons_zero] at h2
        cases h2
        exact absurd (List.mem_of_getElem? h1) hn.1
      | succ j =>
        rw [List.getElem?_cons_succ] at h2
        rw [nodupB_inj l hn.2 i j a h1 h2]
set_option maxRecDepth 20000 in
theorem AK_nodup : nodupB AK = true := by decide +kernel
theorem WS_at {dA : Nat → ClassId} {ad : Key → Nat} {M : Mem} {c : Nat} {k : Key} (h : AK[c]? = some k) : (WS dA ad M)[c]? = some (ad k, ent dA ad M k) := by
  rw [WS, List.getElem?_map, h]; rfl
theorem WS_set {dA : Nat → ClassId} {ad : Key → Nat} {M M' : Mem} {c : Nat} {k : Key} {x : va_E} (h : AK[c]? = some k) (hx : ent dA ad M' k = x) (ho : ∀ k', k' ≠ k → ent dA ad M' k' = ent dA ad M k') : (WS dA ad M).set c (ad k, x) = WS dA ad M' := by
  apply List.ext_getElem?
  intro n
  have hl : c < (WS dA ad M).length := by
    rw [WS, List.length_map]
    exact (List.getElem?_eq_some_iff.mp h).1
  by_cases hn : n = c
  · subst hn
    rw [List.getElem?_set_self hl, WS_at h, hx]
  · rw [List.getElem?_set_ne (Ne.symm hn), WS, WS, List.getElem?_map, List.getElem?_map]
    cases hk : AK[n]? with
    | none => rfl
    | some k' =>
      have hne : k' ≠ k := fun z => hn (nodupB_inj AK AK_nodup n c k (by rw [hk, z]) h)
      simp only [Option.map_some]
      rw [ho k' hne]
theorem fds_other {ad : Key → Nat} {M : Mem} {K j i s K' j' i' : Nat} {v : Int32} (h : (K', j', i') ≠ (K, j, i)) : fdsOf ad K' j' i' (wr M K j i s v) = fdsOf ad K' j' i' M := by
  unfold fdsOf
  refine List.map_congr_left fun q _ => ?_
  split
  · rfl
  · congr 1
    unfold wr
    rw [if_neg]
    rintro ⟨rfl, rfl, rfl, -⟩
    exact h rfl
theorem ent_other {dA : Nat → ClassId} {ad : Key → Nat} {M : Mem} {k k' : Key} {s : Nat} {v : Int32} (h : k' ≠ k) : ent dA ad (wr M k.1 k.2.1 k.2.2 s v) k' = ent dA ad M k' := by
  obtain ⟨K, j, i⟩ := k
  obtain ⟨K', j', i'⟩ := k'
  unfold ent
  simp only
  split
  · rw [fds_other h]
  · split
    · congr 3
      congr 1
      funext q
      unfold wr
      rw [if_neg]
      rintro ⟨rfl, rfl, rfl, -⟩
      exact h rfl
    · rfl
set_option maxRecDepth 20000 in
theorem AK_shp : ∀ k ∈ AK, ∀ s, s < 12 → ∀ k' ∈ shp k.1 s k.2.1, k' ∈ AK := by decide +kernel
set_option maxRecDepth 20000 in
theorem AK_ael : ∀ k ∈ AK, ∀ n, n < (rln k.1).getD 0 → ael k.1 k.2.1 n ∈ AK := by decide +kernel
set_option maxRecDepth 20000 in
theorem AK_k : ∀ k ∈ AK, k.1 < 22 := by decide +kernel
theorem clN_12 : ∀ K, clN K ≤ 12 := by
  intro K
  rcases Nat.lt_or_ge K 8 with h | h
  · exact (by decide +kernel : ∀ K, K < 8 → clN K ≤ 12) K h
  · unfold clN
    rw [nth_get, List.getElem?_eq_none (by simpa using h)]
    exact Nat.zero_le _
