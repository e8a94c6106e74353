/-! 43: what a run of orders keeps -/
section
variable {T : Int → Int} {L s m : Int} {S S' : Sl}
theorem OQ_ordX (h : SQ S S') : OQ (ordX T L s S) (ordX T L s S') := OQ_op h
theorem OQ_ord (h : SQ S S') : OQ (ordR T L s S) (ordR T L s S') := by
  unfold ordR
  refine OQ_if rfl (fun _ => OQ_e h rfl) fun _ => OQ_if rfl (fun _ => OQ_e h rfl) fun _ => OQ_if rfl (fun _ => OQ_e h rfl) fun _ => OQ_if rfl (fun _ => OQ_e h rfl) fun _ => OQ_if rfl (fun _ => OQ_e h rfl) fun _ => ?_
  have hx := OQ_ordX (T := T) (L := L) (s := s) h
  exact ⟨by show cif _ _ _ = cif _ _ _; rw [hx.1], hx.2⟩
theorem cif_Q {α : Type} {P : Prop} {a b : α} {Q : α → Prop} (ha : P → Q a) (hb : ¬ P → Q b) : Q (cif P a b) := by
  by_cases q : P
  · rw [cif_t q]; exact ha q
  · rw [cif_f q]; exact hb q
theorem io_ord (hI : Inv m S) (hm : m + 1 ≤ 62000) : Inv (m + 1) (ordR T L s S).2 := by
  have k : Inv (m + 1) S := Inv_up1 hI (by omega) hm
  unfold ordR
  exact cif_Q (Q := fun p : Int × Sl => Inv (m + 1) p.2) (fun _ => k) fun _ => cif_Q (Q := fun p : Int × Sl => Inv (m + 1) p.2) (fun _ => k) fun _ => cif_Q (Q := fun p : Int × Sl => Inv (m + 1) p.2) (fun _ => k) fun _ => cif_Q (Q := fun p : Int × Sl => Inv (m + 1) p.2) (fun _ => k) fun _ => cif_Q (Q := fun p : Int × Sl => Inv (m + 1) p.2) (fun _ => k) fun _ => io_op hI hm
theorem ordR_r (h : 0 ≤ s ∧ s ≤ L) : (ordR T L s S).1 = -1 ∨ 0 ≤ (ordR T L s S).1 ∧ (ordR T L s S).1 ≤ L := by
  have h1 := (nk_r (T := T) h).1
  have h2 := (nk_r (T := T) h1).1
  have h3 := (nk_r (T := T) h2).1
  have h4 := (ordQ_r (T := T) h).1
  unfold ordR
  have Q := fun p : Int × Sl => p.1 = -1 ∨ 0 ≤ p.1 ∧ p.1 ≤ L
  refine cif_Q (Q := fun p : Int × Sl => p.1 = -1 ∨ 0 ≤ p.1 ∧ p.1 ≤ L) (fun _ => Or.inr h) fun _ => cif_Q (Q := fun p : Int × Sl => p.1 = -1 ∨ 0 ≤ p.1 ∧ p.1 ≤ L) (fun _ => Or.inr h1) fun _ => cif_Q (Q := fun p : Int × Sl => p.1 = -1 ∨ 0 ≤ p.1 ∧ p.1 ≤ L) (fun _ => Or.inr h2) fun _ => cif_Q (Q := fun p : Int × Sl => p.1 = -1 ∨ 0 ≤ p.1 ∧ p.1 ≤ L) (fun _ => Or.inr h3) fun _ => cif_Q (Q := fun p : Int × Sl => p.1 = -1 ∨ 0 ≤ p.1 ∧ p.1 ≤ L) (fun _ => Or.inr h4) fun _ => ?_
  exact cif_Q (Q := fun p : Int => p = -1 ∨ 0 ≤ p ∧ p ≤ L) (fun _ => Or.inr h) (fun _ => Or.inl rfl)
theorem prgN_e {n : Nat} {c : Int} (h : L ≤ s) : prgN T L n s S c = (c, S) := by
  cases n with
  | zero => rfl
  | succ n => exact cif_f (by omega)
theorem prgN_s {n : Nat} {c : Int} (h : s < L) (hn : L - s ≤ (n : Int)) (e : (ordR T L s S).1 = -1) : prgN T L n s S c = prgN T L (n - 1) (nk T L (ordQ T L s)) (ordR T L s S).2 (c + 1) := by
  cases n with
  | zero => omega
  | succ n => exact (cif_t h).trans (cif_t e)
theorem prgN_f {n : Nat} {c : Int} (h : s < L) (hn : L - s ≤ (n : Int)) (e : ¬ (ordR T L s S).1 = -1) : prgN T L n s S c = (-1000 - (ordR T L s S).1, S) := by
  cases n with
  | zero => omega
  | succ n => exact (cif_t h).trans (cif_f e)
end
/-- a run between two orders -/
def RN (T : Int → Int) (L m : Int) (P : Int × Sl) (c : Int) (M : NM) : Prop := ∃ (s : Int) (n : Nat) (S : Sl), (0 ≤ s ∧ s ≤ L) ∧ c ≤ s ∧ L - s ≤ (n : Int) ∧ M 4 0 0 3 = s ∧ M 4 0 0 4 = tkE T L s ∧ P = prgN T L n s S c ∧ SQ S (sl M 0) ∧ Inv (m + c) (sl M 0)
