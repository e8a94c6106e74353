/-! 41: an order speaks of the stadium's own cells only -/
def SQ (S S' : Sl) : Prop := ∀ K, stK K → S' K = S K
section
variable {S S' : Sl}
theorem SQ_rf : SQ S S := fun _ _ => rfl
theorem SQ_tr {S'' : Sl} (h : SQ S S') (k : SQ S' S'') : SQ S S'' := fun K q => (k K q).trans (h K q)
theorem SQ_SE (h : SQ S S') : SE S S' := SE_cg SE_rf (fun K i s q => by rw [h K q])
theorem SQ_st (h : SQ S S') {K : Nat} {i s v : Int} : SQ (st S K i s v) (st S' K i s v) := fun K' q => by
  funext i' s'
  show (if K' = K ∧ i' = i ∧ s' = s then v else S' K' i' s') = if K' = K ∧ i' = i ∧ s' = s then v else S K' i' s'
  rw [h K' q]
theorem SQ_bec (h : SQ S S') {f n w : Int} : SQ (bec S f n w) (bec S' f n w) := fun K' q => by
  funext i' s'
  show (if K' = 13 ∧ i' = 0 ∧ f ≤ s' ∧ s' < f + n then w else S' K' i' s') = if K' = 13 ∧ i' = 0 ∧ f ≤ s' ∧ s' < f + n then w else S K' i' s'
  rw [h K' q]
theorem SQ_0 (h : SQ S S') : S' 0 = S 0 := h 0 stK_0
theorem SQ_1 (h : SQ S S') : S' 1 = S 1 := h 1 stK_1
theorem SQ_3 (h : SQ S S') : S' 3 = S 3 := h 3 stK_3
theorem SQ_5 (h : SQ S S') : S' 5 = S 5 := h 5 stK_5
theorem SQ_6 (h : SQ S S') : S' 6 = S 6 := h 6 stK_6
theorem SQ_13 (h : SQ S S') : S' 13 = S 13 := h 13 (by unfold stK; omega)
theorem SQ_14 (h : SQ S S') : S' 14 = S 14 := h 14 stK_14
theorem SQ_pl (h : SQ S S') (b n : Int) : pl S' b n = pl S b n := by
  have e0 := SQ_0 h
  have e1 := SQ_1 h
  have e13 := SQ_13 h
  have e14 := SQ_14 h
  have ho : ∀ row c, opn S' row c = opn S row c := fun row c => by simp only [opn, isCh, kl, e0, e1, e13, e14]
  have ha : ∀ row c, are S' row c n = are S row c n := fun row c => by simp only [are, ho]
  have hl : ∀ row c, la S' row c n = la S row c n := fun row c => by simp only [la, ho]
  have hC : ∀ (k : Nat) (row : Int) (p : Int × Int), plC S' row n p k = plC S row n p k := by
    intro k
    induction k with
    | zero => intro _ _; rfl
    | succ k ih => intro row p; simp only [plC, ha, hl, ih]
  have hR : ∀ (k : Nat) (i0 : Int), plR S' b n i0 k = plR S b n i0 k := by
    intro k
    induction k with
    | zero => intro _; rfl
    | succ k ih => intro i0; simp only [plR, hC, ih, e0]
  simp only [pl, hR, e0]
def OQ (p p' : Int × Sl) : Prop := p'.1 = p.1 ∧ SQ p.2 p'.2
theorem OQ_if {P P' : Prop} {a a' b b' : Int × Sl} (e : P' = P) (h : P → OQ a a') (k : ¬ P → OQ b b') : OQ (cif P a b) (cif P' a' b') := by
  subst e
  by_cases q : P'
  · rw [cif_t q, cif_t q]; exact h q
  · rw [cif_f q, cif_f q]; exact k q
theorem OQ_e (h : SQ S S') {v v' : Int} (e : v' = v) : OQ (v, S) (v', S') := ⟨e, h⟩
theorem OQ_hold (h : SQ S S') {b n w : Int} : OQ (opHold S b n w) (opHold S' b n w) := by
  unfold opHold
  refine OQ_if (by rw [SQ_1 h]) (fun _ => OQ_e h rfl) (fun _ => ?_)
  refine OQ_if (by rw [SQ_pl h]) (fun _ => OQ_e h rfl) (fun _ => ?_)
  refine OQ_if (by rw [SQ_5 h]) (fun _ => OQ_e h rfl) (fun _ => OQ_e ?_ (by rw [SQ_5 h]))
  rw [SQ_pl h]; unfold holdS; rw [SQ_5 h]
  exact SQ_st (SQ_bec (SQ_st (SQ_st (SQ_st (SQ_st (SQ_st h))))))
theorem OQ_buy (h : SQ S S') {x : Int} : OQ (opBuy S x) (opBuy S' x) := by
  unfold opBuy
  refine OQ_if (by rw [SQ_5 h]) (fun _ => OQ_e h rfl) (fun _ => ?_)
  refine OQ_if (by rw [SQ_3 h]) (fun _ => OQ_e h rfl) (fun _ => OQ_e ?_ (by rw [SQ_5 h]))
  unfold buyS; rw [SQ_5 h, SQ_3 h, SQ_0 h]
  exact SQ_st (SQ_st (SQ_st (SQ_bec (SQ_st (SQ_st (SQ_st (SQ_st (SQ_st (SQ_st h)))))))))
theorem OQ_drop (h : SQ S S') {x : Int} : OQ (opDrop S x) (opDrop S' x) := by
  unfold opDrop
  refine OQ_if (by rw [SQ_5 h]) (fun _ => OQ_e h rfl) (fun _ => ?_)
  refine OQ_if (by rw [SQ_3 h]) (fun _ => OQ_e h rfl) (fun _ => OQ_e ?_ (by rw [SQ_3 h]))
  rw [SQ_3 h]; exact SQ_bec (SQ_st h)
theorem OQ_back (h : SQ S S') {x : Int} : OQ (opBack S x) (opBack S' x) := by
  unfold opBack
  refine OQ_if (by rw [SQ_5 h]) (fun _ => OQ_e h rfl) (fun _ => ?_)
  refine OQ_if (by rw [SQ_6 h]) (fun _ => OQ_e h rfl) (fun _ => OQ_e ?_ (by rw [SQ_6 h]))
  rw [SQ_6 h, SQ_5 h]; exact SQ_bec (SQ_st (SQ_st h))
theorem SQ_in (h : SQ S S') {x : Int} : SQ (inS S x) (inS S' x) := by
  unfold inS; rw [SQ_6 h]; exact SQ_bec (SQ_st h)
theorem OQ_in (h : SQ S S') {x : Int} : OQ (opIn S x) (opIn S' x) := by
  unfold opIn
  refine OQ_if (by rw [SQ_5 h]) (fun _ => OQ_e h rfl) (fun _ => ?_)
  refine OQ_if (by rw [SQ_6 h]) (fun _ => OQ_e h rfl) (fun _ => OQ_e (SQ_in h) ?_)
  simp only [ctA, ct, SQ_13 (SQ_in (x := x) h), isCh, SQ_0 (SQ_in (x := x) h), SQ_1 (SQ_in (x := x) h), SQ_0 h, SQ_1 h]
theorem SQ_up (h : SQ S S') {x : Int} : SQ (upS S x) (upS S' x) := by
  unfold upS; rw [SQ_1 h]; exact SQ_st h
theorem OQ_up (h : SQ S S') {x : Int} : OQ (opUp S x) (opUp S' x) := by
  unfold opUp
  refine OQ_if (by rw [SQ_1 h]) (fun _ => OQ_e h rfl) (fun _ => ?_)
  refine OQ_if (by unfold upP; rw [SQ_1 h, SQ_13 h, SQ_14 h]) (fun _ => OQ_e h rfl) (fun _ => OQ_e (SQ_up h) ?_)
  rw [SQ_14 h, SQ_1 (SQ_up h)]
theorem SQ_ex (h : SQ S S') {v : Int} : ∀ n : Nat, SQ (exN S v n) (exN S' v n) := by
  intro n
  induction n with
  | zero => exact h
  | succ n ih =>
    unfold exN
    rw [SQ_3 h]
    by_cases q : S 3 n 0 = 0 ∧ S 3 n 3 ≤ v
    · rw [cif_t q, cif_t q]; exact SQ_bec (SQ_st ih)
    · rw [cif_f q, cif_f q]; exact ih
theorem OQ_pass (h : SQ S S') {x : Int} : OQ (opPass S x) (opPass S' x) := by
  unfold opPass
  refine OQ_if rfl (fun _ => OQ_e h rfl) (fun _ => ?_)
  refine OQ_if (by rw [SQ_5 h]) (fun _ => OQ_e h rfl) (fun _ => OQ_e ?_ (by rw [SQ_3 h, SQ_5 h]))
  rw [SQ_5 h]; exact SQ_ex (SQ_st h) _
theorem OQ_op (h : SQ S S') {o a b c : Int} : OQ (opO o S a b c) (opO o S' a b c) := by
  unfold opO
  exact OQ_if rfl (fun _ => OQ_hold h) fun _ => OQ_if rfl (fun _ => OQ_buy h) fun _ => OQ_if rfl (fun _ => OQ_drop h) fun _ => OQ_if rfl (fun _ => OQ_back h) fun _ => OQ_if rfl (fun _ => OQ_in h) fun _ => OQ_if rfl (fun _ => OQ_up h) fun _ => OQ_pass h
end
