/-! 38: what an order keeps -/
section
variable {a a' : Int → Int} {S : Sl}
theorem sh_hold {b n w : Int} (h : SHo a S) (e : a' 4 = a 4) : SHo a' (opHold S b n w).2 := by
  unfold opHold
  by_cases p : ¬ ((0 ≤ b ∧ b < S 1 0 3) ∧ (1 ≤ n ∧ n ≤ 10) ∧ (1 ≤ w ∧ w ≤ 999))
  · rw [cif_t p]; exact SHo_eq h e rfl (fun _ _ _ => Iff.rfl)
  · rw [cif_f p]
    by_cases q : pl S b n = -9
    · rw [cif_t q]; exact SHo_eq h e rfl (fun _ _ _ => Iff.rfl)
    · rw [cif_f q]
      by_cases r : S 5 0 3 = 20
      · rw [cif_t r]; exact SHo_eq h e rfl (fun _ _ _ => Iff.rfl)
      · rw [cif_f r]; exact SHo_eq h e rfl (fun _ _ _ => Iff.rfl)
theorem sh_drop {x : Int} (h : SHo a S) (e : a' 4 = a 4) : SHo a' (opDrop S x).2 := by
  unfold opDrop
  by_cases p : ¬ (0 ≤ x ∧ x < S 5 0 3)
  · rw [cif_t p]; exact SHo_eq h e rfl (fun _ _ _ => Iff.rfl)
  · rw [cif_f p]
    by_cases q : S 3 x 0 ≠ 0
    · rw [cif_t q]; exact SHo_eq h e rfl (fun _ _ _ => Iff.rfl)
    · rw [cif_f q]; exact SHo_eq h e rfl (fun _ _ _ => Iff.rfl)
theorem sh_buy {x : Int} (hT : 0 ≤ S 5 0 4) (h : SHo a S) (e : a' 4 = a 4) : SHo a' (opBuy S x).2 := by
  unfold opBuy
  by_cases p : ¬ (0 ≤ x ∧ x < S 5 0 3)
  · rw [cif_t p]; exact SHo_eq h e rfl (fun _ _ _ => Iff.rfl)
  · rw [cif_f p]
    by_cases q : S 3 x 0 ≠ 0
    · rw [cif_t q]; exact SHo_eq h e rfl (fun _ _ _ => Iff.rfl)
    · rw [cif_f q]
      show a' 4 = sm (fun t => bi (buyS S x 6 t 0 = 3)) (S 5 0 4 + 1).toNat
      have b6 : ∀ t, buyS S x 6 t 0 = st (st (st (st (st S 6 (S 5 0 4) 0 (cif (S 5 0 6 = 0) 0 2)) 6 (S 5 0 4) 1 (S 3 x 1)) 6 (S 5 0 4) 2 (S 3 x 2)) 6 (S 5 0 4) 3 (S 3 x 2 * S 0 (S 3 x 1 / 100) 2)) 6 (S 5 0 4) 4 0 6 t 0 := fun _ => rfl
      have n0 : buyS S x 6 (S 5 0 4) 0 = cif (S 5 0 6 = 0) 0 2 := by rw [b6, st_nes (by decide), st_nes (by decide), st_nes (by decide), st_nes (by decide), st_eq]
      rw [sm_step hT, bi_f (by
        rw [n0]
        by_cases z : S 5 0 6 = 0
        · rw [cif_t z]; decide
        · rw [cif_f z]; decide), Int.add_zero, e, h]
      exact sm_congr (fun t t0 t1 => by rw [b6, st_nei (by omega), st_nei (by omega), st_nei (by omega), st_nei (by omega), st_nei (by omega)])
theorem sh_back {x : Int} (h : SHo a S) (e : a' 4 = a 4) : SHo a' (opBack S x).2 := by
  unfold opBack
  by_cases p : ¬ (0 ≤ x ∧ x < S 5 0 4)
  · rw [cif_t p]; exact SHo_eq h e rfl (fun _ _ _ => Iff.rfl)
  · rw [cif_f p]
    by_cases q : S 6 x 0 ≠ 0
    · rw [cif_t q]; exact SHo_eq h e rfl (fun _ _ _ => Iff.rfl)
    · rw [cif_f q]
      refine SHo_eq h e rfl (fun t _ _ => ?_)
      show st S 6 x 0 1 6 t 0 = 3 ↔ S 6 t 0 = 3
      by_cases z : t = x
      · rw [z, st_eq]; omega
      · rw [st_nei z]
theorem sh_in {x : Int} (h : SHo a S) (e : a' 4 = a 4) : SHo a' (opIn S x).2 := by
  unfold opIn
  by_cases p : ¬ (0 ≤ x ∧ x < S 5 0 4)
  · rw [cif_t p]; exact SHo_eq h e rfl (fun _ _ _ => Iff.rfl)
  · rw [cif_f p]
    by_cases q : S 6 x 0 ≠ 0
    · rw [cif_t q]; exact SHo_eq h e rfl (fun _ _ _ => Iff.rfl)
    · rw [cif_f q]
      refine SHo_eq h e rfl (fun t _ _ => ?_)
      show st S 6 x 0 2 6 t 0 = 3 ↔ S 6 t 0 = 3
      by_cases z : t = x
      · rw [z, st_eq]; omega
      · rw [st_nei z]
theorem sh_pass {x : Int} (h : SHo a S) (e : a' 4 = a 4) : SHo a' (opPass S x).2 := by
  unfold opPass
  by_cases p : ¬ (1 ≤ x ∧ x ≤ 999)
  · rw [cif_t p]; exact SHo_eq h e rfl (fun _ _ _ => Iff.rfl)
  · rw [cif_f p]
    by_cases q : 9999 < S 5 0 5 + x
    · rw [cif_t q]; exact SHo_eq h e rfl (fun _ _ _ => Iff.rfl)
    · rw [cif_f q]
      have o6 : ∀ t s, exN (st S 5 0 5 (S 5 0 5 + x)) (S 5 0 5 + x) (S 5 0 3).toNat 6 t s = S 6 t s := fun t s => exN_o _ _ _ _ (by decide) (fun z => by cases z)
      exact SHo_eq h e (exN_o _ _ _ _ (by decide) (fun z => by cases z)) (fun t _ _ => by
        show exN (st S 5 0 5 (S 5 0 5 + x)) (S 5 0 5 + x) (S 5 0 3).toNat 6 t 0 = 3 ↔ _
        rw [o6])
theorem sh_up {x : Int} (h : SHo a S) (e : a' 4 = a 4) : SHo a' (opUp S x).2 := by
  unfold opUp
  by_cases p : ¬ (0 ≤ x ∧ x < S 1 0 4)
  · rw [cif_t p]; exact SHo_eq h e rfl (fun _ _ _ => Iff.rfl)
  · rw [cif_f p]
    by_cases q : upP S x ∨ ∃ c : Int, 0 ≤ c ∧ c < 600 ∧ andI (S 14 0 c) (shlI 1 x) ≠ 0 ∧ S 13 0 c ≠ 0
    · rw [cif_t q]; exact SHo_eq h e rfl (fun _ _ _ => Iff.rfl)
    · rw [cif_f q]; exact SHo_eq h e rfl (fun _ _ _ => Iff.rfl)
theorem chn_6 : ∀ (k : Nat) (S : Sl) (b t : Int), (∀ y, (chn S b t k).2 6 y 0 = S 6 y 0) ∧ (chn S b t k).2 5 0 4 = S 5 0 4 := by
  intro k
  induction k with
  | zero => intro S b t; exact ⟨fun _ => rfl, rfl⟩
  | succ k ih =>
    intro S b t
    rw [chn]
    by_cases h : t = -9
    · rw [cif_t h]; exact ⟨fun _ => rfl, rfl⟩
    · rw [cif_f h]
      obtain ⟨p, q⟩ := ih (mvS S t b) (S 6 t 1 / 100) (nm (mvS S t b) (S 6 t 1 / 100))
      exact ⟨fun y => (p y).trans ((st_nes (by decide)).trans (st_nes (by decide))), q⟩
theorem sh_chain {x : Int} (h : SHo a S) (e : a' 4 = a 4) : SHo a' (opChain S x).2 := by
  unfold opChain
  by_cases p : S 6 x 0 ≠ 0
  · rw [cif_t p]; exact SHo_eq h e rfl (fun _ _ _ => Iff.rfl)
  · rw [cif_f p]
    by_cases q : upF S (S 6 x 1 / 100) (S 6 x 2) (S 1 0 3).toNat = -9
    · rw [cif_t q]; exact SHo_eq h e rfl (fun _ _ _ => Iff.rfl)
    · rw [cif_f q]
      obtain ⟨u, v⟩ := chn_6 20 S (upF S (S 6 x 1 / 100) (S 6 x 2) (S 1 0 3).toNat) x
      exact SHo_eq h e v (fun t _ _ => by rw [u])
end
theorem chn_nn : ∀ (k : Nat) (S : Sl) (b t : Int), 0 ≤ (chn S b t k).1 := by
  intro k
  induction k with
  | zero => intro S b t; exact Int.le_refl _
  | succ k ih =>
    intro S b t
    rw [chn]
    by_cases h : t = -9
    · rw [cif_t h]; exact Int.le_refl _
    · rw [cif_f h]
      have := ih (mvS S t b) (S 6 t 1 / 100) (nm (mvS S t b) (S 6 t 1 / 100))
      show 0 ≤ _ + 1
      omega
theorem opChain_pos {S : Sl} {t : Int} (h0 : S 6 t 0 = 0) (hu : upF S (S 6 t 1 / 100) (S 6 t 2) (S 1 0 3).toNat ≠ -9) (ht : t ≠ -9) : 0 < (opChain S t).1 := by
  unfold opChain
  rw [cif_f (fun z => z h0), cif_f hu]
  show 0 < (chn S _ t (19 + 1)).1
  rw [chn, cif_f ht]
  have := chn_nn 19 (mvS S t (upF S (S 6 t 1 / 100) (S 6 t 2) (S 1 0 3).toNat)) (S 6 t 1 / 100) (nm (mvS S t (upF S (S 6 t 1 / 100) (S 6 t 2) (S 1 0 3).toNat)) (S 6 t 1 / 100))
  show 0 < _ + 1
  omega
theorem noN_in {S : Sl} : ∀ (n : Nat) (t : Int), 0 ≤ t → t < n → noN S n 6 t 0 = cif (S 6 t 0 = 0) 3 (S 6 t 0) := by
  intro n
  induction n with
  | zero => intro t a b; omega
  | succ n ih =>
    intro t a b
    rw [noN]
    by_cases z : t = n
    · subst z
      by_cases q : S 6 n 0 = 0
      · rw [cif_t q, cif_t q]; exact st_eq
      · rw [cif_f q, cif_f q]; exact noN_o n 6 n 0 (by decide) (fun _ => Int.le_refl _)
    · have := ih t a (by omega)
      by_cases q : S 6 n 0 = 0
      · rw [cif_t q]; exact (st_nei z).trans this
      · rw [cif_f q]; exact this
theorem sh_close {a a' : Int → Int} {S : Sl} (hT : 0 ≤ S 5 0 4) (h : SHo a S) (e : a' 4 = a 4 + sm (fun t => bi (S 6 t 0 = 0)) (S 5 0 4).toNat) : SHo a' (noN (st S 5 0 6 1) (S 5 0 4).toNat) := by
  have o4 : noN (st S 5 0 6 1) (S 5 0 4).toNat 5 0 4 = S 5 0 4 := noN_o _ _ _ _ (by decide) (fun z => by cases z)
  unfold SHo
  rw [o4, e, h, ← sm_add]
  refine sm_congr (fun t t0 t1 => ?_)
  rw [noN_in _ t t0 t1]
  show bi (S 6 t 0 = 3) + bi (S 6 t 0 = 0) = bi (cif (S 6 t 0 = 0) 3 (S 6 t 0) = 3)
  by_cases q : S 6 t 0 = 0
  · rw [cif_t q, bi_t q, bi_f (by omega), bi_t rfl]; rfl
  · rw [cif_f q, bi_f q, Int.add_zero]
section
variable {m : Int} {S : Sl}
theorem io_hold (hI : Inv m S) (hm : m + 1 ≤ 62000) {b n w : Int} : Inv (m + 1) (opHold S b n w).2 := by
  unfold opHold
  by_cases p : ¬ ((0 ≤ b ∧ b < S 1 0 3) ∧ (1 ≤ n ∧ n ≤ 10) ∧ (1 ≤ w ∧ w ≤ 999))
  · rw [cif_t p]; exact Inv_up1 hI (by omega) hm
  · rw [cif_f p]
    have p2 := Classical.not_not.mp p
    by_cases q : pl S b n = -9
    · rw [cif_t q]; exact Inv_up1 hI (by omega) hm
    · rw [cif_f q]
      by_cases r : S 5 0 3 = 20
      · rw [cif_t r]; exact Inv_up1 hI (by omega) hm
      · rw [cif_f r]
        obtain ⟨a1, _, a3⟩ := pl_HO hI p2.1 p2.2.1 q
        exact Inv_hold hI hm p2.2.2 a1 a3 (by have := hI.1.2.2.2.2.1; omega)
theorem io_buy (hI : Inv m S) (hm : m + 1 ≤ 62000) {x : Int} : Inv (m + 1) (opBuy S x).2 := by
  unfold opBuy
  by_cases p : ¬ (0 ≤ x ∧ x < S 5 0 3)
  · rw [cif_t p]; exact Inv_up1 hI (by omega) hm
  · rw [cif_f p]
    by_cases q : S 3 x 0 ≠ 0
    · rw [cif_t q]; exact Inv_up1 hI (by omega) hm
    · rw [cif_f q]; exact Inv_buy hI hm (Classical.not_not.mp p) (Classical.not_not.mp q)
theorem io_drop (hI : Inv m S) (hm : m + 1 ≤ 62000) {x : Int} : Inv (m + 1) (opDrop S x).2 := by
  unfold opDrop
  by_cases p : ¬ (0 ≤ x ∧ x < S 5 0 3)
  · rw [cif_t p]; exact Inv_up1 hI (by omega) hm
  · rw [cif_f p]
    by_cases q : S 3 x 0 ≠ 0
    · rw [cif_t q]; exact Inv_up1 hI (by omega) hm
    · rw [cif_f q]; exact Inv_up1 (Inv_endH hI (Classical.not_not.mp p) (Classical.not_not.mp q) (Or.inl rfl)) (by omega) hm
theorem io_back (hI : Inv m S) (hm : m + 1 ≤ 62000) {x : Int} : Inv (m + 1) (opBack S x).2 := by
  unfold opBack
  by_cases p : ¬ (0 ≤ x ∧ x < S 5 0 4)
  · rw [cif_t p]; exact Inv_up1 hI (by omega) hm
  · rw [cif_f p]
    have p2 := Classical.not_not.mp p
    by_cases q : S 6 x 0 ≠ 0
    · rw [cif_t q]; exact Inv_up1 hI (by omega) hm
    · rw [cif_f q]
      have ht := (hI.2.2.2.2.1 x p2.1 p2.2).2.2.1
      exact Inv_endT hI (by omega) hm p2 (Classical.not_not.mp q) (Or.inl rfl) (Or.inl rfl) (by omega)
theorem io_in (hI : Inv m S) (hm : m + 1 ≤ 62000) {x : Int} : Inv (m + 1) (opIn S x).2 := by
  unfold opIn
  by_cases p : ¬ (0 ≤ x ∧ x < S 5 0 4)
  · rw [cif_t p]; exact Inv_up1 hI (by omega) hm
  · rw [cif_f p]
    by_cases q : S 6 x 0 ≠ 0
    · rw [cif_t q]; exact Inv_up1 hI (by omega) hm
    · rw [cif_f q]; exact Inv_in hI hm (Classical.not_not.mp p) (Classical.not_not.mp q)
theorem io_up (hI : Inv m S) (hm : m + 1 ≤ 62000) {x : Int} : Inv (m + 1) (opUp S x).2 := by
  unfold opUp
  by_cases p : ¬ (0 ≤ x ∧ x < S 1 0 4)
  · rw [cif_t p]; exact Inv_up1 hI (by omega) hm
  · rw [cif_f p]
    by_cases q : upP S x ∨ ∃ c : Int, 0 ≤ c ∧ c < 600 ∧ andI (S 14 0 c) (shlI 1 x) ≠ 0 ∧ S 13 0 c ≠ 0
    · rw [cif_t q]; exact Inv_up1 hI (by omega) hm
    · rw [cif_f q]; exact Inv_up1 (Inv_up hI (Classical.not_not.mp p) (fun z => q (Or.inr z))) (by omega) hm
theorem io_pass (hI : Inv m S) (hm : m + 1 ≤ 62000) {x : Int} : Inv (m + 1) (opPass S x).2 := by
  unfold opPass
  by_cases p : ¬ (1 ≤ x ∧ x ≤ 999)
  · rw [cif_t p]; exact Inv_up1 hI (by omega) hm
  · rw [cif_f p]
    by_cases q : 9999 < S 5 0 5 + x
    · rw [cif_t q]; exact Inv_up1 hI (by omega) hm
    · rw [cif_f q]
      have h5 := hI.1.2.2.2.2
      have hS := Inv_sc hI (s := 5) (v := S 5 0 5 + x) (Or.inl ⟨rfl, by omega, by omega⟩)
      exact Inv_up1 (Inv_ex hS (S 5 0 5 + x) (S 5 0 3).toNat (by show ((S 5 0 3).toNat : Int) ≤ S 5 0 3; omega)) (by omega) hm
theorem io_down (hI : Inv m S) (hm : m + 1 ≤ 62000) {x : Int} : Inv (m + 1) (opDown S x).2 := by
  unfold opDown
  by_cases p : ¬ (0 ≤ x ∧ x < S 1 0 4)
  · rw [cif_t p]; exact Inv_up1 hI (by omega) hm
  · rw [cif_f p]
    by_cases q : ¬ upP S x
    · rw [cif_t q]; exact Inv_up1 hI (by omega) hm
    · rw [cif_f q]; exact Inv_up1 (Inv_dn hI (Classical.not_not.mp p)) (by omega) hm
theorem io_close (hI : Inv m S) (hm : m + 1 ≤ 62000) : Inv (m + 1) (opClose S).2 := by
  unfold opClose
  by_cases p : S 5 0 6 ≠ 0
  · rw [cif_t p]; exact Inv_up1 hI (by omega) hm
  · rw [cif_f p]
    have h5 := hI.1.2.2.2.2.2
    have hS := Inv_sc hI (s := 6) (v := 1) (Or.inr ⟨rfl, Or.inr rfl⟩)
    exact Inv_up1 (Inv_no hS (S 5 0 4).toNat (by show ((S 5 0 4).toNat : Int) ≤ S 5 0 4; omega)) (by omega) hm
theorem io_piece (hI : Inv m S) (hm : m + 1 ≤ 62000) {s f t : Int} : Inv (m + 1) (opPiece S s f t).2 := by
  unfold opPiece
  by_cases p : ¬ ((0 ≤ s ∧ s < S 1 0 4) ∧ isPc S f t)
  · rw [cif_t p]; exact Inv_up1 hI (by omega) hm
  · rw [cif_f p]
    have p2 := Classical.not_not.mp p
    by_cases q : upP S s
    · rw [cif_t q]; exact Inv_up1 hI (by omega) hm
    · rw [cif_f q]; exact Inv_up1 (Inv_piece hI p2.1 p2.2 q) (by omega) hm
theorem io_block (hI : Inv m S) (hm : m + 1 ≤ 62000) {x y z : Int} : Inv (m + 1) (opBlock S x y z).2 := by
  unfold opBlock
  by_cases p : ¬ ((1 ≤ x ∧ x ≤ 6) ∧ (1 ≤ y ∧ y ≤ 10) ∧ (1 ≤ z ∧ z ≤ 500))
  · rw [cif_t p]; exact Inv_up1 hI (by omega) hm
  · rw [cif_f p]
    have p2 := Classical.not_not.mp p
    by_cases q : S 1 0 3 = 6
    · rw [cif_t q]; exact Inv_up1 hI (by omega) hm
    · rw [cif_f q]; exact Inv_up1 (Inv_block hI p2.1 p2.2.1 p2.2.2 (by have := hI.1.2.1; omega)) (by omega) hm
theorem io_stage (hI : Inv m S) (hm : m + 1 ≤ 62000) : Inv (m + 1) (opStage S).2 := by
  unfold opStage
  by_cases q : S 1 0 4 = 4
  · rw [cif_t q]; exact Inv_up1 hI (by omega) hm
  · rw [cif_f q]; exact Inv_up1 (Inv_stage hI (by have := hI.1.2.2.1; omega)) (by omega) hm
end
theorem SE_cell {S S2 : Sl} (e : ∀ K i s, stK K → S2 K i s = S K i s) : SE S S2 := SE_cg SE_rf e
theorem io_chn : ∀ (k : Nat) {m : Int} {S : Sl} {b t : Int}, Inv m S → m + k ≤ 62000 → (t = -9 ∨ Mv S b t) → Inv (m + k) (chn S b t k).2 := by
  intro k
  induction k with
  | zero =>
    intro m S b t hI hm hM
    exact Inv_up1 hI (by omega) hm
  | succ k ih =>
    intro m S b t hI hm hM
    rw [chn]
    by_cases z : t = -9
    · rw [cif_t z]; exact Inv_up1 hI (by omega) hm
    · rw [cif_f z]
      have hMv := hM.resolve_left z
      have hO := HO_t hI hMv.1
      have hf := hO.1
      have hf2 := hO.2.2.2.1
      have hI2 := Inv_move hI (by omega) hMv
      have hb : 0 ≤ S 6 t 1 / 100 ∧ S 6 t 1 / 100 < mvS S t b 1 0 3 := ⟨by omega, hf2⟩
      have h3 := ih hI2 (by omega) (nm_Mv (by have := hI2.1.2.2.2.2.2.1; omega) hb)
      exact Inv_up1 h3 (by omega) hm
theorem io_upg {m : Int} {S : Sl} (hI : Inv m S) (hm : m + 20 ≤ 62000) {x : Int} : Inv (m + 20) (opUpg S x).2 := by
  have h0 : Inv (m + 20) S := Inv_up1 hI (by omega) hm
  unfold opUpg
  by_cases p : ¬ (0 ≤ x ∧ x < S 5 0 4)
  · rw [cif_t p]; exact h0
  · rw [cif_f p]
    have hc : Inv (m + 20) (opChain S x).2 := by
      unfold opChain
      by_cases z : S 6 x 0 ≠ 0
      · rw [cif_t z]; exact h0
      · rw [cif_f z]
        by_cases y : upF S (S 6 x 1 / 100) (S 6 x 2) (S 1 0 3).toNat = -9
        · rw [cif_t y]; exact h0
        · rw [cif_f y]
          exact io_chn 20 hI hm (Or.inr ((upF_Mv hI (Classical.not_not.mp p) (Classical.not_not.mp z)).resolve_left y))
    by_cases q : (opChain S x).1 = 0
    · rw [cif_t q]; exact hc
    · rw [cif_f q]; exact hc
