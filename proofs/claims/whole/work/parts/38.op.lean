/-! 38: what an order keeps -/
section
variable {m : Int} {S : Sl}
theorem io_hold (hI : Inv m S) (hm : m + 1 ≤ 62000) {b n w : Int} : Inv (m + 1) (opHold S b n w).2 := by
  unfold opHold
  by_cases p : ¬ ((0 ≤ b ∧ b < S 1 0 3) ∧ (1 ≤ n ∧ n ≤ 10) ∧ (1 ≤ w ∧ w ≤ 999))
  · rw [cif_t p]; exact Inv_up1 hI (by omega) hm
  · rw [cif_f p]
    have p2 := Classical.not_not.mp p
    by_cases q : pl S b n = -9
    · rw [cif_t q]; exact Inv_up1 hI (by omega) hm
    · rw [cif_f q]
      by_cases r : S 5 0 3 = 20
      · rw [cif_t r]; exact Inv_up1 hI (by omega) hm
      · rw [cif_f r]
        obtain ⟨a1, _, a3⟩ := pl_HO hI p2.1 p2.2.1 q
        exact Inv_hold hI hm p2.2.2 a1 a3 (by have := hI.1.2.2.2.2.1; omega)
theorem io_buy (hI : Inv m S) (hm : m + 1 ≤ 62000) {x : Int} : Inv (m + 1) (opBuy S x).2 := by
  unfold opBuy
  by_cases p : ¬ (0 ≤ x ∧ x < S 5 0 3)
  · rw [cif_t p]; exact Inv_up1 hI (by omega) hm
  · rw [cif_f p]
    by_cases q : S 3 x 0 ≠ 0
    · rw [cif_t q]; exact Inv_up1 hI (by omega) hm
    · rw [cif_f q]; exact Inv_buy hI hm (Classical.not_not.mp p) (Classical.not_not.mp q)
theorem io_drop (hI : Inv m S) (hm : m + 1 ≤ 62000) {x : Int} : Inv (m + 1) (opDrop S x).2 := by
  unfold opDrop
  by_cases p : ¬ (0 ≤ x ∧ x < S 5 0 3)
  · rw [cif_t p]; exact Inv_up1 hI (by omega) hm
  · rw [cif_f p]
    by_cases q : S 3 x 0 ≠ 0
    · rw [cif_t q]; exact Inv_up1 hI (by omega) hm
    · rw [cif_f q]; exact Inv_up1 (Inv_endH hI (Classical.not_not.mp p) (Classical.not_not.mp q) (Or.inl rfl)) (by omega) hm
theorem io_back (hI : Inv m S) (hm : m + 1 ≤ 62000) {x : Int} : Inv (m + 1) (opBack S x).2 := by
  unfold opBack
  by_cases p : ¬ (0 ≤ x ∧ x < S 5 0 4)
  · rw [cif_t p]; exact Inv_up1 hI (by omega) hm
  · rw [cif_f p]
    have p2 := Classical.not_not.mp p
    by_cases q : S 6 x 0 ≠ 0
    · rw [cif_t q]; exact Inv_up1 hI (by omega) hm
    · rw [cif_f q]
      have ht := (hI.2.2.2.2.1 x p2.1 p2.2).2.2.1
      exact Inv_endT hI (by omega) hm p2 (Classical.not_not.mp q) (Or.inl rfl) (Or.inl rfl) (by omega)
theorem io_in (hI : Inv m S) (hm : m + 1 ≤ 62000) {x : Int} : Inv (m + 1) (opIn S x).2 := by
  unfold opIn
  by_cases p : ¬ (0 ≤ x ∧ x < S 5 0 4)
  · rw [cif_t p]; exact Inv_up1 hI (by omega) hm
  · rw [cif_f p]
    by_cases q : S 6 x 0 ≠ 0
    · rw [cif_t q]; exact Inv_up1 hI (by omega) hm
    · rw [cif_f q]; exact Inv_in hI hm (Classical.not_not.mp p) (Classical.not_not.mp q)
theorem io_up (hI : Inv m S) (hm : m + 1 ≤ 62000) {x : Int} : Inv (m + 1) (opUp S x).2 := by
  unfold opUp
  by_cases p : ¬ (0 ≤ x ∧ x < S 1 0 4)
  · rw [cif_t p]; exact Inv_up1 hI (by omega) hm
  · rw [cif_f p]
    by_cases q : upP S x ∨ ∃ c : Int, 0 ≤ c ∧ c < 600 ∧ andI (S 14 0 c) (shlI 1 x) ≠ 0 ∧ S 13 0 c ≠ 0
    · rw [cif_t q]; exact Inv_up1 hI (by omega) hm
    · rw [cif_f q]; exact Inv_up1 (Inv_up hI (Classical.not_not.mp p) (fun z => q (Or.inr z))) (by omega) hm
theorem io_pass (hI : Inv m S) (hm : m + 1 ≤ 62000) {x : Int} : Inv (m + 1) (opPass S x).2 := by
  unfold opPass
  by_cases p : ¬ (1 ≤ x ∧ x ≤ 999)
  · rw [cif_t p]; exact Inv_up1 hI (by omega) hm
  · rw [cif_f p]
    by_cases q : 9999 < S 5 0 5 + x
    · rw [cif_t q]; exact Inv_up1 hI (by omega) hm
    · rw [cif_f q]
      have h5 := hI.1.2.2.2.2
      have hS := Inv_sc hI (s := 5) (v := S 5 0 5 + x) (Or.inl ⟨rfl, by omega, by omega⟩)
      exact Inv_up1 (Inv_ex hS (S 5 0 5 + x) (S 5 0 3).toNat (by show ((S 5 0 3).toNat : Int) ≤ S 5 0 3; omega)) (by omega) hm
theorem io_down (hI : Inv m S) (hm : m + 1 ≤ 62000) {x : Int} : Inv (m + 1) (opDown S x).2 := by
  unfold opDown
  by_cases p : ¬ (0 ≤ x ∧ x < S 1 0 4)
  · rw [cif_t p]; exact Inv_up1 hI (by omega) hm
  · rw [cif_f p]
    by_cases q : ¬ upP S x
    · rw [cif_t q]; exact Inv_up1 hI (by omega) hm
    · rw [cif_f q]; exact Inv_up1 (Inv_dn hI (Classical.not_not.mp p)) (by omega) hm
theorem io_close (hI : Inv m S) (hm : m + 1 ≤ 62000) : Inv (m + 1) (opClose S).2 := by
  unfold opClose
  by_cases p : S 5 0 6 ≠ 0
  · rw [cif_t p]; exact Inv_up1 hI (by omega) hm
  · rw [cif_f p]
    have h5 := hI.1.2.2.2.2.2
    have hS := Inv_sc hI (s := 6) (v := 1) (Or.inr ⟨rfl, Or.inr rfl⟩)
    exact Inv_up1 (Inv_no hS (S 5 0 4).toNat (by show ((S 5 0 4).toNat : Int) ≤ S 5 0 4; omega)) (by omega) hm
theorem io_piece (hI : Inv m S) (hm : m + 1 ≤ 62000) {s f t : Int} : Inv (m + 1) (opPiece S s f t).2 := by
  unfold opPiece
  by_cases p : ¬ ((0 ≤ s ∧ s < S 1 0 4) ∧ isPc S f t)
  · rw [cif_t p]; exact Inv_up1 hI (by omega) hm
  · rw [cif_f p]
    have p2 := Classical.not_not.mp p
    by_cases q : upP S s
    · rw [cif_t q]; exact Inv_up1 hI (by omega) hm
    · rw [cif_f q]; exact Inv_up1 (Inv_piece hI p2.1 p2.2 q) (by omega) hm
theorem io_block (hI : Inv m S) (hm : m + 1 ≤ 62000) {x y z : Int} : Inv (m + 1) (opBlock S x y z).2 := by
  unfold opBlock
  by_cases p : ¬ ((1 ≤ x ∧ x ≤ 6) ∧ (1 ≤ y ∧ y ≤ 10) ∧ (1 ≤ z ∧ z ≤ 500))
  · rw [cif_t p]; exact Inv_up1 hI (by omega) hm
  · rw [cif_f p]
    have p2 := Classical.not_not.mp p
    by_cases q : S 1 0 3 = 6
    · rw [cif_t q]; exact Inv_up1 hI (by omega) hm
    · rw [cif_f q]; exact Inv_up1 (Inv_block hI p2.1 p2.2.1 p2.2.2 (by have := hI.1.2.1; omega)) (by omega) hm
theorem io_stage (hI : Inv m S) (hm : m + 1 ≤ 62000) : Inv (m + 1) (opStage S).2 := by
  unfold opStage
  by_cases q : S 1 0 4 = 4
  · rw [cif_t q]; exact Inv_up1 hI (by omega) hm
  · rw [cif_f q]; exact Inv_up1 (Inv_stage hI (by have := hI.1.2.2.1; omega)) (by omega) hm
/-- an order of a program -/
theorem io_op (hI : Inv m S) (hm : m + 1 ≤ 62000) {o a b c : Int} : Inv (m + 1) (opO o S a b c).2 := by
  unfold opO
  by_cases h1 : o = 1
  · rw [cif_t h1]; exact io_hold hI hm
  rw [cif_f h1]
  by_cases h2 : o = 2
  · rw [cif_t h2]; exact io_buy hI hm
  rw [cif_f h2]
  by_cases h3 : o = 3
  · rw [cif_t h3]; exact io_drop hI hm
  rw [cif_f h3]
  by_cases h4 : o = 4
  · rw [cif_t h4]; exact io_back hI hm
  rw [cif_f h4]
  by_cases h5 : o = 5
  · rw [cif_t h5]; exact io_in hI hm
  rw [cif_f h5]
  by_cases h6 : o = 6
  · rw [cif_t h6]; exact io_up hI hm
  rw [cif_f h6]; exact io_pass hI hm
theorem sh_op (hI : Inv m S) {a a' : Int → Int} {o x y z : Int} (h : SHo a S) (e : a' 4 = a 4) : SHo a' (opO o S x y z).2 := by
  unfold opO
  by_cases h1 : o = 1
  · rw [cif_t h1]; exact sh_hold h e
  rw [cif_f h1]
  by_cases h2 : o = 2
  · rw [cif_t h2]; exact sh_buy (by have := hI.1.2.2.2.2.2.1; omega) h e
  rw [cif_f h2]
  by_cases h3 : o = 3
  · rw [cif_t h3]; exact sh_drop h e
  rw [cif_f h3]
  by_cases h4 : o = 4
  · rw [cif_t h4]; exact sh_back h e
  rw [cif_f h4]
  by_cases h5 : o = 5
  · rw [cif_t h5]; exact sh_in h e
  rw [cif_f h5]
  by_cases h6 : o = 6
  · rw [cif_t h6]; exact sh_up h e
  rw [cif_f h6]; exact sh_pass h e
end
