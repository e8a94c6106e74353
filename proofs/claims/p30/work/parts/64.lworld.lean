/-! 64: the world of the law, between its calls -/
def Rg (M : NM) : Prop := (0 ≤ M 2 0 0 1 ∧ M 2 0 0 1 ≤ 5) ∧ (0 ≤ M 2 0 0 2 ∧ M 2 0 0 2 ≤ 5)
def Wp (m : Int) (M : NM) : Prop := LW m M (sl M 0) ∧ SHo (M 17 9 0) (sl M 0) ∧ Rg M
section
variable {m : Int} {S : Sl}
theorem bk_w {b w : Int} (hb : 0 ≤ b ∧ b < S 1 0 3) (hw : 0 ≤ w ∧ w < 6) : bkF S b w = ct S b (fun c => w = 0 ∨ isN S c = w) := (cif_t ⟨hb, by omega⟩).trans (cif_t hw.2)
theorem bk_00 (hI : Inv m S) {b : Int} (hb : 0 ≤ b ∧ b < S 1 0 3) : bkF S b 0 = S 0 b 0 * S 0 b 1 := (bk_w hb (by decide)).trans (bk_0 hI hb).symm
theorem bk_6 {b : Int} (hb : 0 ≤ b ∧ b < S 1 0 3) : bkF S b 6 = rk S b := (cif_t ⟨hb, by decide⟩).trans ((cif_f (by decide)).trans (cif_t rfl))
theorem bk_7 {b : Int} (hb : 0 ≤ b ∧ b < S 1 0 3) : bkF S b 7 = S 0 b 2 := (cif_t ⟨hb, by decide⟩).trans ((cif_f (by decide)).trans ((cif_f (by decide)).trans (cif_t rfl)))
theorem pl_big (hI : Inv m S) (hB : BB S) {b n : Int} (hb : 0 ≤ b ∧ b < S 1 0 3) (hn : 8 ≤ n) : pl S b n = -9 := pl_no hI hb (fun r c z => by
  have z1 := z.1
  have z2 := z.2.1
  have h := hI.2.1 b hb.1 hb.2
  have q := hB.2.2.2.2 b hb.1 hb.2
  have o := opn_lt hb.1 z1.1 (by omega) (z.2.2 (n - 1) (by omega) (by omega))
  omega)
theorem bk_8 (hI : Inv m S) (hB : BB S) {b n : Int} (hb : 0 ≤ b ∧ b < S 1 0 3) (hn : n = 8) : bkF S b 8 = gN S b (n - 1).toNat := by
  subst hn
  refine ((cif_t ⟨hb, by decide⟩).trans ((cif_f (by decide)).trans ((cif_f (by decide)).trans (cif_f (by decide))))).trans ?_
  show gN S b 10 = gN S b 7
  have e : ∀ n : Nat, 7 ≤ n → gN S b (n + 1) = gN S b n := fun n h => by
    rw [gN]
    exact cif_f (fun z => z (pl_big hI hB hb (by omega)))
  exact (e 9 (by decide)).trans ((e 8 (by decide)).trans (e 7 (by decide)))
theorem mul_r {x y : Int} (hx : 1 ≤ x ∧ x ≤ 6) (hy : 1 ≤ y ∧ y ≤ 10) : 0 ≤ x * y ∧ x * y ≤ 60 := by
  have h1 : 0 ≤ x * y := Int.mul_nonneg (by omega) (by omega)
  have h2 : x * y ≤ 6 * 10 := Int.mul_le_mul hx.2 hy.2 (by omega) (by decide)
  omega
theorem upc_fin : ∀ u, u < 4 → pop10 u = if u = 3 then 2 else if u = 0 then 0 else 1 := by decide +kernel
theorem upc_3 (h : S 1 0 5 = 3) : upc S = 2 := by
  unfold upc
  rw [h]
  rfl
theorem upc_0 (h : S 1 0 5 = 0) : upc S = 0 := by
  unfold upc
  rw [h]
  rfl
theorem upc_1 (h0 : 0 ≤ S 1 0 5) (h4 : S 1 0 5 < 4) (h3 : ¬ S 1 0 5 = 3) (hn : ¬ S 1 0 5 = 0) : upc S = 1 := by
  unfold upc
  have q := upc_fin (S 1 0 5).toNat (by omega)
  rw [if_neg (by omega), if_neg (by omega)] at q
  rw [q]
  rfl
end
