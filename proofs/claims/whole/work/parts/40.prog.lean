/-! 40: what a program does -/
noncomputable def nk (T : Int → Int) (L s : Int) : Int := sk T L (tkE T L s)
/-- where an order's last sign is -/
noncomputable def ordQ (T : Int → Int) (L s : Int) : Int := cif (ordC T L s = 1) (nk T L (nk T L (nk T L (nk T L s)))) (nk T L (nk T L s))
noncomputable def ordX (T : Int → Int) (L s : Int) (S : Sl) : Int × Sl := opO (ordC T L s) S (numC T L (nk T L s)) (numC T L (nk T L (nk T L s))) (numC T L (nk T L (nk T L (nk T L s))))
/-- one order: the place of its failure, or -1; the stadium -/
noncomputable def ordR (T : Int → Int) (L s : Int) (S : Sl) : Int × Sl :=
  cif (ordC T L s = 0) (s, S) (cif (numC T L (nk T L s) = -1) (nk T L s, S)
    (cif (ordC T L s = 1 ∧ numC T L (nk T L (nk T L s)) = -1) (nk T L (nk T L s), S)
      (cif (ordC T L s = 1 ∧ numC T L (nk T L (nk T L (nk T L s))) = -1) (nk T L (nk T L (nk T L s)), S)
        (cif (¬ isW T (ordQ T L s) (tkE T L (ordQ T L s)) ([59] : List Nat)) (ordQ T L s, S) (cif ((ordX T L s S).1 < 0) s (-1), (ordX T L s S).2)))))
/-- the orders from s on, after c of them: the answer, the stadium -/
noncomputable def prgN (T : Int → Int) (L : Int) : Nat → Int → Sl → Int → Int × Sl
  | 0, _, S, c => (c, S)
  | n + 1, s, S, c => cif (s < L) (cif ((ordR T L s S).1 = -1) (prgN T L n (nk T L (ordQ T L s)) (ordR T L s S).2 (c + 1)) (-1000 - (ordR T L s S).1, S)) (c, S)
theorem opO_n {o : Int} {S : Sl} {a b c b' c' : Int} (h : o ≠ 1) : opO o S a b c = opO o S a b' c' := by
  unfold opO; rw [cif_f h, cif_f h]
theorem nk_r {T : Int → Int} {L s : Int} (h : 0 ≤ s ∧ s ≤ L) : (0 ≤ nk T L s ∧ nk T L s ≤ L) ∧ s ≤ nk T L s ∧ (s < L → s < nk T L s) := by
  obtain ⟨a, b, c, _⟩ := tk_r (T := T) h.2
  obtain ⟨d, e, _⟩ := sk_r (T := T) (L := L) _ (tkE T L s) rfl b
  unfold nk
  refine ⟨⟨by omega, e⟩, by omega, fun z => ?_⟩
  have := c z
  omega
theorem ordQ_r {T : Int → Int} {L s : Int} (h : 0 ≤ s ∧ s ≤ L) : (0 ≤ ordQ T L s ∧ ordQ T L s ≤ L) ∧ s ≤ ordQ T L s ∧ (s < L → s < ordQ T L s) := by
  have h1 := nk_r (T := T) h
  have h2 := nk_r (T := T) h1.1
  have h3 := nk_r (T := T) h2.1
  have h4 := nk_r (T := T) h3.1
  unfold ordQ
  by_cases q : ordC T L s = 1
  · rw [cif_t q]
    refine ⟨h4.1, by omega, fun z => ?_⟩
    have := h1.2.2 z
    omega
  · rw [cif_f q]
    refine ⟨h2.1, by omega, fun z => ?_⟩
    have := h1.2.2 z
    omega
theorem numC_r {T : Int → Int} {L s : Int} (h : 0 ≤ s ∧ s ≤ L) : ∀ n : Nat, (∀ x, s ≤ x → x < s + n → kd (T x) = 2) → 0 ≤ valN T s n := by
  intro n
  induction n with
  | zero => intro _; exact Int.le_refl _
  | succ n ih =>
    intro k
    have a := ih (fun x x0 x1 => k x x0 (by omega))
    have b := kd_2.mp (k (s + (n : Int)) (by omega) (by omega))
    show 0 ≤ valN T s n * 10 + T (s + (n : Int)) - 48
    omega
/-- at a token of the class's text -/
def TX (T : Int → Int) (L : Int) (M MM : NM) (s : Int) : Prop := MM 4 0 0 3 = s ∧ MM 4 0 0 4 = tkE T L s ∧ (∀ x, x ≠ 3 → x ≠ 4 → MM 4 0 0 x = M 4 0 0 x) ∧ ∀ K, K ≠ 4 → K ≠ 16 → MM K = M K
theorem TX_w {T : Int → Int} {L : Int} {M MM : NM} {s : Int} {k v : Int} (h : TX T L M MM s) : TX T L M (wri MM 16 0 0 k v) s := by
  have e : wri MM 16 0 0 k v 4 = MM 4 := wri_K (by decide)
  refine ⟨?_, ?_, fun x a b => ?_, fun K a b => (wri_K b).trans (h.2.2.2 K a b)⟩
  · rw [e]; exact h.1
  · rw [e]; exact h.2.1
  · rw [e]; exact h.2.2.1 x a b
section
variable {X : XI} {T : Int → Int} {L : Int} {M MM : NM} {s : Int}
theorem d_readX (hL : M 4 0 0 2 = L) (hL2 : 0 ≤ L ∧ L ≤ 120) (hT : ∀ k, 0 ≤ k → k < L → M 15 0 0 k = T k) (h : TX T L M MM s) (hs : 0 ≤ s ∧ s ≤ L) : HT X z_X4_readToken [.inr (.inr (some (4, 0, 0)))] MM (fun rr MM' => rr = none ∧ TX T L M MM' (nk T L s) ∧ MM' 16 = MM 16) := by
  have t := tk_r (T := T) hs.2
  refine ht_imp (d_readToken (T := T) (L := L) ((h.2.2.1 2 (by decide) (by decide)).trans hL) hL2 (fun k a b => by rw [h.2.2.2 15 (by decide) (by decide)]; exact hT k a b) (by rw [h.2.1]; omega)) (fun rr M' q => ?_)
  obtain ⟨q0, q1, q2, q3, q4⟩ := q
  rw [h.2.1] at q1 q2
  exact ⟨q0, ⟨q1, q2, fun x a b => (q4 x a b).trans (h.2.2.1 x a b), fun K a b => (q3 K a).trans (h.2.2.2 K a b)⟩, q3 16 (by decide)⟩
theorem d_numX (hL : M 4 0 0 2 = L) (hL2 : 0 ≤ L ∧ L ≤ 120) (hT : ∀ k, 0 ≤ k → k < L → M 15 0 0 k = T k) (h : TX T L M MM s) (hs : 0 ≤ s ∧ s ≤ L) : HT X z_X4_numberOfToken [.inr (.inr (some (4, 0, 0)))] MM (fun rr MM' => rr = some (.inl (numC T L s)) ∧ MM' = MM) :=
  d_numberOfToken ((h.2.2.1 2 (by decide) (by decide)).trans hL) hL2 (fun k a b => by rw [h.2.2.2 15 (by decide) (by decide)]; exact hT k a b) hs h.1 h.2.1
theorem d_semiX (hL : M 4 0 0 2 = L) (hL2 : 0 ≤ L ∧ L ≤ 120) (hT : ∀ k, 0 ≤ k → k < L → M 15 0 0 k = T k) (h : TX T L M MM s) (hs : 0 ≤ s ∧ s ≤ L) : HT X z_X4_tokenIs [.inr (.inr (some (4, 0, 0))), .inr (.inr (some (31, 7, 0)))] MM (fun rr MM' => rr = some (.inl (bi (isW T s (tkE T L s) ([59] : List Nat)))) ∧ MM' = MM) :=
  d_tokenIs_7 ((h.2.2.1 2 (by decide) (by decide)).trans hL) hL2 (fun k a b => by rw [h.2.2.2 15 (by decide) (by decide)]; exact hT k a b) hs h.1 h.2.1
end
