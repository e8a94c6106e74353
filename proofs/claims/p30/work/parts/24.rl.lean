/-! 24: the law's rows of numbers (kinds 17 to 21): the stadium that they tell of; what a write does to it -/
def cd (k : Int) : Int := 100 * (k / 21) + 10 * (k % 21 / 7) + k % 7
def RLw (M : NM) (S : Sl) : Prop :=
  (M 17 9 0 0 = S 5 0 5 ∧ M 17 9 0 1 = S 5 0 6 ∧ M 17 9 0 2 = S 5 0 7 ∧ M 17 9 0 3 = S 5 0 8 ∧ M 17 9 0 5 = S 5 0 9 ∧ M 17 9 0 6 = S 1 0 3 ∧ M 17 9 0 7 = S 1 0 4 ∧ M 17 9 0 8 = S 5 0 3 ∧ M 17 9 0 9 = S 5 0 4 ∧ M 17 9 0 10 = S 1 0 5 ∧ True)
  ∧ (∀ b w, 0 ≤ b → b < 3 → 0 ≤ w → w < 3 → M 18 9 0 (3 * b + w) = S 0 b w)
  ∧ (∀ k, 0 ≤ k → k < 63 → M 19 9 0 k = S 13 0 (cd k) + 4 * S 14 0 (cd k))
  ∧ (∀ h w, 0 ≤ h → h < 12 → 0 ≤ w → w < 5 → M 20 9 0 (5 * h + w) = S 3 h w)
  ∧ (∀ t w, 0 ≤ t → t < 12 → 0 ≤ w → w < 5 → M 21 9 0 (5 * t + w) = S 6 t w)
/-- how great the law lets a stadium grow -/
def BB (S : Sl) : Prop := S 1 0 3 ≤ 3 ∧ S 1 0 4 ≤ 2 ∧ S 1 0 5 < 4 ∧ S 5 0 3 ≤ 12 ∧ ∀ b, 0 ≤ b → b < S 1 0 3 → S 0 b 0 ≤ 3 ∧ S 0 b 1 ≤ 7 ∧ S 0 b 2 ≤ 4
def LW (m : Int) (M : NM) (S : Sl) : Prop := RLw M S ∧ Inv m S ∧ BB S
/-- the law's kinds alone are kept apart from the rest -/
def FL (M MM : NM) : Prop := ∀ K, ¬ (17 ≤ K ∧ K ≤ 21) → MM K = M K
/-- what the law's own writes do: cells of its rows (j = 9) alone -/
def F9 (M MM : NM) : Prop := ∀ K j i s, j ≠ 9 → MM K j i s = M K j i s
theorem wri_j {M : NM} {K K' : Nat} {j i s v j' i' s' : Int} (h : j' ≠ j) : wri M K j i s v K' j' i' s' = M K' j' i' s' := if_neg (fun z => h z.2.1)
theorem F9_rf {M : NM} : F9 M M := fun _ _ _ _ _ => rfl
theorem F9_tr {M M1 M2 : NM} (h : F9 M M1) (k : F9 M1 M2) : F9 M M2 := fun K j i s q => (k K j i s q).trans (h K j i s q)
theorem F9_wri {M M1 : NM} {K : Nat} {i p v : Int} (h : F9 M M1) : F9 M (wri M1 K 9 i p v) := fun K' j i' s q => (wri_j q).trans (h K' j i' s q)
theorem F9_sl {M M1 : NM} (h : F9 M M1) {j : Int} (q : j ≠ 9) : sl M1 j = sl M j := by
  funext K i s
  exact h K j i s q
theorem ua_eq {a : Int → Int} {p v : Int} : ua a p v p = v := if_pos rfl
theorem ua_ne {a : Int → Int} {p v k : Int} (h : k ≠ p) : ua a p v k = a k := if_neg h
theorem wri_q {M : NM} {K K' : Nat} {j i s v j' i' s' : Int} (h : ¬ (K' = K ∧ s' = s)) : wri M K j i s v K' j' i' s' = M K' j' i' s' := if_neg (fun z => h ⟨z.1, z.2.2.2⟩)
theorem RL_s0 {M : NM} {S : Sl} {v : Int} (h : RLw M S) : RLw (wri M 17 9 0 0 v) (st S 5 0 5 v) := by
  obtain ⟨⟨h0, h1, h2, h3, h4, h5, h6, h7, h8, h9, -⟩, hb, hc, hh, ht⟩ := h
  exact ⟨⟨wri_eq.trans st_eq.symm, (wri_nes (by decide)).trans (h1.trans ((st_nes (by decide)).symm)), (wri_nes (by decide)).trans (h2.trans ((st_nes (by decide)).symm)), (wri_nes (by decide)).trans (h3.trans ((st_nes (by decide)).symm)), (wri_nes (by decide)).trans (h4.trans ((st_nes (by decide)).symm)), (wri_nes (by decide)).trans (h5.trans (rfl)), (wri_nes (by decide)).trans (h6.trans (rfl)), (wri_nes (by decide)).trans (h7.trans ((st_nes (by decide)).symm)), (wri_nes (by decide)).trans (h8.trans ((st_nes (by decide)).symm)), (wri_nes (by decide)).trans (h9.trans (rfl)), trivial⟩, fun b w b0 b1 w0 w1 => hb b w b0 b1 w0 w1, fun k k0 k1 => hc k k0 k1, fun b w b0 b1 w0 w1 => hh b w b0 b1 w0 w1, fun b w b0 b1 w0 w1 => ht b w b0 b1 w0 w1⟩
theorem lc0 {M : NM} {S : Sl} (h : RLw M S) : M 17 9 0 0 = S 5 0 5 := h.1.1
theorem RL_s1 {M : NM} {S : Sl} {v : Int} (h : RLw M S) : RLw (wri M 17 9 0 1 v) (st S 5 0 6 v) := by
  obtain ⟨⟨h0, h1, h2, h3, h4, h5, h6, h7, h8, h9, -⟩, hb, hc, hh, ht⟩ := h
  exact ⟨⟨(wri_nes (by decide)).trans (h0.trans ((st_nes (by decide)).symm)), wri_eq.trans st_eq.symm, (wri_nes (by decide)).trans (h2.trans ((st_nes (by decide)).symm)), (wri_nes (by decide)).trans (h3.trans ((st_nes (by decide)).symm)), (wri_nes (by decide)).trans (h4.trans ((st_nes (by decide)).symm)), (wri_nes (by decide)).trans (h5.trans (rfl)), (wri_nes (by decide)).trans (h6.trans (rfl)), (wri_nes (by decide)).trans (h7.trans ((st_nes (by decide)).symm)), (wri_nes (by decide)).trans (h8.trans ((st_nes (by decide)).symm)), (wri_nes (by decide)).trans (h9.trans (rfl)), trivial⟩, fun b w b0 b1 w0 w1 => hb b w b0 b1 w0 w1, fun k k0 k1 => hc k k0 k1, fun b w b0 b1 w0 w1 => hh b w b0 b1 w0 w1, fun b w b0 b1 w0 w1 => ht b w b0 b1 w0 w1⟩
theorem lc1 {M : NM} {S : Sl} (h : RLw M S) : M 17 9 0 1 = S 5 0 6 := h.1.2.1
theorem RL_s2 {M : NM} {S : Sl} {v : Int} (h : RLw M S) : RLw (wri M 17 9 0 2 v) (st S 5 0 7 v) := by
  obtain ⟨⟨h0, h1, h2, h3, h4, h5, h6, h7, h8, h9, -⟩, hb, hc, hh, ht⟩ := h
  exact ⟨⟨(wri_nes (by decide)).trans (h0.trans ((st_nes (by decide)).symm)), (wri_nes (by decide)).trans (h1.trans ((st_nes (by decide)).symm)), wri_eq.trans st_eq.symm, (wri_nes (by decide)).trans (h3.trans ((st_nes (by decide)).symm)), (wri_nes (by decide)).trans (h4.trans ((st_nes (by decide)).symm)), (wri_nes (by decide)).trans (h5.trans (rfl)), (wri_nes (by decide)).trans (h6.trans (rfl)), (wri_nes (by decide)).trans (h7.trans ((st_nes (by decide)).symm)), (wri_nes (by decide)).trans (h8.trans ((st_nes (by decide)).symm)), (wri_nes (by decide)).trans (h9.trans (rfl)), trivial⟩, fun b w b0 b1 w0 w1 => hb b w b0 b1 w0 w1, fun k k0 k1 => hc k k0 k1, fun b w b0 b1 w0 w1 => hh b w b0 b1 w0 w1, fun b w b0 b1 w0 w1 => ht b w b0 b1 w0 w1⟩
theorem lc2 {M : NM} {S : Sl} (h : RLw M S) : M 17 9 0 2 = S 5 0 7 := h.1.2.2.1
theorem RL_s3 {M : NM} {S : Sl} {v : Int} (h : RLw M S) : RLw (wri M 17 9 0 3 v) (st S 5 0 8 v) := by
  obtain ⟨⟨h0, h1, h2, h3, h4, h5, h6, h7, h8, h9, -⟩, hb, hc, hh, ht⟩ := h
  exact ⟨⟨(wri_nes (by decide)).trans (h0.trans ((st_nes (by decide)).symm)), (wri_nes (by decide)).trans (h1.trans ((st_nes (by decide)).symm)), (wri_nes (by decide)).trans (h2.trans ((st_nes (by decide)).symm)), wri_eq.trans st_eq.symm, (wri_nes (by decide)).trans (h4.trans ((st_nes (by decide)).symm)), (wri_nes (by decide)).trans (h5.trans (rfl)), (wri_nes (by decide)).trans (h6.trans (rfl)), (wri_nes (by decide)).trans (h7.trans ((st_nes (by decide)).symm)), (wri_nes (by decide)).trans (h8.trans ((st_nes (by decide)).symm)), (wri_nes (by decide)).trans (h9.trans (rfl)), trivial⟩, fun b w b0 b1 w0 w1 => hb b w b0 b1 w0 w1, fun k k0 k1 => hc k k0 k1, fun b w b0 b1 w0 w1 => hh b w b0 b1 w0 w1, fun b w b0 b1 w0 w1 => ht b w b0 b1 w0 w1⟩
theorem lc3 {M : NM} {S : Sl} (h : RLw M S) : M 17 9 0 3 = S 5 0 8 := h.1.2.2.2.1
theorem RL_s5 {M : NM} {S : Sl} {v : Int} (h : RLw M S) : RLw (wri M 17 9 0 5 v) (st S 5 0 9 v) := by
  obtain ⟨⟨h0, h1, h2, h3, h4, h5, h6, h7, h8, h9, -⟩, hb, hc, hh, ht⟩ := h
  exact ⟨⟨(wri_nes (by decide)).trans (h0.trans ((st_nes (by decide)).symm)), (wri_nes (by decide)).trans (h1.trans ((st_nes (by decide)).symm)), (wri_nes (by decide)).trans (h2.trans ((st_nes (by decide)).symm)), (wri_nes (by decide)).trans (h3.trans ((st_nes (by decide)).symm)), wri_eq.trans st_eq.symm, (wri_nes (by decide)).trans (h5.trans (rfl)), (wri_nes (by decide)).trans (h6.trans (rfl)), (wri_nes (by decide)).trans (h7.trans ((st_nes (by decide)).symm)), (wri_nes (by decide)).trans (h8.trans ((st_nes (by decide)).symm)), (wri_nes (by decide)).trans (h9.trans (rfl)), trivial⟩, fun b w b0 b1 w0 w1 => hb b w b0 b1 w0 w1, fun k k0 k1 => hc k k0 k1, fun b w b0 b1 w0 w1 => hh b w b0 b1 w0 w1, fun b w b0 b1 w0 w1 => ht b w b0 b1 w0 w1⟩
theorem lc5 {M : NM} {S : Sl} (h : RLw M S) : M 17 9 0 5 = S 5 0 9 := h.1.2.2.2.2.1
theorem RL_s6 {M : NM} {S : Sl} {v : Int} (h : RLw M S) : RLw (wri M 17 9 0 6 v) (st S 1 0 3 v) := by
  obtain ⟨⟨h0, h1, h2, h3, h4, h5, h6, h7, h8, h9, -⟩, hb, hc, hh, ht⟩ := h
  exact ⟨⟨(wri_nes (by decide)).trans (h0.trans (rfl)), (wri_nes (by decide)).trans (h1.trans (rfl)), (wri_nes (by decide)).trans (h2.trans (rfl)), (wri_nes (by decide)).trans (h3.trans (rfl)), (wri_nes (by decide)).trans (h4.trans (rfl)), wri_eq.trans st_eq.symm, (wri_nes (by decide)).trans (h6.trans ((st_nes (by decide)).symm)), (wri_nes (by decide)).trans (h7.trans (rfl)), (wri_nes (by decide)).trans (h8.trans (rfl)), (wri_nes (by decide)).trans (h9.trans ((st_nes (by decide)).symm)), trivial⟩, fun b w b0 b1 w0 w1 => hb b w b0 b1 w0 w1, fun k k0 k1 => hc k k0 k1, fun b w b0 b1 w0 w1 => hh b w b0 b1 w0 w1, fun b w b0 b1 w0 w1 => ht b w b0 b1 w0 w1⟩
theorem lc6 {M : NM} {S : Sl} (h : RLw M S) : M 17 9 0 6 = S 1 0 3 := h.1.2.2.2.2.2.1
theorem RL_s7 {M : NM} {S : Sl} {v : Int} (h : RLw M S) : RLw (wri M 17 9 0 7 v) (st S 1 0 4 v) := by
  obtain ⟨⟨h0, h1, h2, h3, h4, h5, h6, h7, h8, h9, -⟩, hb, hc, hh, ht⟩ := h
  exact ⟨⟨(wri_nes (by decide)).trans (h0.trans (rfl)), (wri_nes (by decide)).trans (h1.trans (rfl)), (wri_nes (by decide)).trans (h2.trans (rfl)), (wri_nes (by decide)).trans (h3.trans (rfl)), (wri_nes (by decide)).trans (h4.trans (rfl)), (wri_nes (by decide)).trans (h5.trans ((st_nes (by decide)).symm)), wri_eq.trans st_eq.symm, (wri_nes (by decide)).trans (h7.trans (rfl)), (wri_nes (by decide)).trans (h8.trans (rfl)), (wri_nes (by decide)).trans (h9.trans ((st_nes (by decide)).symm)), trivial⟩, fun b w b0 b1 w0 w1 => hb b w b0 b1 w0 w1, fun k k0 k1 => hc k k0 k1, fun b w b0 b1 w0 w1 => hh b w b0 b1 w0 w1, fun b w b0 b1 w0 w1 => ht b w b0 b1 w0 w1⟩
theorem lc7 {M : NM} {S : Sl} (h : RLw M S) : M 17 9 0 7 = S 1 0 4 := h.1.2.2.2.2.2.2.1
theorem RL_s8 {M : NM} {S : Sl} {v : Int} (h : RLw M S) : RLw (wri M 17 9 0 8 v) (st S 5 0 3 v) := by
  obtain ⟨⟨h0, h1, h2, h3, h4, h5, h6, h7, h8, h9, -⟩, hb, hc, hh, ht⟩ := h
  exact ⟨⟨(wri_nes (by decide)).trans (h0.trans ((st_nes (by decide)).symm)), (wri_nes (by decide)).trans (h1.trans ((st_nes (by decide)).symm)), (wri_nes (by decide)).trans (h2.trans ((st_nes (by decide)).symm)), (wri_nes (by decide)).trans (h3.trans ((st_nes (by decide)).symm)), (wri_nes (by decide)).trans (h4.trans ((st_nes (by decide)).symm)), (wri_nes (by decide)).trans (h5.trans (rfl)), (wri_nes (by decide)).trans (h6.trans (rfl)), wri_eq.trans st_eq.symm, (wri_nes (by decide)).trans (h8.trans ((st_nes (by decide)).symm)), (wri_nes (by decide)).trans (h9.trans (rfl)), trivial⟩, fun b w b0 b1 w0 w1 => hb b w b0 b1 w0 w1, fun k k0 k1 => hc k k0 k1, fun b w b0 b1 w0 w1 => hh b w b0 b1 w0 w1, fun b w b0 b1 w0 w1 => ht b w b0 b1 w0 w1⟩
theorem lc8 {M : NM} {S : Sl} (h : RLw M S) : M 17 9 0 8 = S 5 0 3 := h.1.2.2.2.2.2.2.2.1
theorem RL_s9 {M : NM} {S : Sl} {v : Int} (h : RLw M S) : RLw (wri M 17 9 0 9 v) (st S 5 0 4 v) := by
  obtain ⟨⟨h0, h1, h2, h3, h4, h5, h6, h7, h8, h9, -⟩, hb, hc, hh, ht⟩ := h
  exact ⟨⟨(wri_nes (by decide)).trans (h0.trans ((st_nes (by decide)).symm)), (wri_nes (by decide)).trans (h1.trans ((st_nes (by decide)).symm)), (wri_nes (by decide)).trans (h2.trans ((st_nes (by decide)).symm)), (wri_nes (by decide)).trans (h3.trans ((st_nes (by decide)).symm)), (wri_nes (by decide)).trans (h4.trans ((st_nes (by decide)).symm)), (wri_nes (by decide)).trans (h5.trans (rfl)), (wri_nes (by decide)).trans (h6.trans (rfl)), (wri_nes (by decide)).trans (h7.trans ((st_nes (by decide)).symm)), wri_eq.trans st_eq.symm, (wri_nes (by decide)).trans (h9.trans (rfl)), trivial⟩, fun b w b0 b1 w0 w1 => hb b w b0 b1 w0 w1, fun k k0 k1 => hc k k0 k1, fun b w b0 b1 w0 w1 => hh b w b0 b1 w0 w1, fun b w b0 b1 w0 w1 => ht b w b0 b1 w0 w1⟩
theorem lc9 {M : NM} {S : Sl} (h : RLw M S) : M 17 9 0 9 = S 5 0 4 := h.1.2.2.2.2.2.2.2.2.1
theorem RL_s10 {M : NM} {S : Sl} {v : Int} (h : RLw M S) : RLw (wri M 17 9 0 10 v) (st S 1 0 5 v) := by
  obtain ⟨⟨h0, h1, h2, h3, h4, h5, h6, h7, h8, h9, -⟩, hb, hc, hh, ht⟩ := h
  exact ⟨⟨(wri_nes (by decide)).trans (h0.trans (rfl)), (wri_nes (by decide)).trans (h1.trans (rfl)), (wri_nes (by decide)).trans (h2.trans (rfl)), (wri_nes (by decide)).trans (h3.trans (rfl)), (wri_nes (by decide)).trans (h4.trans (rfl)), (wri_nes (by decide)).trans (h5.trans ((st_nes (by decide)).symm)), (wri_nes (by decide)).trans (h6.trans ((st_nes (by decide)).symm)), (wri_nes (by decide)).trans (h7.trans (rfl)), (wri_nes (by decide)).trans (h8.trans (rfl)), wri_eq.trans st_eq.symm, trivial⟩, fun b w b0 b1 w0 w1 => hb b w b0 b1 w0 w1, fun k k0 k1 => hc k k0 k1, fun b w b0 b1 w0 w1 => hh b w b0 b1 w0 w1, fun b w b0 b1 w0 w1 => ht b w b0 b1 w0 w1⟩
theorem lc10 {M : NM} {S : Sl} (h : RLw M S) : M 17 9 0 10 = S 1 0 5 := h.1.2.2.2.2.2.2.2.2.2.1
theorem RL_4 {M : NM} {S : Sl} {v : Int} (h : RLw M S) : RLw (wri M 17 9 0 4 v) S := by
  obtain ⟨⟨h0, h1, h2, h3, h4, h5, h6, h7, h8, h9, -⟩, hb, hc, hh, ht⟩ := h
  exact ⟨⟨(wri_nes (by decide)).trans h0, (wri_nes (by decide)).trans h1, (wri_nes (by decide)).trans h2, (wri_nes (by decide)).trans h3, (wri_nes (by decide)).trans h4, (wri_nes (by decide)).trans h5, (wri_nes (by decide)).trans h6, (wri_nes (by decide)).trans h7, (wri_nes (by decide)).trans h8, (wri_nes (by decide)).trans h9, trivial⟩, fun b w b0 b1 w0 w1 => hb b w b0 b1 w0 w1, fun k k0 k1 => hc k k0 k1, fun b w b0 b1 w0 w1 => hh b w b0 b1 w0 w1, fun b w b0 b1 w0 w1 => ht b w b0 b1 w0 w1⟩
theorem RL_blk {M : NM} {S : Sl} {b w v : Int} (h : RLw M S) (hb' : 0 ≤ b ∧ b < 3) (hw' : 0 ≤ w ∧ w < 3) : RLw (wri M 18 9 0 (3 * b + w) v) (st S 0 b w v) := by
  obtain ⟨h1, hb, hc, hh, ht⟩ := h
  refine ⟨h1, fun x y x0 x1 y0 y1 => ?_, fun k k0 k1 => hc k k0 k1, fun x y x0 x1 y0 y1 => hh x y x0 x1 y0 y1, fun x y x0 x1 y0 y1 => ht x y x0 x1 y0 y1⟩
  by_cases q : x = b ∧ y = w
  · rw [q.1, q.2, wri_eq, st_eq]
  · rw [wri_nes (by omega), show st S 0 b w v 0 x y = S 0 x y from if_neg (fun z => q z.2)]; exact hb x y x0 x1 y0 y1
theorem RL_blk0 {M : NM} {S : Sl} {b v : Int} (h : RLw M S) (hb' : 0 ≤ b ∧ b < 3) : RLw (wri M 18 9 0 (3 * b) v) (st S 0 b 0 v) := by
  have := RL_blk (v := v) h hb' (w := 0) (by decide)
  rwa [Int.add_zero] at this
theorem rl_blk {M : NM} {S : Sl} (h : RLw M S) {b w : Int} (hb' : 0 ≤ b ∧ b < 3) (hw' : 0 ≤ w ∧ w < 3) : M 18 9 0 (3 * b + w) = S 0 b w := h.2.1 b w hb'.1 hb'.2 hw'.1 hw'.2
theorem rl_blk0 {M : NM} {S : Sl} (h : RLw M S) {b : Int} (hb' : 0 ≤ b ∧ b < 3) : M 18 9 0 (3 * b) = S 0 b 0 := by
  have := rl_blk h hb' (w := 0) (by decide)
  rwa [Int.add_zero] at this
theorem RL_hold {M : NM} {S : Sl} {b w v : Int} (h : RLw M S) (hb' : 0 ≤ b ∧ b < 12) (hw' : 0 ≤ w ∧ w < 5) : RLw (wri M 20 9 0 (5 * b + w) v) (st S 3 b w v) := by
  obtain ⟨h1, hb, hc, hh, ht⟩ := h
  refine ⟨h1, fun x y x0 x1 y0 y1 => hb x y x0 x1 y0 y1, fun k k0 k1 => hc k k0 k1, fun x y x0 x1 y0 y1 => ?_, fun x y x0 x1 y0 y1 => ht x y x0 x1 y0 y1⟩
  by_cases q : x = b ∧ y = w
  · rw [q.1, q.2, wri_eq, st_eq]
  · rw [wri_nes (by omega), show st S 3 b w v 3 x y = S 3 x y from if_neg (fun z => q z.2)]; exact hh x y x0 x1 y0 y1
theorem RL_hold0 {M : NM} {S : Sl} {b v : Int} (h : RLw M S) (hb' : 0 ≤ b ∧ b < 12) : RLw (wri M 20 9 0 (5 * b) v) (st S 3 b 0 v) := by
  have := RL_hold (v := v) h hb' (w := 0) (by decide)
  rwa [Int.add_zero] at this
theorem rl_hold {M : NM} {S : Sl} (h : RLw M S) {b w : Int} (hb' : 0 ≤ b ∧ b < 12) (hw' : 0 ≤ w ∧ w < 5) : M 20 9 0 (5 * b + w) = S 3 b w := h.2.2.2.1 b w hb'.1 hb'.2 hw'.1 hw'.2
theorem rl_hold0 {M : NM} {S : Sl} (h : RLw M S) {b : Int} (hb' : 0 ≤ b ∧ b < 12) : M 20 9 0 (5 * b) = S 3 b 0 := by
  have := rl_hold h hb' (w := 0) (by decide)
  rwa [Int.add_zero] at this
theorem RL_tick {M : NM} {S : Sl} {b w v : Int} (h : RLw M S) (hb' : 0 ≤ b ∧ b < 12) (hw' : 0 ≤ w ∧ w < 5) : RLw (wri M 21 9 0 (5 * b + w) v) (st S 6 b w v) := by
  obtain ⟨h1, hb, hc, hh, ht⟩ := h
  refine ⟨h1, fun x y x0 x1 y0 y1 => hb x y x0 x1 y0 y1, fun k k0 k1 => hc k k0 k1, fun x y x0 x1 y0 y1 => hh x y x0 x1 y0 y1, fun x y x0 x1 y0 y1 => ?_⟩
  by_cases q : x = b ∧ y = w
  · rw [q.1, q.2, wri_eq, st_eq]
  · rw [wri_nes (by omega), show st S 6 b w v 6 x y = S 6 x y from if_neg (fun z => q z.2)]; exact ht x y x0 x1 y0 y1
theorem RL_tick0 {M : NM} {S : Sl} {b v : Int} (h : RLw M S) (hb' : 0 ≤ b ∧ b < 12) : RLw (wri M 21 9 0 (5 * b) v) (st S 6 b 0 v) := by
  have := RL_tick (v := v) h hb' (w := 0) (by decide)
  rwa [Int.add_zero] at this
theorem rl_tick {M : NM} {S : Sl} (h : RLw M S) {b w : Int} (hb' : 0 ≤ b ∧ b < 12) (hw' : 0 ≤ w ∧ w < 5) : M 21 9 0 (5 * b + w) = S 6 b w := h.2.2.2.2 b w hb'.1 hb'.2 hw'.1 hw'.2
theorem rl_tick0 {M : NM} {S : Sl} (h : RLw M S) {b : Int} (hb' : 0 ≤ b ∧ b < 12) : M 21 9 0 (5 * b) = S 6 b 0 := by
  have := rl_tick h hb' (w := 0) (by decide)
  rwa [Int.add_zero] at this
theorem cd_inj {k l : Int} (h0 : 0 ≤ k) (h1 : k < 63) (l0 : 0 ≤ l) (l1 : l < 63) (h : cd k = cd l) : k = l := by
  unfold cd at h
  omega
theorem cd_at {b r c : Int} (hr : 0 ≤ r ∧ r < 3) (hc : 0 ≤ c ∧ c < 7) : cd (21 * b + 7 * r + c) = 100 * b + 10 * r + c := by
  unfold cd
  omega
/-- a chair: what it is, the stages over it -/
theorem RL_ch {M : NM} {S : Sl} {k x y : Int} (h : RLw M S) (hk : 0 ≤ k ∧ k < 63) : RLw (wri M 19 9 0 k (x + 4 * y)) (st (st S 13 0 (cd k) x) 14 0 (cd k) y) := by
  obtain ⟨h1, hb, hc, hh, ht⟩ := h
  refine ⟨h1, fun b w b0 b1 w0 w1 => hb b w b0 b1 w0 w1, fun l l0 l1 => ?_, fun b w b0 b1 w0 w1 => hh b w b0 b1 w0 w1, fun b w b0 b1 w0 w1 => ht b w b0 b1 w0 w1⟩
  by_cases q : l = k
  · rw [q, wri_eq]
    show x + 4 * y = st S 13 0 (cd k) x 13 0 (cd k) + 4 * st (st S 13 0 (cd k) x) 14 0 (cd k) y 14 0 (cd k)
    rw [st_eq, st_eq]
  · have q2 : cd l ≠ cd k := fun z => q (cd_inj l0 l1 hk.1 hk.2 z)
    rw [wri_nes q]
    show _ = st S 13 0 (cd k) x 13 0 (cd l) + 4 * st (st S 13 0 (cd k) x) 14 0 (cd k) y 14 0 (cd l)
    rw [st_nes q2, st_nes q2]
    exact hc l l0 l1
theorem RL_eq {M : NM} {S S' : Sl} (h : RLw M S) (e : S' = S) : RLw M S' := by rw [e]; exact h
/-- other memory, the same rows -/
theorem RL_cg {M M' : NM} {S : Sl} (h : RLw M S) (e : ∀ K, 17 ≤ K → K ≤ 21 → M' K = M K) : RLw M' S := by
  obtain ⟨h1, hb, hc, hh, ht⟩ := h
  refine ⟨?_, fun b w b0 b1 w0 w1 => ?_, fun l l0 l1 => ?_, fun b w b0 b1 w0 w1 => ?_, fun b w b0 b1 w0 w1 => ?_⟩
  · rw [e 17 (by decide) (by decide)]; exact h1
  · rw [e 18 (by decide) (by decide)]; exact hb b w b0 b1 w0 w1
  · rw [e 19 (by decide) (by decide)]; exact hc l l0 l1
  · rw [e 20 (by decide) (by decide)]; exact hh b w b0 b1 w0 w1
  · rw [e 21 (by decide) (by decide)]; exact ht b w b0 b1 w0 w1
/-- stadiums alike in all that the rows tell -/
theorem RL_st {M : NM} {S S' : Sl} (h : RLw M S) (e : ∀ K i s, stK K → S' K i s = S K i s) : RLw M S' := by
  obtain ⟨⟨h0, h1, h2, h3, h4, h5, h6, h7, h8, h9, -⟩, hb, hc, hh, ht⟩ := h
  exact ⟨⟨h0.trans (e _ _ _ stK_5).symm, h1.trans (e _ _ _ stK_5).symm, h2.trans (e _ _ _ stK_5).symm, h3.trans (e _ _ _ stK_5).symm, h4.trans (e _ _ _ stK_5).symm, h5.trans (e _ _ _ stK_1).symm, h6.trans (e _ _ _ stK_1).symm, h7.trans (e _ _ _ stK_5).symm, h8.trans (e _ _ _ stK_5).symm, h9.trans (e _ _ _ stK_1).symm, trivial⟩, fun b w b0 b1 w0 w1 => (hb b w b0 b1 w0 w1).trans (e _ _ _ stK_0).symm, fun k k0 k1 => (hc k k0 k1).trans (by rw [e _ _ _ stK_13, e _ _ _ stK_14]), fun b w b0 b1 w0 w1 => (hh b w b0 b1 w0 w1).trans (e _ _ _ stK_3).symm, fun b w b0 b1 w0 w1 => (ht b w b0 b1 w0 w1).trans (e _ _ _ stK_6).symm⟩
theorem BB_st {S S' : Sl} (h : BB S) (e : ∀ K i s, stK K → S' K i s = S K i s) : BB S' := by
  obtain ⟨a, b, c, d, f⟩ := h
  refine ⟨by rw [e _ _ _ stK_1]; exact a, by rw [e _ _ _ stK_1]; exact b, by rw [e _ _ _ stK_1]; exact c, by rw [e _ _ _ stK_5]; exact d, fun x x0 x1 => ?_⟩
  rw [e _ _ _ stK_1] at x1
  rw [e _ _ _ stK_0, e _ _ _ stK_0, e _ _ _ stK_0]
  exact f x x0 x1
theorem aat {m : Int} {M : NM} {S : Sl} (hW : LW m M S) {b r c : Int} (hb : 0 ≤ b ∧ b < 3) (hr : 0 ≤ r ∧ r < 3) (hc : 0 ≤ c ∧ c < 7) : M 19 9 0 (21 * b + 7 * r + c) = S 13 0 (100 * b + 10 * r + c) + 4 * S 14 0 (100 * b + 10 * r + c) ∧ (0 ≤ S 13 0 (100 * b + 10 * r + c) ∧ S 13 0 (100 * b + 10 * r + c) ≤ 3) ∧ (0 ≤ S 14 0 (100 * b + 10 * r + c) ∧ S 14 0 (100 * b + 10 * r + c) < 16) := by
  have h := hW.1.2.2.1 (21 * b + 7 * r + c) (by omega) (by omega)
  rw [cd_at hr hc] at h
  have q := hW.2.1.2.2.1 (100 * b + 10 * r + c) (by omega) (by omega)
  exact ⟨h, q.1, q.2.1⟩
theorem aak {m : Int} {M : NM} {S : Sl} (hW : LW m M S) {k : Int} (h0 : 0 ≤ k) (h1 : k < 63) : M 19 9 0 k = S 13 0 (cd k) + 4 * S 14 0 (cd k) ∧ (0 ≤ S 13 0 (cd k) ∧ S 13 0 (cd k) ≤ 3) ∧ (0 ≤ S 14 0 (cd k) ∧ S 14 0 (cd k) < 16) := by
  have h := hW.1.2.2.1 k h0 h1
  have q := hW.2.1.2.2.1 (cd k) (by unfold cd; omega) (by unfold cd; omega)
  exact ⟨h, q.1, q.2.1⟩
theorem isCh_at {S : Sl} {b r c : Int} (hb : 0 ≤ b) (hr : 0 ≤ r ∧ r ≤ 9) (hc : 0 ≤ c ∧ c ≤ 9) : isCh S (100 * b + 10 * r + c) ↔ b < S 1 0 3 ∧ r < S 0 b 0 ∧ c < S 0 b 1 := by
  unfold isCh
  rw [show (100 * b + 10 * r + c) / 100 = b by omega, show (100 * b + 10 * r + c) / 10 % 10 = r by omega, show (100 * b + 10 * r + c) % 10 = c by omega]
  constructor
  · rintro ⟨-, h1, h2, h3⟩; exact ⟨h1, h2, h3⟩
  · rintro ⟨h1, h2, h3⟩; exact ⟨by omega, h1, h2, h3⟩
/-- the state of the law's numbers: the bounds -/
theorem nT_le {m : Int} {S : Sl} (hI : Inv m S) : S 5 0 4 ≤ S 5 0 3 := by
  have h := hI.2.2.2.2.2.2.2
  have q := smb_bnd (fun h => S 3 h 0 = 1) (S 5 0 3).toNat
  have := hI.1.2.2.2.2.1
  omega
theorem and_top (v : Int) : 0 ≤ andI v 2147483647 := by
  unfold andI
  show 0 ≤ (Int32.ofInt v &&& Int32.ofInt 2147483647).toBitVec.toInt
  rw [Int32.toBitVec_and, BitVec.toInt_eq_toNat_of_msb (by rw [BitVec.msb_and, show (Int32.ofInt 2147483647).toBitVec.msb = false from by decide +kernel, Bool.and_false])]
  exact Int.natCast_nonneg _
def lo (v n : Int) : Int := andI v 2147483647 % n
theorem lo_r (v : Int) {n : Int} (h : 0 < n) : 0 ≤ lo v n ∧ lo v n < n := ⟨Int.emod_nonneg _ (by omega), Int.emod_lt_of_pos _ h⟩
theorem fin_or4 : ∀ x, x < 4 → ∀ y, y < 16 → ∀ s, s < 4 → orI ((x : Nat) + 4 * (y : Nat)) (shlI 4 (s : Nat)) = (x : Nat) + 4 * orI (y : Nat) (shlI 1 (s : Nat)) := by decide +kernel
theorem b_or4 {x y s : Int} (hx : 0 ≤ x ∧ x ≤ 3) (hy : 0 ≤ y ∧ y < 16) (hs : 0 ≤ s ∧ s < 4) : orI (x + 4 * y) (shlI 4 s) = x + 4 * orI y (shlI 1 s) := by
  obtain ⟨x, rfl⟩ := Int.eq_ofNat_of_zero_le hx.1
  obtain ⟨y, rfl⟩ := Int.eq_ofNat_of_zero_le hy.1
  obtain ⟨s, rfl⟩ := Int.eq_ofNat_of_zero_le hs.1
  exact fin_or4 x (by omega) y (by omega) s (by omega)
theorem bec_0 {S : Sl} {f w : Int} : bec S f 0 w = S := by
  funext K i s
  exact if_neg (fun z => by omega)
theorem bec_s {S : Sl} {f k w : Int} (h : 0 ≤ k) : bec S f (k + 1) w = st (st (bec S f k w) 13 0 (f + k) w) 14 0 (f + k) (S 14 0 (f + k)) := by
  funext K i s
  by_cases z : K = 14 ∧ i = 0 ∧ s = f + k
  · obtain ⟨rfl, rfl, rfl⟩ := z
    rw [st_eq]; rfl
  · rw [show st (st (bec S f k w) 13 0 (f + k) w) 14 0 (f + k) (S 14 0 (f + k)) K i s = st (bec S f k w) 13 0 (f + k) w K i s from if_neg z]
    by_cases y : K = 13 ∧ i = 0 ∧ s = f + k
    · obtain ⟨rfl, rfl, rfl⟩ := y
      rw [st_eq, bec_in (by omega) (by omega)]
    · rw [show st (bec S f k w) 13 0 (f + k) w K i s = bec S f k w K i s from if_neg y]
      unfold bec
      by_cases x : K = 13 ∧ i = 0 ∧ f ≤ s ∧ s < f + k
      · rw [if_pos x, if_pos ⟨x.1, x.2.1, x.2.2.1, by omega⟩]
      · rw [if_neg x, if_neg (fun u => by
          by_cases v : s = f + k
          · exact y ⟨u.1, u.2.1, v⟩
          · exact x ⟨u.1, u.2.1, u.2.2.1, by omega⟩)]
theorem st_comm {S : Sl} {K K' : Nat} {i s v i' s' v' : Int} (h : ¬ (K = K' ∧ i = i' ∧ s = s')) : st (st S K i s v) K' i' s' v' = st (st S K' i' s' v') K i s v := by
  funext A b c
  unfold st
  by_cases x : A = K ∧ b = i ∧ c = s
  · by_cases y : A = K' ∧ b = i' ∧ c = s'
    · exact absurd ⟨x.1.symm.trans y.1, x.2.1.symm.trans y.2.1, x.2.2.symm.trans y.2.2⟩ h
    · rw [if_neg y, if_pos x, if_pos x]
  · by_cases y : A = K' ∧ b = i' ∧ c = s'
    · rw [if_pos y, if_neg x, if_pos y]
    · rw [if_neg y, if_neg x, if_neg x, if_neg y]
theorem st_bec {S : Sl} {K : Nat} {i s v f n w : Int} (h : K ≠ 13) : bec (st S K i s v) f n w = st (bec S f n w) K i s v := by
  funext A b c
  unfold bec st
  by_cases x : A = 13 ∧ b = 0 ∧ f ≤ c ∧ c < f + n
  · rw [if_pos x, if_neg (fun z => h (z.1.symm.trans x.1))]; exact (if_pos x).symm
  · rw [if_neg x]
    by_cases y : A = K ∧ b = i ∧ c = s
    · rw [if_pos y, if_pos y]
    · rw [if_neg y, if_neg y]; exact (if_neg x).symm
theorem SHo_eq {a a' : Int → Int} {S S' : Sl} (h : SHo a S) (e : a' 4 = a 4) (e4 : S' 5 0 4 = S 5 0 4) (e6 : ∀ t, 0 ≤ t → t < S 5 0 4 → (S' 6 t 0 = 3 ↔ S 6 t 0 = 3)) : SHo a' S' := by
  unfold SHo at *
  rw [e, h, e4]
  exact sm_congr (fun t t0 t1 => bi_iff (e6 t t0 (by omega)).symm)
/-- the chairs of a group, as the law's row has them -/
def BC3 (S : Sl) (f n : Int) : Prop := ∀ c, f ≤ c → c < f + n → (0 ≤ c ∧ c / 100 < 3 ∧ c / 10 % 10 < 3 ∧ c % 10 < 7) ∧ (0 ≤ S 13 0 c ∧ S 13 0 c ≤ 3) ∧ (0 ≤ S 14 0 c ∧ S 14 0 c < 16)
theorem BC3_of {m : Int} {S : Sl} (hI : Inv m S) (hB : BB S) {f n : Int} (h : HO S f n) : BC3 S f n := fun c c0 c1 => by
  have q := HO_ch hI h c0 c1
  have q2 := isCh_r hI q
  have p := hI.2.2.1 c q2.1 q2.2.1
  have b3 := hB.2.2.2.2 (c / 100) (by omega) q.2.1
  exact ⟨⟨q.1, by have := q.2.1; have := hB.1; omega, by have := q.2.2.1; omega, by have := q.2.2.2; omega⟩, p.1, p.2.1⟩
