/-! 31: the reference: calls that look -/
section
variable {X : XI}
theorem fin_up : ∀ u, u < 16 → andI (u : Nat) 1 + andI (shrI (u : Nat) 1) 1 + andI (shrI (u : Nat) 2) 1 + andI (shrI (u : Nat) 3) 1 = (pop10 u : Nat) := by decide +kernel
theorem b_up {m : Int} {S : Sl} (hI : Inv m S) : andI (S 1 0 5) 1 + andI (shrI (S 1 0 5) 1) 1 + andI (shrI (S 1 0 5) 2) 1 + andI (shrI (S 1 0 5) 3) 1 = upc S := by
  have hu := hI.1.2.2.2.1
  unfold upc
  obtain ⟨u, hu2⟩ := Int.eq_ofNat_of_zero_le hu.1
  rw [hu2]
  exact fin_up u (by omega)
theorem fin_u1 : ∀ u, u < 16 → (decide (0 ≤ andI (u : Nat) 1 ∧ andI (u : Nat) 1 ≤ 1) && decide (0 ≤ andI (shrI (u : Nat) 1) 1 ∧ andI (shrI (u : Nat) 1) 1 ≤ 1) && decide (0 ≤ andI (shrI (u : Nat) 2) 1 ∧ andI (shrI (u : Nat) 2) 1 ≤ 1) && decide (0 ≤ andI (shrI (u : Nat) 3) 1 ∧ andI (shrI (u : Nat) 3) 1 ≤ 1)) = true := by decide +kernel
theorem b_u1 {m : Int} {S : Sl} (hI : Inv m S) : (0 ≤ andI (S 1 0 5) 1 ∧ andI (S 1 0 5) 1 ≤ 1) ∧ (0 ≤ andI (shrI (S 1 0 5) 1) 1 ∧ andI (shrI (S 1 0 5) 1) 1 ≤ 1) ∧ (0 ≤ andI (shrI (S 1 0 5) 2) 1 ∧ andI (shrI (S 1 0 5) 2) 1 ≤ 1) ∧ (0 ≤ andI (shrI (S 1 0 5) 3) 1 ∧ andI (shrI (S 1 0 5) 3) 1 ≤ 1) := by
  have hu := hI.1.2.2.2.1
  obtain ⟨u, hu2⟩ := Int.eq_ofNat_of_zero_le hu.1
  rw [hu2]
  have := fin_u1 u (by omega)
  simp only [Bool.and_eq_true, decide_eq_true_eq] at this
  obtain ⟨⟨⟨a, b⟩, c⟩, d⟩ := this
  exact ⟨a, b, c, d⟩
theorem c_manyH {m : Int} {M : NM} {S : Sl} (hW : RW m M S) {n w : Int} (hn : 0 ≤ n ∧ n ≤ 20) : HT X z_X8_many [.inr (.inr (some (8, 0, 0))), .inl 389, .inl n, .inl w] M (fun r M' => r = some (.inl (sm (fun k => bi (S 3 k 0 = w)) n.toNat)) ∧ M' = M) := by
  refine ht_of (e := E_X8_many) rfl (?_ : EvI X E_X8_many (0, [some (.inr (.inr (some (8, 0, 0)))), some (.inl 389), some (.inl n), some (.inl w), none, none], [], M) _)
  refine seg_ok 4 (?_ : EvI X E_X8_many (6, [some (.inr (.inr (some (8, 0, 0)))), some (.inl 389), some (.inl n), some (.inl w), some (.inl 0), some (.inl 0)], [], M) _)
  have L6 : ∀ (m6 : Nat) (u k : Int), n - k < (m6 : Int) → (0 ≤ k) → (k ≤ n) → (u = sm (fun k => bi (S 3 k 0 = w)) k.toNat) → EvI X E_X8_many (6, [some (.inr (.inr (some (8, 0, 0)))), some (.inl 389), some (.inl n), some (.inl w), some (.inl u), some (.inl k)], [], M) (fun r M' => r = some (.inl (sm (fun k => bi (S 3 k 0 = w)) n.toNat)) ∧ M' = M) := by
    intro m6
    induction m6 with
    | zero => intro u k hm6 q1 q2 q3; exact absurd hm6 (by omega)
    | succ m6 ih6 =>
      intro u k hm6 q1 q2 q3
      subst q3
      have g := smb_bnd (fun k => S 3 k 0 = w) k.toNat
      have e : k < n → M 17 0 0 (389 + 5 * k) = S 3 k 0 := fun z => by
        have := hW.1.2.2.2.1 k 0 q1 (by omega) (by decide) (by decide)
        rwa [Int.add_zero] at this
      refine seg_ok 3 (?_ : EvI X E_X8_many (if k < n then 12 else 43, [some (.inr (.inr (some (8, 0, 0)))), some (.inl 389), some (.inl n), some (.inl w), some (.inl (sm (fun k => bi (S 3 k 0 = w)) k.toNat)), some (.inl k)], [], M) _)
      refine ev_if (fun h9 => ?_) (fun h9 => ?_)
      · refine seg_ok 11 (⟨by omega, by omega, by omega, ?_⟩ : ((-2147483648 : Int) ≤ (5 * k) ∧ (5 * k) < 2147483648) ∧ ((-2147483648 : Int) ≤ (389 + (5 * k)) ∧ (389 + (5 * k)) < 2147483648) ∧ ((0 : Int) ≤ (389 + (5 * k)) ∧ (389 + (5 * k)) < 589) ∧ EvI X E_X8_many (if (M 17 0 0 (389 + (5 * k))) = w then 29 else 33, [some (.inr (.inr (some (8, 0, 0)))), some (.inl 389), some (.inl n), some (.inl w), some (.inl (sm (fun k => bi (S 3 k 0 = w)) k.toNat)), some (.inl k)], [.inl (sm (fun k => bi (S 3 k 0 = w)) k.toNat)], M) _)
        refine ev_if (fun h26 => ?_) (fun h26 => ?_)
        · refine seg_ok 6 (⟨by omega, by omega, ?_⟩ : ((-2147483648 : Int) ≤ ((sm (fun k => bi (S 3 k 0 = w)) k.toNat) + 1) ∧ ((sm (fun k => bi (S 3 k 0 = w)) k.toNat) + 1) < 2147483648) ∧ ((-2147483648 : Int) ≤ (k + 1) ∧ (k + 1) < 2147483648) ∧ EvI X E_X8_many (6, [some (.inr (.inr (some (8, 0, 0)))), some (.inl 389), some (.inl n), some (.inl w), some (.inl ((sm (fun k => bi (S 3 k 0 = w)) k.toNat) + 1)), some (.inl (k + 1))], [], M) _)
          refine ih6 ((sm (fun k => bi (S 3 k 0 = w)) k.toNat) + 1) (k + 1) (by omega) (by omega) (by omega) (by rw [sm_step q1]; exact acc0 (is1 (by rw [← e (by omega)]; exact h26)))
        · refine seg_ok 5 (⟨by omega, by omega, ?_⟩ : ((-2147483648 : Int) ≤ ((sm (fun k => bi (S 3 k 0 = w)) k.toNat) + 0) ∧ ((sm (fun k => bi (S 3 k 0 = w)) k.toNat) + 0) < 2147483648) ∧ ((-2147483648 : Int) ≤ (k + 1) ∧ (k + 1) < 2147483648) ∧ EvI X E_X8_many (6, [some (.inr (.inr (some (8, 0, 0)))), some (.inl 389), some (.inl n), some (.inl w), some (.inl ((sm (fun k => bi (S 3 k 0 = w)) k.toNat) + 0)), some (.inl (k + 1))], [], M) _)
          refine ih6 ((sm (fun k => bi (S 3 k 0 = w)) k.toNat) + 0) (k + 1) (by omega) (by omega) (by omega) (by rw [sm_step q1, bi_f (fun z => h26 ((e (by omega)).trans z)), Int.add_zero])
      · refine seg_ok 1 (?_ : EvI X E_X8_many (45, [some (.inr (.inr (some (8, 0, 0)))), some (.inl 389), some (.inl n), some (.inl w), some (.inl (sm (fun k => bi (S 3 k 0 = w)) k.toNat)), some (.inl k)], [.inl (sm (fun k => bi (S 3 k 0 = w)) k.toNat)], M) _)
        refine ev_rt (r := some (.inl (sm (fun k => bi (S 3 k 0 = w)) k.toNat))) rfl (?_)
        exact ⟨rint (by rw [show k = n by omega]), rfl⟩
  refine L6 ((n - 0) + 1 : Int).toNat 0 0 (by omega) (by omega) (by omega) rfl
theorem c_manyT {m : Int} {M : NM} {S : Sl} (hW : RW m M S) {n w : Int} (hn : 0 ≤ n ∧ n ≤ 20) : HT X z_X8_many [.inr (.inr (some (8, 0, 0))), .inl 489, .inl n, .inl w] M (fun r M' => r = some (.inl (sm (fun k => bi (S 6 k 0 = w)) n.toNat)) ∧ M' = M) := by
  refine ht_of (e := E_X8_many) rfl (?_ : EvI X E_X8_many (0, [some (.inr (.inr (some (8, 0, 0)))), some (.inl 489), some (.inl n), some (.inl w), none, none], [], M) _)
  refine seg_ok 4 (?_ : EvI X E_X8_many (6, [some (.inr (.inr (some (8, 0, 0)))), some (.inl 489), some (.inl n), some (.inl w), some (.inl 0), some (.inl 0)], [], M) _)
  have L6 : ∀ (m6 : Nat) (u k : Int), n - k < (m6 : Int) → (0 ≤ k) → (k ≤ n) → (u = sm (fun k => bi (S 6 k 0 = w)) k.toNat) → EvI X E_X8_many (6, [some (.inr (.inr (some (8, 0, 0)))), some (.inl 489), some (.inl n), some (.inl w), some (.inl u), some (.inl k)], [], M) (fun r M' => r = some (.inl (sm (fun k => bi (S 6 k 0 = w)) n.toNat)) ∧ M' = M) := by
    intro m6
    induction m6 with
    | zero => intro u k hm6 q1 q2 q3; exact absurd hm6 (by omega)
    | succ m6 ih6 =>
      intro u k hm6 q1 q2 q3
      subst q3
      have g := smb_bnd (fun k => S 6 k 0 = w) k.toNat
      have e : k < n → M 17 0 0 (489 + 5 * k) = S 6 k 0 := fun z => by
        have := hW.1.2.2.2.2 k 0 q1 (by omega) (by decide) (by decide)
        rwa [Int.add_zero] at this
      refine seg_ok 3 (?_ : EvI X E_X8_many (if k < n then 12 else 43, [some (.inr (.inr (some (8, 0, 0)))), some (.inl 489), some (.inl n), some (.inl w), some (.inl (sm (fun k => bi (S 6 k 0 = w)) k.toNat)), some (.inl k)], [], M) _)
      refine ev_if (fun h9 => ?_) (fun h9 => ?_)
      · refine seg_ok 11 (⟨by omega, by omega, by omega, ?_⟩ : ((-2147483648 : Int) ≤ (5 * k) ∧ (5 * k) < 2147483648) ∧ ((-2147483648 : Int) ≤ (489 + (5 * k)) ∧ (489 + (5 * k)) < 2147483648) ∧ ((0 : Int) ≤ (489 + (5 * k)) ∧ (489 + (5 * k)) < 589) ∧ EvI X E_X8_many (if (M 17 0 0 (489 + (5 * k))) = w then 29 else 33, [some (.inr (.inr (some (8, 0, 0)))), some (.inl 489), some (.inl n), some (.inl w), some (.inl (sm (fun k => bi (S 6 k 0 = w)) k.toNat)), some (.inl k)], [.inl (sm (fun k => bi (S 6 k 0 = w)) k.toNat)], M) _)
        refine ev_if (fun h26 => ?_) (fun h26 => ?_)
        · refine seg_ok 6 (⟨by omega, by omega, ?_⟩ : ((-2147483648 : Int) ≤ ((sm (fun k => bi (S 6 k 0 = w)) k.toNat) + 1) ∧ ((sm (fun k => bi (S 6 k 0 = w)) k.toNat) + 1) < 2147483648) ∧ ((-2147483648 : Int) ≤ (k + 1) ∧ (k + 1) < 2147483648) ∧ EvI X E_X8_many (6, [some (.inr (.inr (some (8, 0, 0)))), some (.inl 489), some (.inl n), some (.inl w), some (.inl ((sm (fun k => bi (S 6 k 0 = w)) k.toNat) + 1)), some (.inl (k + 1))], [], M) _)
          refine ih6 ((sm (fun k => bi (S 6 k 0 = w)) k.toNat) + 1) (k + 1) (by omega) (by omega) (by omega) (by rw [sm_step q1]; exact acc0 (is1 (by rw [← e (by omega)]; exact h26)))
        · refine seg_ok 5 (⟨by omega, by omega, ?_⟩ : ((-2147483648 : Int) ≤ ((sm (fun k => bi (S 6 k 0 = w)) k.toNat) + 0) ∧ ((sm (fun k => bi (S 6 k 0 = w)) k.toNat) + 0) < 2147483648) ∧ ((-2147483648 : Int) ≤ (k + 1) ∧ (k + 1) < 2147483648) ∧ EvI X E_X8_many (6, [some (.inr (.inr (some (8, 0, 0)))), some (.inl 489), some (.inl n), some (.inl w), some (.inl ((sm (fun k => bi (S 6 k 0 = w)) k.toNat) + 0)), some (.inl (k + 1))], [], M) _)
          refine ih6 ((sm (fun k => bi (S 6 k 0 = w)) k.toNat) + 0) (k + 1) (by omega) (by omega) (by omega) (by rw [sm_step q1, bi_f (fun z => h26 ((e (by omega)).trans z)), Int.add_zero])
      · refine seg_ok 1 (?_ : EvI X E_X8_many (45, [some (.inr (.inr (some (8, 0, 0)))), some (.inl 489), some (.inl n), some (.inl w), some (.inl (sm (fun k => bi (S 6 k 0 = w)) k.toNat)), some (.inl k)], [.inl (sm (fun k => bi (S 6 k 0 = w)) k.toNat)], M) _)
        refine ev_rt (r := some (.inl (sm (fun k => bi (S 6 k 0 = w)) k.toNat))) rfl (?_)
        exact ⟨rint (by rw [show k = n by omega]), rfl⟩
  refine L6 ((n - 0) + 1 : Int).toNat 0 0 (by omega) (by omega) (by omega) rfl
set_option maxRecDepth 4050 in
theorem c_count {m : Int} {M : NM} {S : Sl} (hW : RW m M S) (hS : SHo (M 17 0 0) S) (hA : 0 ≤ M 8 0 0 4 ∧ M 8 0 0 4 ≤ 5) {w : Int} : HT X z_X8_count [.inr (.inr (some (8, 0, 0))), .inl w] M (fun rr MM => rr = some (.inl (cif (w = 13) (M 8 0 0 4) (cif (w = 14) (M 8 0 0 6) (cnF S w)))) ∧ MM = (wri M 8 0 0 0 0)) := by
  have hs := hW.1.1
  have hi := hW.2.1
  unfold Iv0 at hi
  have hW0 : RW m (wri M 8 0 0 0 0) S := RW_fr (wri_K (by decide)) hW
  have hu1 := b_u1 hW.2
  refine ht_of (e := E_X8_count) rfl (?_ : EvI X E_X8_count (0, [some (.inr (.inr (some (8, 0, 0)))), some (.inl w)], [], M) _)
  refine seg_ok 5 (?_ : EvI X E_X8_count (if w = 0 then 80 else if w = 1 then 87 else if w = 2 then 95 else if w = 3 then 103 else if w = 4 then 149 else if w = 5 then 157 else if w = 6 then 173 else if w = 7 then 181 else if w = 8 then 197 else if w = 9 then 204 else if w = 10 then 211 else if w = 11 then 218 else if w = 12 then 225 else if w = 13 then 232 else if w = 14 then 237 else 242, [some (.inr (.inr (some (8, 0, 0)))), some (.inl w)], [], (wri M 8 0 0 0 0)) _)
  refine ev_if (fun h6 => ?_) (fun h6_0 => ?_)
  · refine seg_ok 4 (⟨by omega, ?_⟩ : ((0 : Int) ≤ 0 ∧ (0 : Int) < 589) ∧ EvI X E_X8_count (86, [some (.inr (.inr (some (8, 0, 0)))), some (.inl w)], [.inl ((wri M 8 0 0 0 0) 17 0 0 0)], (wri M 8 0 0 0 0)) _)
    rw [show ((wri M 8 0 0 0 0) 17 0 0 0) = (S 5 0 5) from sc0 ((show RR ((wri M 8 0 0 0 0) 17 0 0) S by rw [wri_K (by decide)]; exact hW.1))]
    refine ev_rt (r := some (.inl (S 5 0 5))) rfl (?_)
    exact ⟨rint (((cif_f (by omega)).trans ((cif_f (by omega)).trans (cif_t h6))).symm), rfl⟩
  refine ev_if (fun h6 => ?_) (fun h6_1 => ?_)
  · refine seg_ok 4 (⟨by omega, ?_⟩ : ((0 : Int) ≤ 6 ∧ (6 : Int) < 589) ∧ EvI X E_X8_count (94, [some (.inr (.inr (some (8, 0, 0)))), some (.inl w)], [.inl ((wri M 8 0 0 0 0) 17 0 0 6)], (wri M 8 0 0 0 0)) _)
    rw [show ((wri M 8 0 0 0 0) 17 0 0 6) = (S 1 0 3) from sc6 ((show RR ((wri M 8 0 0 0 0) 17 0 0) S by rw [wri_K (by decide)]; exact hW.1))]
    refine ev_rt (r := some (.inl (S 1 0 3))) rfl (?_)
    exact ⟨rint (((cif_f (by omega)).trans ((cif_f (by omega)).trans ((cif_f h6_0).trans (cif_t h6)))).symm), rfl⟩
  refine ev_if (fun h6 => ?_) (fun h6_2 => ?_)
  · refine seg_ok 4 (⟨by omega, ?_⟩ : ((0 : Int) ≤ 7 ∧ (7 : Int) < 589) ∧ EvI X E_X8_count (102, [some (.inr (.inr (some (8, 0, 0)))), some (.inl w)], [.inl ((wri M 8 0 0 0 0) 17 0 0 7)], (wri M 8 0 0 0 0)) _)
    rw [show ((wri M 8 0 0 0 0) 17 0 0 7) = (S 1 0 4) from sc7 ((show RR ((wri M 8 0 0 0 0) 17 0 0) S by rw [wri_K (by decide)]; exact hW.1))]
    refine ev_rt (r := some (.inl (S 1 0 4))) rfl (?_)
    exact ⟨rint (((cif_f (by omega)).trans ((cif_f (by omega)).trans ((cif_f h6_0).trans ((cif_f h6_1).trans (cif_t h6))))).symm), rfl⟩
  refine ev_if (fun h6 => ?_) (fun h6_3 => ?_)
  · refine seg_ok 4 (⟨by omega, ?_⟩ : ((0 : Int) ≤ 10 ∧ (10 : Int) < 589) ∧ EvI X E_X8_count (110, [some (.inr (.inr (some (8, 0, 0)))), some (.inl w)], [.inl ((wri M 8 0 0 0 0) 17 0 0 10)], (wri M 8 0 0 0 0)) _)
    rw [show ((wri M 8 0 0 0 0) 17 0 0 10) = (S 1 0 5) from sc10 ((show RR ((wri M 8 0 0 0 0) 17 0 0) S by rw [wri_K (by decide)]; exact hW.1))]
    refine seg_ok 6 (⟨by omega, ?_⟩ : ((0 : Int) ≤ 10 ∧ (10 : Int) < 589) ∧ EvI X E_X8_count (119, [some (.inr (.inr (some (8, 0, 0)))), some (.inl w)], [.inl ((wri M 8 0 0 0 0) 17 0 0 10), .inl (andI (S 1 0 5) 1)], (wri M 8 0 0 0 0)) _)
    rw [show ((wri M 8 0 0 0 0) 17 0 0 10) = (S 1 0 5) from sc10 ((show RR ((wri M 8 0 0 0 0) 17 0 0) S by rw [wri_K (by decide)]; exact hW.1))]
    refine seg_ok 9 (⟨by omega, by omega, ?_⟩ : ((-2147483648 : Int) ≤ ((andI (S 1 0 5) 1) + (andI (shrI (S 1 0 5) 1) 1)) ∧ ((andI (S 1 0 5) 1) + (andI (shrI (S 1 0 5) 1) 1)) < 2147483648) ∧ ((0 : Int) ≤ 10 ∧ (10 : Int) < 589) ∧ EvI X E_X8_count (131, [some (.inr (.inr (some (8, 0, 0)))), some (.inl w)], [.inl ((wri M 8 0 0 0 0) 17 0 0 10), .inl ((andI (S 1 0 5) 1) + (andI (shrI (S 1 0 5) 1) 1))], (wri M 8 0 0 0 0)) _)
    rw [show ((wri M 8 0 0 0 0) 17 0 0 10) = (S 1 0 5) from sc10 ((show RR ((wri M 8 0 0 0 0) 17 0 0) S by rw [wri_K (by decide)]; exact hW.1))]
    refine seg_ok 9 (⟨by omega, by omega, ?_⟩ : ((-2147483648 : Int) ≤ (((andI (S 1 0 5) 1) + (andI (shrI (S 1 0 5) 1) 1)) + (andI (shrI (S 1 0 5) 2) 1)) ∧ (((andI (S 1 0 5) 1) + (andI (shrI (S 1 0 5) 1) 1)) + (andI (shrI (S 1 0 5) 2) 1)) < 2147483648) ∧ ((0 : Int) ≤ 10 ∧ (10 : Int) < 589) ∧ EvI X E_X8_count (143, [some (.inr (.inr (some (8, 0, 0)))), some (.inl w)], [.inl ((wri M 8 0 0 0 0) 17 0 0 10), .inl (((andI (S 1 0 5) 1) + (andI (shrI (S 1 0 5) 1) 1)) + (andI (shrI (S 1 0 5) 2) 1))], (wri M 8 0 0 0 0)) _)
    rw [show ((wri M 8 0 0 0 0) 17 0 0 10) = (S 1 0 5) from sc10 ((show RR ((wri M 8 0 0 0 0) 17 0 0) S by rw [wri_K (by decide)]; exact hW.1))]
    refine seg_ok 5 (⟨by omega, ?_⟩ : ((-2147483648 : Int) ≤ ((((andI (S 1 0 5) 1) + (andI (shrI (S 1 0 5) 1) 1)) + (andI (shrI (S 1 0 5) 2) 1)) + (andI (shrI (S 1 0 5) 3) 1)) ∧ ((((andI (S 1 0 5) 1) + (andI (shrI (S 1 0 5) 1) 1)) + (andI (shrI (S 1 0 5) 2) 1)) + (andI (shrI (S 1 0 5) 3) 1)) < 2147483648) ∧ EvI X E_X8_count (148, [some (.inr (.inr (some (8, 0, 0)))), some (.inl w)], [.inl ((((andI (S 1 0 5) 1) + (andI (shrI (S 1 0 5) 1) 1)) + (andI (shrI (S 1 0 5) 2) 1)) + (andI (shrI (S 1 0 5) 3) 1))], (wri M 8 0 0 0 0)) _)
    refine ev_rt (r := some (.inl ((((andI (S 1 0 5) 1) + (andI (shrI (S 1 0 5) 1) 1)) + (andI (shrI (S 1 0 5) 2) 1)) + (andI (shrI (S 1 0 5) 3) 1)))) rfl (?_)
    exact ⟨rint ((b_up hW.2).trans (((cif_f (by omega)).trans ((cif_f (by omega)).trans ((cif_f h6_0).trans ((cif_f h6_1).trans ((cif_f h6_2).trans (cif_t h6)))))).symm)), rfl⟩
  refine ev_if (fun h6 => ?_) (fun h6_4 => ?_)
  · refine seg_ok 4 (⟨by omega, ?_⟩ : ((0 : Int) ≤ 8 ∧ (8 : Int) < 589) ∧ EvI X E_X8_count (156, [some (.inr (.inr (some (8, 0, 0)))), some (.inl w)], [.inl ((wri M 8 0 0 0 0) 17 0 0 8)], (wri M 8 0 0 0 0)) _)
    rw [show ((wri M 8 0 0 0 0) 17 0 0 8) = (S 5 0 3) from sc8 ((show RR ((wri M 8 0 0 0 0) 17 0 0) S by rw [wri_K (by decide)]; exact hW.1))]
    refine ev_rt (r := some (.inl (S 5 0 3))) rfl (?_)
    exact ⟨rint (((cif_f (by omega)).trans ((cif_f (by omega)).trans ((cif_f h6_0).trans ((cif_f h6_1).trans ((cif_f h6_2).trans ((cif_f h6_3).trans (cif_t h6))))))).symm), rfl⟩
  refine ev_if (fun h6 => ?_) (fun h6_5 => ?_)
  · refine seg_ok 6 (⟨by omega, ?_⟩ : ((0 : Int) ≤ 8 ∧ (8 : Int) < 589) ∧ EvI X E_X8_count (168, [some (.inr (.inr (some (8, 0, 0)))), some (.inl w)], [.inl ((wri M 8 0 0 0 0) 17 0 0 8), .inl 389, .inr (.inr (some (8, 0, 0)))], (wri M 8 0 0 0 0)) _)
    rw [show ((wri M 8 0 0 0 0) 17 0 0 8) = (S 5 0 3) from sc8 ((show RR ((wri M 8 0 0 0 0) 17 0 0) S by rw [wri_K (by decide)]; exact hW.1))]
    refine seg_ok 1 (?_ : EvI X E_X8_count (169, [some (.inr (.inr (some (8, 0, 0)))), some (.inl w)], [.inl 0, .inl (S 5 0 3), .inl 389, .inr (.inr (some (8, 0, 0)))], (wri M 8 0 0 0 0)) _)
    refine ev_clp (v := .inl (sm (fun k => bi (S 3 k 0 = 0)) ((S 5 0 3)).toNat)) (z := z_X8_many) (as := [.inr (.inr (some (8, 0, 0))), .inl 389, .inl (S 5 0 3), .inl 0]) (rest := []) rfl (c_manyH hW0 (by omega)) (?_ : EvI X E_X8_count (172, [some (.inr (.inr (some (8, 0, 0)))), some (.inl w)], [.inl (sm (fun k => bi (S 3 k 0 = 0)) ((S 5 0 3)).toNat)], (wri M 8 0 0 0 0)) _)
    refine ev_rt (r := some (.inl (sm (fun k => bi (S 3 k 0 = 0)) ((S 5 0 3)).toNat))) rfl (?_)
    exact ⟨rint (((cif_f (by omega)).trans ((cif_f (by omega)).trans ((cif_f h6_0).trans ((cif_f h6_1).trans ((cif_f h6_2).trans ((cif_f h6_3).trans ((cif_f h6_4).trans (cif_t h6)))))))).symm), rfl⟩
  refine ev_if (fun h6 => ?_) (fun h6_6 => ?_)
  · refine seg_ok 4 (⟨by omega, ?_⟩ : ((0 : Int) ≤ 9 ∧ (9 : Int) < 589) ∧ EvI X E_X8_count (180, [some (.inr (.inr (some (8, 0, 0)))), some (.inl w)], [.inl ((wri M 8 0 0 0 0) 17 0 0 9)], (wri M 8 0 0 0 0)) _)
    rw [show ((wri M 8 0 0 0 0) 17 0 0 9) = (S 5 0 4) from sc9 ((show RR ((wri M 8 0 0 0 0) 17 0 0) S by rw [wri_K (by decide)]; exact hW.1))]
    refine ev_rt (r := some (.inl (S 5 0 4))) rfl (?_)
    exact ⟨rint (((cif_f (by omega)).trans ((cif_f (by omega)).trans ((cif_f h6_0).trans ((cif_f h6_1).trans ((cif_f h6_2).trans ((cif_f h6_3).trans ((cif_f h6_4).trans ((cif_f h6_5).trans (cif_t h6))))))))).symm), rfl⟩
  refine ev_if (fun h6 => ?_) (fun h6_7 => ?_)
  · refine seg_ok 6 (⟨by omega, ?_⟩ : ((0 : Int) ≤ 9 ∧ (9 : Int) < 589) ∧ EvI X E_X8_count (192, [some (.inr (.inr (some (8, 0, 0)))), some (.inl w)], [.inl ((wri M 8 0 0 0 0) 17 0 0 9), .inl 489, .inr (.inr (some (8, 0, 0)))], (wri M 8 0 0 0 0)) _)
    rw [show ((wri M 8 0 0 0 0) 17 0 0 9) = (S 5 0 4) from sc9 ((show RR ((wri M 8 0 0 0 0) 17 0 0) S by rw [wri_K (by decide)]; exact hW.1))]
    refine seg_ok 1 (?_ : EvI X E_X8_count (193, [some (.inr (.inr (some (8, 0, 0)))), some (.inl w)], [.inl 0, .inl (S 5 0 4), .inl 489, .inr (.inr (some (8, 0, 0)))], (wri M 8 0 0 0 0)) _)
    refine ev_clp (v := .inl (sm (fun k => bi (S 6 k 0 = 0)) ((S 5 0 4)).toNat)) (z := z_X8_many) (as := [.inr (.inr (some (8, 0, 0))), .inl 489, .inl (S 5 0 4), .inl 0]) (rest := []) rfl (c_manyT hW0 (by omega)) (?_ : EvI X E_X8_count (196, [some (.inr (.inr (some (8, 0, 0)))), some (.inl w)], [.inl (sm (fun k => bi (S 6 k 0 = 0)) ((S 5 0 4)).toNat)], (wri M 8 0 0 0 0)) _)
    refine ev_rt (r := some (.inl (sm (fun k => bi (S 6 k 0 = 0)) ((S 5 0 4)).toNat))) rfl (?_)
    exact ⟨rint (((cif_f (by omega)).trans ((cif_f (by omega)).trans ((cif_f h6_0).trans ((cif_f h6_1).trans ((cif_f h6_2).trans ((cif_f h6_3).trans ((cif_f h6_4).trans ((cif_f h6_5).trans ((cif_f h6_6).trans (cif_t h6)))))))))).symm), rfl⟩
  refine ev_if (fun h6 => ?_) (fun h6_8 => ?_)
  · refine seg_ok 4 (⟨by omega, ?_⟩ : ((0 : Int) ≤ 1 ∧ (1 : Int) < 589) ∧ EvI X E_X8_count (203, [some (.inr (.inr (some (8, 0, 0)))), some (.inl w)], [.inl ((wri M 8 0 0 0 0) 17 0 0 1)], (wri M 8 0 0 0 0)) _)
    rw [show ((wri M 8 0 0 0 0) 17 0 0 1) = (S 5 0 6) from sc1 ((show RR ((wri M 8 0 0 0 0) 17 0 0) S by rw [wri_K (by decide)]; exact hW.1))]
    refine ev_rt (r := some (.inl (S 5 0 6))) rfl (?_)
    exact ⟨rint (((cif_f (by omega)).trans ((cif_f (by omega)).trans ((cif_f h6_0).trans ((cif_f h6_1).trans ((cif_f h6_2).trans ((cif_f h6_3).trans ((cif_f h6_4).trans ((cif_f h6_5).trans ((cif_f h6_6).trans ((cif_f h6_7).trans (cif_t h6))))))))))).symm), rfl⟩
  refine ev_if (fun h6 => ?_) (fun h6_9 => ?_)
  · refine seg_ok 4 (⟨by omega, ?_⟩ : ((0 : Int) ≤ 2 ∧ (2 : Int) < 589) ∧ EvI X E_X8_count (210, [some (.inr (.inr (some (8, 0, 0)))), some (.inl w)], [.inl ((wri M 8 0 0 0 0) 17 0 0 2)], (wri M 8 0 0 0 0)) _)
    rw [show ((wri M 8 0 0 0 0) 17 0 0 2) = (S 5 0 7) from sc2 ((show RR ((wri M 8 0 0 0 0) 17 0 0) S by rw [wri_K (by decide)]; exact hW.1))]
    refine ev_rt (r := some (.inl (S 5 0 7))) rfl (?_)
    exact ⟨rint (((cif_f (by omega)).trans ((cif_f (by omega)).trans ((cif_f h6_0).trans ((cif_f h6_1).trans ((cif_f h6_2).trans ((cif_f h6_3).trans ((cif_f h6_4).trans ((cif_f h6_5).trans ((cif_f h6_6).trans ((cif_f h6_7).trans ((cif_f h6_8).trans (cif_t h6)))))))))))).symm), rfl⟩
  refine ev_if (fun h6 => ?_) (fun h6_10 => ?_)
  · refine seg_ok 4 (⟨by omega, ?_⟩ : ((0 : Int) ≤ 3 ∧ (3 : Int) < 589) ∧ EvI X E_X8_count (217, [some (.inr (.inr (some (8, 0, 0)))), some (.inl w)], [.inl ((wri M 8 0 0 0 0) 17 0 0 3)], (wri M 8 0 0 0 0)) _)
    rw [show ((wri M 8 0 0 0 0) 17 0 0 3) = (S 5 0 8) from sc3 ((show RR ((wri M 8 0 0 0 0) 17 0 0) S by rw [wri_K (by decide)]; exact hW.1))]
    refine ev_rt (r := some (.inl (S 5 0 8))) rfl (?_)
    exact ⟨rint (((cif_f (by omega)).trans ((cif_f (by omega)).trans ((cif_f h6_0).trans ((cif_f h6_1).trans ((cif_f h6_2).trans ((cif_f h6_3).trans ((cif_f h6_4).trans ((cif_f h6_5).trans ((cif_f h6_6).trans ((cif_f h6_7).trans ((cif_f h6_8).trans ((cif_f h6_9).trans (cif_t h6))))))))))))).symm), rfl⟩
  refine ev_if (fun h6 => ?_) (fun h6_11 => ?_)
  · refine seg_ok 4 (⟨by omega, ?_⟩ : ((0 : Int) ≤ 4 ∧ (4 : Int) < 589) ∧ EvI X E_X8_count (224, [some (.inr (.inr (some (8, 0, 0)))), some (.inl w)], [.inl (M 17 0 0 4)], (wri M 8 0 0 0 0)) _)
    refine ev_rt (r := some (.inl (M 17 0 0 4))) rfl (?_)
    exact ⟨rint ((show (wri M 8 0 0 0 0) 17 0 0 4 = sm (fun k => bi (S 6 k 0 = 3)) (S 5 0 4).toNat by rw [wri_K (by decide)]; exact hS).trans (((cif_f (by omega)).trans ((cif_f (by omega)).trans ((cif_f h6_0).trans ((cif_f h6_1).trans ((cif_f h6_2).trans ((cif_f h6_3).trans ((cif_f h6_4).trans ((cif_f h6_5).trans ((cif_f h6_6).trans ((cif_f h6_7).trans ((cif_f h6_8).trans ((cif_f h6_9).trans ((cif_f h6_10).trans (cif_t h6)))))))))))))).symm)), rfl⟩
  refine ev_if (fun h6 => ?_) (fun h6_12 => ?_)
  · refine seg_ok 4 (⟨by omega, ?_⟩ : ((0 : Int) ≤ 5 ∧ (5 : Int) < 589) ∧ EvI X E_X8_count (231, [some (.inr (.inr (some (8, 0, 0)))), some (.inl w)], [.inl ((wri M 8 0 0 0 0) 17 0 0 5)], (wri M 8 0 0 0 0)) _)
    rw [show ((wri M 8 0 0 0 0) 17 0 0 5) = (S 5 0 9) from sc5 ((show RR ((wri M 8 0 0 0 0) 17 0 0) S by rw [wri_K (by decide)]; exact hW.1))]
    refine ev_rt (r := some (.inl (S 5 0 9))) rfl (?_)
    exact ⟨rint (((cif_f (by omega)).trans ((cif_f (by omega)).trans ((cif_f h6_0).trans ((cif_f h6_1).trans ((cif_f h6_2).trans ((cif_f h6_3).trans ((cif_f h6_4).trans ((cif_f h6_5).trans ((cif_f h6_6).trans ((cif_f h6_7).trans ((cif_f h6_8).trans ((cif_f h6_9).trans ((cif_f h6_10).trans ((cif_f h6_11).trans (cif_t h6))))))))))))))).symm), rfl⟩
  refine ev_if (fun h6 => ?_) (fun h6_13 => ?_)
  · refine seg_ok 2 (?_ : EvI X E_X8_count (236, [some (.inr (.inr (some (8, 0, 0)))), some (.inl w)], [.inl ((wri M 8 0 0 0 0) 8 0 0 4)], (wri M 8 0 0 0 0)) _)
    rw [show ((wri M 8 0 0 0 0) 8 0 0 4) = (M 8 0 0 4) from wri_nes (by decide)]
    refine ev_rt (r := some (.inl (M 8 0 0 4))) rfl (?_)
    exact ⟨rint ((cif_t h6).symm), rfl⟩
  refine ev_if (fun h6 => ?_) (fun h6_14 => ?_)
  · refine seg_ok 2 (?_ : EvI X E_X8_count (241, [some (.inr (.inr (some (8, 0, 0)))), some (.inl w)], [.inl ((wri M 8 0 0 0 0) 8 0 0 6)], (wri M 8 0 0 0 0)) _)
    rw [show ((wri M 8 0 0 0 0) 8 0 0 6) = (M 8 0 0 6) from wri_nes (by decide)]
    refine ev_rt (r := some (.inl (M 8 0 0 6))) rfl (?_)
    exact ⟨rint (((cif_f (by omega)).trans (cif_t h6)).symm), rfl⟩
  refine seg_ok 1 (?_ : EvI X E_X8_count (243, [some (.inr (.inr (some (8, 0, 0)))), some (.inl w)], [.inl (-1)], (wri M 8 0 0 0 0)) _)
  refine ev_rt (r := some (.inl (-1))) rfl (?_)
  exact ⟨rint (((cif_f (by omega)).trans ((cif_f (by omega)).trans ((cif_f h6_0).trans ((cif_f h6_1).trans ((cif_f h6_2).trans ((cif_f h6_3).trans ((cif_f h6_4).trans ((cif_f h6_5).trans ((cif_f h6_6).trans ((cif_f h6_7).trans ((cif_f h6_8).trans ((cif_f h6_9).trans ((cif_f h6_10).trans ((cif_f h6_11).trans (cif_f h6_12))))))))))))))).symm), rfl⟩
set_option maxRecDepth 1830 in
theorem c_block {m : Int} {M : NM} {S : Sl} (hW : RW m M S) (hS : SHo (M 17 0 0) S) (hA : 0 ≤ M 8 0 0 4 ∧ M 8 0 0 4 ≤ 5) {b w : Int} : HT X z_X8_block [.inr (.inr (some (8, 0, 0))), .inl b, .inl w] M (fun rr MM => rr = some (.inl (bkF S b w)) ∧ MM = (wri M 8 0 0 0 0)) := by
  have hs := hW.1.1
  have hi := hW.2.1
  unfold Iv0 at hi
  have hW0 : RW m (wri M 8 0 0 0 0) S := RW_fr (wri_K (by decide)) hW
  refine ht_of (e := E_X8_block) rfl (?_ : EvI X E_X8_block (0, [some (.inr (.inr (some (8, 0, 0)))), some (.inl b), some (.inl w)], [], M) _)
  refine seg_ok 5 (?_ : EvI X E_X8_block (7, [some (.inr (.inr (some (8, 0, 0)))), some (.inl b), some (.inl w)], [.inl b, .inr (.inr (some (8, 0, 0)))], (wri M 8 0 0 0 0)) _)
  refine ev_clp (v := .inl (bi (0 ≤ b ∧ b < S 1 0 3))) (z := z_X8_isBlock) (as := [.inr (.inr (some (8, 0, 0))), .inl b]) (rest := []) rfl (c_isBlock hW0) (?_ : EvI X E_X8_block (10, [some (.inr (.inr (some (8, 0, 0)))), some (.inl b), some (.inl w)], [.inl (bi (0 ≤ b ∧ b < S 1 0 3))], (wri M 8 0 0 0 0)) _)
  refine seg_ok 1 (?_ : EvI X E_X8_block (if (bi (0 ≤ b ∧ b < S 1 0 3)) = 0 then 23 else 13, [some (.inr (.inr (some (8, 0, 0)))), some (.inl b), some (.inl w)], [], (wri M 8 0 0 0 0)) _)
  refine ev_ifb (fun h10 => ?_) (fun h10 => ?_)
  · refine seg_ok 1 (?_ : EvI X E_X8_block (24, [some (.inr (.inr (some (8, 0, 0)))), some (.inl b), some (.inl w)], [.inl (-1)], (wri M 8 0 0 0 0)) _)
    refine ev_rt (r := some (.inl (-1))) rfl (?_)
    exact ⟨rint ((cif_f (fun z => h10 z.1)).symm), rfl⟩
  · refine seg_ok 3 (?_ : EvI X E_X8_block (17, [some (.inr (.inr (some (8, 0, 0)))), some (.inl b), some (.inl w)], [.inl 8, .inl 0, .inl w], (wri M 8 0 0 0 0)) _)
    refine ev_clp (v := .inl (bi (0 ≤ w ∧ w ≤ 8))) (z := z_X8_in) (as := [.inl w, .inl 0, .inl 8]) (rest := []) rfl c_in (?_ : EvI X E_X8_block (20, [some (.inr (.inr (some (8, 0, 0)))), some (.inl b), some (.inl w)], [.inl (bi (0 ≤ w ∧ w ≤ 8))], (wri M 8 0 0 0 0)) _)
    refine seg_ok 1 (?_ : EvI X E_X8_block (if (bi (0 ≤ w ∧ w ≤ 8)) = 0 then 23 else 25, [some (.inr (.inr (some (8, 0, 0)))), some (.inl b), some (.inl w)], [], (wri M 8 0 0 0 0)) _)
    refine ev_ifb (fun h20 => ?_) (fun h20 => ?_)
    · refine seg_ok 1 (?_ : EvI X E_X8_block (24, [some (.inr (.inr (some (8, 0, 0)))), some (.inl b), some (.inl w)], [.inl (-1)], (wri M 8 0 0 0 0)) _)
      refine ev_rt (r := some (.inl (-1))) rfl (?_)
      exact ⟨rint ((cif_f (fun z => h20 z.2)).symm), rfl⟩
    · refine seg_ok 3 (?_ : EvI X E_X8_block (if w < 6 then 31 else 40, [some (.inr (.inr (some (8, 0, 0)))), some (.inl b), some (.inl w)], [], (wri M 8 0 0 0 0)) _)
      refine ev_if (fun h28 => ?_) (fun h28 => ?_)
      · refine seg_ok 3 (?_ : EvI X E_X8_block (34, [some (.inr (.inr (some (8, 0, 0)))), some (.inl b), some (.inl w)], [.inl w, .inl b, .inr (.inr (some (8, 0, 0)))], (wri M 8 0 0 0 0)) _)
        refine ev_clp (v := .inl (ct S b (fun c => w = 0 ∨ isN S c = w))) (z := z_X8_counted) (as := [.inr (.inr (some (8, 0, 0))), .inl b, .inl w]) (rest := []) rfl (c_counted hW0 (by omega)) (?_ : EvI X E_X8_block (37, [some (.inr (.inr (some (8, 0, 0)))), some (.inl b), some (.inl w)], [.inl (ct S b (fun c => w = 0 ∨ isN S c = w))], (wri M 8 0 0 0 0)) _)
        refine seg_ok 1 (?_ : EvI X E_X8_block (74, [some (.inr (.inr (some (8, 0, 0)))), some (.inl b), some (.inl w)], [.inl (ct S b (fun c => w = 0 ∨ isN S c = w))], (wri M 8 0 0 0 0)) _)
        refine ev_rt (r := some (.inl (ct S b (fun c => w = 0 ∨ isN S c = w)))) rfl (?_)
        exact ⟨rint ((bkF_lt h10 ⟨h20.1, h28⟩).symm), rfl⟩
      · refine seg_ok 3 (?_ : EvI X E_X8_block (if w = 6 then 46 else 54, [some (.inr (.inr (some (8, 0, 0)))), some (.inl b), some (.inl w)], [], (wri M 8 0 0 0 0)) _)
        refine ev_if (fun h43 => ?_) (fun h43 => ?_)
        · refine seg_ok 2 (?_ : EvI X E_X8_block (48, [some (.inr (.inr (some (8, 0, 0)))), some (.inl b), some (.inl w)], [.inl b, .inr (.inr (some (8, 0, 0)))], (wri M 8 0 0 0 0)) _)
          refine ev_clp (v := .inl (rk S b)) (z := z_X8_rank) (as := [.inr (.inr (some (8, 0, 0))), .inl b]) (rest := []) rfl (c_rank hW0 (by omega)) (?_ : EvI X E_X8_block (51, [some (.inr (.inr (some (8, 0, 0)))), some (.inl b), some (.inl w)], [.inl (rk S b)], (wri M 8 0 0 0 0)) _)
          refine seg_ok 1 (?_ : EvI X E_X8_block (74, [some (.inr (.inr (some (8, 0, 0)))), some (.inl b), some (.inl w)], [.inl (rk S b)], (wri M 8 0 0 0 0)) _)
          refine ev_rt (r := some (.inl (rk S b))) rfl (?_)
          exact ⟨rint ((bkF_6 h10 h43).symm), rfl⟩
        · refine seg_ok 3 (?_ : EvI X E_X8_block (if w = 7 then 60 else 69, [some (.inr (.inr (some (8, 0, 0)))), some (.inl b), some (.inl w)], [], (wri M 8 0 0 0 0)) _)
          refine ev_if (fun h57 => ?_) (fun h57 => ?_)
          · refine seg_ok 3 (?_ : EvI X E_X8_block (63, [some (.inr (.inr (some (8, 0, 0)))), some (.inl b), some (.inl w)], [.inl 2, .inl b, .inr (.inr (some (8, 0, 0)))], (wri M 8 0 0 0 0)) _)
            refine ev_clp (v := .inl (S 0 b 2)) (z := z_X8_of) (as := [.inr (.inr (some (8, 0, 0))), .inl b, .inl 2]) (rest := []) rfl (c_of (show RR ((wri M 8 0 0 0 0) 17 0 0) S by rw [wri_K (by decide)]; exact hW.1) (by omega) (by omega)) (?_ : EvI X E_X8_block (66, [some (.inr (.inr (some (8, 0, 0)))), some (.inl b), some (.inl w)], [.inl (S 0 b 2)], (wri M 8 0 0 0 0)) _)
            refine seg_ok 1 (?_ : EvI X E_X8_block (74, [some (.inr (.inr (some (8, 0, 0)))), some (.inl b), some (.inl w)], [.inl (S 0 b 2)], (wri M 8 0 0 0 0)) _)
            refine ev_rt (r := some (.inl (S 0 b 2))) rfl (?_)
            exact ⟨rint ((bkF_7 h10 h57).symm), rfl⟩
          · refine seg_ok 2 (?_ : EvI X E_X8_block (71, [some (.inr (.inr (some (8, 0, 0)))), some (.inl b), some (.inl w)], [.inl b, .inr (.inr (some (8, 0, 0)))], (wri M 8 0 0 0 0)) _)
            refine ev_clp (v := .inl (gN S b 10)) (z := z_X8_greatest) (as := [.inr (.inr (some (8, 0, 0))), .inl b]) (rest := []) rfl (c_greatest hW0 (by omega)) (?_ : EvI X E_X8_block (74, [some (.inr (.inr (some (8, 0, 0)))), some (.inl b), some (.inl w)], [.inl (gN S b 10)], (wri M 8 0 0 0 0)) _)
            refine ev_rt (r := some (.inl (gN S b 10))) rfl (?_)
            exact ⟨rint ((bkF_8 h10 (by omega)).symm), rfl⟩
theorem c_chair {m : Int} {M : NM} {S : Sl} (hW : RW m M S) (hS : SHo (M 17 0 0) S) (hA : 0 ≤ M 8 0 0 4 ∧ M 8 0 0 4 ≤ 5) {c : Int} : HT X z_X8_chair [.inr (.inr (some (8, 0, 0))), .inl c] M (fun rr MM => rr = some (.inl (chS S c)) ∧ MM = (wri M 8 0 0 0 0)) := by
  have hs := hW.1.1
  have hi := hW.2.1
  unfold Iv0 at hi
  have hW0 : RW m (wri M 8 0 0 0 0) S := RW_fr (wri_K (by decide)) hW
  refine ht_of (e := E_X8_chair) rfl (?_ : EvI X E_X8_chair (0, [some (.inr (.inr (some (8, 0, 0)))), some (.inl c)], [], M) _)
  refine seg_ok 5 (?_ : EvI X E_X8_chair (7, [some (.inr (.inr (some (8, 0, 0)))), some (.inl c)], [.inl c, .inr (.inr (some (8, 0, 0)))], (wri M 8 0 0 0 0)) _)
  refine ev_clp (v := .inl (bi (isCh S c))) (z := z_X8_isChair) (as := [.inr (.inr (some (8, 0, 0))), .inl c]) (rest := []) rfl (c_isChair hW0) (?_ : EvI X E_X8_chair (10, [some (.inr (.inr (some (8, 0, 0)))), some (.inl c)], [.inl (bi (isCh S c))], (wri M 8 0 0 0 0)) _)
  refine seg_ok 1 (?_ : EvI X E_X8_chair (if (bi (isCh S c)) = 0 then 13 else 17, [some (.inr (.inr (some (8, 0, 0)))), some (.inl c)], [], (wri M 8 0 0 0 0)) _)
  refine ev_ifb (fun h10 => ?_) (fun h10 => ?_)
  · refine seg_ok 2 (?_ : EvI X E_X8_chair (37, [some (.inr (.inr (some (8, 0, 0)))), some (.inl c)], [.inl (-1)], (wri M 8 0 0 0 0)) _)
    refine ev_rt (r := some (.inl (-1))) rfl (?_)
    exact ⟨rint ((cif_f h10).symm), rfl⟩
  · have k5 := isCh_r hW.2 h10
    have k6 := hW.2.2.2.1 c k5.1 k5.2.1
    refine seg_ok 2 (?_ : EvI X E_X8_chair (19, [some (.inr (.inr (some (8, 0, 0)))), some (.inl c)], [.inl c, .inr (.inr (some (8, 0, 0)))], (wri M 8 0 0 0 0)) _)
    refine ev_clp (v := .inl (S 13 0 c)) (z := z_X8_isWhat) (as := [.inr (.inr (some (8, 0, 0))), .inl c]) (rest := []) rfl (c_isWhat hW0 (by omega)) (?_ : EvI X E_X8_chair (22, [some (.inr (.inr (some (8, 0, 0)))), some (.inl c)], [.inl (S 13 0 c)], (wri M 8 0 0 0 0)) _)
    refine seg_ok 2 (?_ : EvI X E_X8_chair (24, [some (.inr (.inr (some (8, 0, 0)))), some (.inl c)], [.inl c, .inr (.inr (some (8, 0, 0))), .inl (S 13 0 c)], (wri M 8 0 0 0 0)) _)
    refine ev_clp (v := .inl (bi (kl S c))) (z := z_X8_isKilled) (as := [.inr (.inr (some (8, 0, 0))), .inl c]) (rest := [.inl (S 13 0 c)]) rfl (c_isKilled hW0 (by omega)) (?_ : EvI X E_X8_chair (27, [some (.inr (.inr (some (8, 0, 0)))), some (.inl c)], [.inl (bi (kl S c)), .inl (S 13 0 c)], (wri M 8 0 0 0 0)) _)
    refine seg_ok 1 (?_ : EvI X E_X8_chair (if (bi (kl S c)) = 0 then 35 else 30, [some (.inr (.inr (some (8, 0, 0)))), some (.inl c)], [.inl (S 13 0 c)], (wri M 8 0 0 0 0)) _)
    refine ev_ifb (fun h27 => ?_) (fun h27 => ?_)
    · refine seg_ok 2 (⟨by omega, ?_⟩ : ((-2147483648 : Int) ≤ ((S 13 0 c) + 0) ∧ ((S 13 0 c) + 0) < 2147483648) ∧ EvI X E_X8_chair (37, [some (.inr (.inr (some (8, 0, 0)))), some (.inl c)], [.inl ((S 13 0 c) + 0)], (wri M 8 0 0 0 0)) _)
      refine ev_rt (r := some (.inl ((S 13 0 c) + 0))) rfl (?_)
      exact ⟨rint (by rw [chS, cif_t h10, cif_f h27]), rfl⟩
    · refine seg_ok 3 (⟨by omega, ?_⟩ : ((-2147483648 : Int) ≤ ((S 13 0 c) + 10) ∧ ((S 13 0 c) + 10) < 2147483648) ∧ EvI X E_X8_chair (37, [some (.inr (.inr (some (8, 0, 0)))), some (.inl c)], [.inl ((S 13 0 c) + 10)], (wri M 8 0 0 0 0)) _)
      refine ev_rt (r := some (.inl ((S 13 0 c) + 10))) rfl (?_)
      exact ⟨rint (by rw [chS, cif_t h10, cif_t h27]), rfl⟩
theorem c_holdOf {m : Int} {M : NM} {S : Sl} (hW : RW m M S) (hS : SHo (M 17 0 0) S) (hA : 0 ≤ M 8 0 0 4 ∧ M 8 0 0 4 ≤ 5) {b w : Int} : HT X z_X8_holdOf [.inr (.inr (some (8, 0, 0))), .inl b, .inl w] M (fun rr MM => rr = some (.inl (cif ((0 ≤ b ∧ b < S 5 0 3) ∧ (0 ≤ w ∧ w ≤ 4)) (S 3 b w) (-1))) ∧ MM = (wri M 8 0 0 0 0)) := by
  have hs := hW.1.1
  have hi := hW.2.1
  unfold Iv0 at hi
  have hW0 : RW m (wri M 8 0 0 0 0) S := RW_fr (wri_K (by decide)) hW
  refine ht_of (e := E_X8_holdOf) rfl (?_ : EvI X E_X8_holdOf (0, [some (.inr (.inr (some (8, 0, 0)))), some (.inl b), some (.inl w)], [], M) _)
  refine seg_ok 5 (?_ : EvI X E_X8_holdOf (7, [some (.inr (.inr (some (8, 0, 0)))), some (.inl b), some (.inl w)], [.inl b, .inr (.inr (some (8, 0, 0)))], (wri M 8 0 0 0 0)) _)
  refine ev_clp (v := .inl (bi (0 ≤ b ∧ b < S 5 0 3))) (z := z_X8_isHold) (as := [.inr (.inr (some (8, 0, 0))), .inl b]) (rest := []) rfl (c_isHold hW0) (?_ : EvI X E_X8_holdOf (10, [some (.inr (.inr (some (8, 0, 0)))), some (.inl b), some (.inl w)], [.inl (bi (0 ≤ b ∧ b < S 5 0 3))], (wri M 8 0 0 0 0)) _)
  refine seg_ok 1 (?_ : EvI X E_X8_holdOf (if (bi (0 ≤ b ∧ b < S 5 0 3)) = 0 then 31 else 13, [some (.inr (.inr (some (8, 0, 0)))), some (.inl b), some (.inl w)], [], (wri M 8 0 0 0 0)) _)
  refine ev_ifb (fun h10 => ?_) (fun h10 => ?_)
  · refine seg_ok 1 (?_ : EvI X E_X8_holdOf (32, [some (.inr (.inr (some (8, 0, 0)))), some (.inl b), some (.inl w)], [.inl (-1)], (wri M 8 0 0 0 0)) _)
    refine ev_rt (r := some (.inl (-1))) rfl (?_)
    exact ⟨rint ((cA_1 h10).symm), rfl⟩
  · refine seg_ok 3 (?_ : EvI X E_X8_holdOf (16, [some (.inr (.inr (some (8, 0, 0)))), some (.inl b), some (.inl w)], [.inl 4, .inl 0, .inl w], (wri M 8 0 0 0 0)) _)
    refine ev_clp (v := .inl (bi (0 ≤ w ∧ w ≤ 4))) (z := z_X8_in) (as := [.inl w, .inl 0, .inl 4]) (rest := []) rfl c_in (?_ : EvI X E_X8_holdOf (19, [some (.inr (.inr (some (8, 0, 0)))), some (.inl b), some (.inl w)], [.inl (bi (0 ≤ w ∧ w ≤ 4))], (wri M 8 0 0 0 0)) _)
    refine seg_ok 1 (?_ : EvI X E_X8_holdOf (if (bi (0 ≤ w ∧ w ≤ 4)) = 0 then 31 else 22, [some (.inr (.inr (some (8, 0, 0)))), some (.inl b), some (.inl w)], [], (wri M 8 0 0 0 0)) _)
    refine ev_ifb (fun h19 => ?_) (fun h19 => ?_)
    · refine seg_ok 1 (?_ : EvI X E_X8_holdOf (32, [some (.inr (.inr (some (8, 0, 0)))), some (.inl b), some (.inl w)], [.inl (-1)], (wri M 8 0 0 0 0)) _)
      refine ev_rt (r := some (.inl (-1))) rfl (?_)
      exact ⟨rint ((cA_2 h19).symm), rfl⟩
    · refine seg_ok 3 (?_ : EvI X E_X8_holdOf (25, [some (.inr (.inr (some (8, 0, 0)))), some (.inl b), some (.inl w)], [.inl w, .inl b, .inr (.inr (some (8, 0, 0)))], (wri M 8 0 0 0 0)) _)
      refine ev_clp (v := .inl (S 3 b w)) (z := z_X8_ofHold) (as := [.inr (.inr (some (8, 0, 0))), .inl b, .inl w]) (rest := []) rfl (c_ofHold (show RR ((wri M 8 0 0 0 0) 17 0 0) S by rw [wri_K (by decide)]; exact hW.1) (by omega) (by omega)) (?_ : EvI X E_X8_holdOf (28, [some (.inr (.inr (some (8, 0, 0)))), some (.inl b), some (.inl w)], [.inl (S 3 b w)], (wri M 8 0 0 0 0)) _)
      refine seg_ok 1 (?_ : EvI X E_X8_holdOf (32, [some (.inr (.inr (some (8, 0, 0)))), some (.inl b), some (.inl w)], [.inl (S 3 b w)], (wri M 8 0 0 0 0)) _)
      refine ev_rt (r := some (.inl (S 3 b w))) rfl (?_)
      exact ⟨rint ((cA_t h10 h19).symm), rfl⟩
theorem c_ticket {m : Int} {M : NM} {S : Sl} (hW : RW m M S) (hS : SHo (M 17 0 0) S) (hA : 0 ≤ M 8 0 0 4 ∧ M 8 0 0 4 ≤ 5) {b w : Int} : HT X z_X8_ticket [.inr (.inr (some (8, 0, 0))), .inl b, .inl w] M (fun rr MM => rr = some (.inl (cif ((0 ≤ b ∧ b < S 5 0 4) ∧ (0 ≤ w ∧ w ≤ 4)) (S 6 b w) (-1))) ∧ MM = (wri M 8 0 0 0 0)) := by
  have hs := hW.1.1
  have hi := hW.2.1
  unfold Iv0 at hi
  have hW0 : RW m (wri M 8 0 0 0 0) S := RW_fr (wri_K (by decide)) hW
  refine ht_of (e := E_X8_ticket) rfl (?_ : EvI X E_X8_ticket (0, [some (.inr (.inr (some (8, 0, 0)))), some (.inl b), some (.inl w)], [], M) _)
  refine seg_ok 5 (?_ : EvI X E_X8_ticket (7, [some (.inr (.inr (some (8, 0, 0)))), some (.inl b), some (.inl w)], [.inl b, .inr (.inr (some (8, 0, 0)))], (wri M 8 0 0 0 0)) _)
  refine ev_clp (v := .inl (bi (0 ≤ b ∧ b < S 5 0 4))) (z := z_X8_isTicket) (as := [.inr (.inr (some (8, 0, 0))), .inl b]) (rest := []) rfl (c_isTicket hW0) (?_ : EvI X E_X8_ticket (10, [some (.inr (.inr (some (8, 0, 0)))), some (.inl b), some (.inl w)], [.inl (bi (0 ≤ b ∧ b < S 5 0 4))], (wri M 8 0 0 0 0)) _)
  refine seg_ok 1 (?_ : EvI X E_X8_ticket (if (bi (0 ≤ b ∧ b < S 5 0 4)) = 0 then 31 else 13, [some (.inr (.inr (some (8, 0, 0)))), some (.inl b), some (.inl w)], [], (wri M 8 0 0 0 0)) _)
  refine ev_ifb (fun h10 => ?_) (fun h10 => ?_)
  · refine seg_ok 1 (?_ : EvI X E_X8_ticket (32, [some (.inr (.inr (some (8, 0, 0)))), some (.inl b), some (.inl w)], [.inl (-1)], (wri M 8 0 0 0 0)) _)
    refine ev_rt (r := some (.inl (-1))) rfl (?_)
    exact ⟨rint ((cA_1 h10).symm), rfl⟩
  · refine seg_ok 3 (?_ : EvI X E_X8_ticket (16, [some (.inr (.inr (some (8, 0, 0)))), some (.inl b), some (.inl w)], [.inl 4, .inl 0, .inl w], (wri M 8 0 0 0 0)) _)
    refine ev_clp (v := .inl (bi (0 ≤ w ∧ w ≤ 4))) (z := z_X8_in) (as := [.inl w, .inl 0, .inl 4]) (rest := []) rfl c_in (?_ : EvI X E_X8_ticket (19, [some (.inr (.inr (some (8, 0, 0)))), some (.inl b), some (.inl w)], [.inl (bi (0 ≤ w ∧ w ≤ 4))], (wri M 8 0 0 0 0)) _)
    refine seg_ok 1 (?_ : EvI X E_X8_ticket (if (bi (0 ≤ w ∧ w ≤ 4)) = 0 then 31 else 22, [some (.inr (.inr (some (8, 0, 0)))), some (.inl b), some (.inl w)], [], (wri M 8 0 0 0 0)) _)
    refine ev_ifb (fun h19 => ?_) (fun h19 => ?_)
    · refine seg_ok 1 (?_ : EvI X E_X8_ticket (32, [some (.inr (.inr (some (8, 0, 0)))), some (.inl b), some (.inl w)], [.inl (-1)], (wri M 8 0 0 0 0)) _)
      refine ev_rt (r := some (.inl (-1))) rfl (?_)
      exact ⟨rint ((cA_2 h19).symm), rfl⟩
    · refine seg_ok 3 (?_ : EvI X E_X8_ticket (25, [some (.inr (.inr (some (8, 0, 0)))), some (.inl b), some (.inl w)], [.inl w, .inl b, .inr (.inr (some (8, 0, 0)))], (wri M 8 0 0 0 0)) _)
      refine ev_clp (v := .inl (S 6 b w)) (z := z_X8_ofTicket) (as := [.inr (.inr (some (8, 0, 0))), .inl b, .inl w]) (rest := []) rfl (c_ofTicket (show RR ((wri M 8 0 0 0 0) 17 0 0) S by rw [wri_K (by decide)]; exact hW.1) (by omega) (by omega)) (?_ : EvI X E_X8_ticket (28, [some (.inr (.inr (some (8, 0, 0)))), some (.inl b), some (.inl w)], [.inl (S 6 b w)], (wri M 8 0 0 0 0)) _)
      refine seg_ok 1 (?_ : EvI X E_X8_ticket (32, [some (.inr (.inr (some (8, 0, 0)))), some (.inl b), some (.inl w)], [.inl (S 6 b w)], (wri M 8 0 0 0 0)) _)
      refine ev_rt (r := some (.inl (S 6 b w))) rfl (?_)
      exact ⟨rint ((cA_t h10 h19).symm), rfl⟩
theorem c_place {m : Int} {M : NM} {S : Sl} (hW : RW m M S) (hS : SHo (M 17 0 0) S) (hA : 0 ≤ M 8 0 0 4 ∧ M 8 0 0 4 ≤ 5) {b n : Int} : HT X z_X8_place [.inr (.inr (some (8, 0, 0))), .inl b, .inl n] M (fun rr MM => rr = some (.inl (cif ((0 ≤ b ∧ b < S 1 0 3) ∧ (1 ≤ n ∧ n ≤ 10)) (pl S b n) (-1))) ∧ MM = (wri M 8 0 0 0 0)) := by
  have hs := hW.1.1
  have hi := hW.2.1
  unfold Iv0 at hi
  have hW0 : RW m (wri M 8 0 0 0 0) S := RW_fr (wri_K (by decide)) hW
  refine ht_of (e := E_X8_place) rfl (?_ : EvI X E_X8_place (0, [some (.inr (.inr (some (8, 0, 0)))), some (.inl b), some (.inl n)], [], M) _)
  refine seg_ok 5 (?_ : EvI X E_X8_place (7, [some (.inr (.inr (some (8, 0, 0)))), some (.inl b), some (.inl n)], [.inl b, .inr (.inr (some (8, 0, 0)))], (wri M 8 0 0 0 0)) _)
  refine ev_clp (v := .inl (bi (0 ≤ b ∧ b < S 1 0 3))) (z := z_X8_isBlock) (as := [.inr (.inr (some (8, 0, 0))), .inl b]) (rest := []) rfl (c_isBlock hW0) (?_ : EvI X E_X8_place (10, [some (.inr (.inr (some (8, 0, 0)))), some (.inl b), some (.inl n)], [.inl (bi (0 ≤ b ∧ b < S 1 0 3))], (wri M 8 0 0 0 0)) _)
  refine seg_ok 1 (?_ : EvI X E_X8_place (if (bi (0 ≤ b ∧ b < S 1 0 3)) = 0 then 32 else 13, [some (.inr (.inr (some (8, 0, 0)))), some (.inl b), some (.inl n)], [], (wri M 8 0 0 0 0)) _)
  refine ev_ifb (fun h10 => ?_) (fun h10 => ?_)
  · refine seg_ok 1 (?_ : EvI X E_X8_place (33, [some (.inr (.inr (some (8, 0, 0)))), some (.inl b), some (.inl n)], [.inl (-1)], (wri M 8 0 0 0 0)) _)
    refine ev_rt (r := some (.inl (-1))) rfl (?_)
    exact ⟨rint ((cA_1 h10).symm), rfl⟩
  · refine seg_ok 3 (?_ : EvI X E_X8_place (17, [some (.inr (.inr (some (8, 0, 0)))), some (.inl b), some (.inl n)], [.inl 10, .inl 1, .inl n], (wri M 8 0 0 0 0)) _)
    refine ev_clp (v := .inl (bi (1 ≤ n ∧ n ≤ 10))) (z := z_X8_in) (as := [.inl n, .inl 1, .inl 10]) (rest := []) rfl c_in (?_ : EvI X E_X8_place (20, [some (.inr (.inr (some (8, 0, 0)))), some (.inl b), some (.inl n)], [.inl (bi (1 ≤ n ∧ n ≤ 10))], (wri M 8 0 0 0 0)) _)
    refine seg_ok 1 (?_ : EvI X E_X8_place (if (bi (1 ≤ n ∧ n ≤ 10)) = 0 then 32 else 23, [some (.inr (.inr (some (8, 0, 0)))), some (.inl b), some (.inl n)], [], (wri M 8 0 0 0 0)) _)
    refine ev_ifb (fun h20 => ?_) (fun h20 => ?_)
    · refine seg_ok 1 (?_ : EvI X E_X8_place (33, [some (.inr (.inr (some (8, 0, 0)))), some (.inl b), some (.inl n)], [.inl (-1)], (wri M 8 0 0 0 0)) _)
      refine ev_rt (r := some (.inl (-1))) rfl (?_)
      exact ⟨rint ((cA_2 h20).symm), rfl⟩
    · refine seg_ok 3 (?_ : EvI X E_X8_place (26, [some (.inr (.inr (some (8, 0, 0)))), some (.inl b), some (.inl n)], [.inl n, .inl b, .inr (.inr (some (8, 0, 0)))], (wri M 8 0 0 0 0)) _)
      refine ev_clp (v := .inl (pl S b n)) (z := z_X8_placeIn) (as := [.inr (.inr (some (8, 0, 0))), .inl b, .inl n]) (rest := []) rfl (c_placeIn hW0 (by omega) (by omega)) (?_ : EvI X E_X8_place (29, [some (.inr (.inr (some (8, 0, 0)))), some (.inl b), some (.inl n)], [.inl (pl S b n)], (wri M 8 0 0 0 0)) _)
      refine seg_ok 1 (?_ : EvI X E_X8_place (33, [some (.inr (.inr (some (8, 0, 0)))), some (.inl b), some (.inl n)], [.inl (pl S b n)], (wri M 8 0 0 0 0)) _)
      refine ev_rt (r := some (.inl (pl S b n))) rfl (?_)
      exact ⟨rint ((cA_t h10 h20).symm), rfl⟩
theorem c_wouldKill {m : Int} {M : NM} {S : Sl} (hW : RW m M S) (hS : SHo (M 17 0 0) S) (hA : 0 ≤ M 8 0 0 4 ∧ M 8 0 0 4 ≤ 5) {x : Int} : HT X z_X8_wouldKill [.inr (.inr (some (8, 0, 0))), .inl x] M (fun rr MM => rr = some (.inl (nkF S x)) ∧ MM = (wri M 8 0 0 0 0)) := by
  have hs := hW.1.1
  have hi := hW.2.1
  unfold Iv0 at hi
  have hW0 : RW m (wri M 8 0 0 0 0) S := RW_fr (wri_K (by decide)) hW
  refine ht_of (e := E_X8_wouldKill) rfl (?_ : EvI X E_X8_wouldKill (0, [some (.inr (.inr (some (8, 0, 0)))), some (.inl x)], [], M) _)
  refine seg_ok 5 (?_ : EvI X E_X8_wouldKill (7, [some (.inr (.inr (some (8, 0, 0)))), some (.inl x)], [.inl x, .inr (.inr (some (8, 0, 0)))], (wri M 8 0 0 0 0)) _)
  refine ev_clp (v := .inl (bi (0 ≤ x ∧ x < S 1 0 4))) (z := z_X8_isStage) (as := [.inr (.inr (some (8, 0, 0))), .inl x]) (rest := []) rfl (c_isStage hW0) (?_ : EvI X E_X8_wouldKill (10, [some (.inr (.inr (some (8, 0, 0)))), some (.inl x)], [.inl (bi (0 ≤ x ∧ x < S 1 0 4))], (wri M 8 0 0 0 0)) _)
  refine seg_ok 1 (?_ : EvI X E_X8_wouldKill (if (bi (0 ≤ x ∧ x < S 1 0 4)) = 0 then 23 else 13, [some (.inr (.inr (some (8, 0, 0)))), some (.inl x)], [], (wri M 8 0 0 0 0)) _)
  refine ev_ifb (fun h10 => ?_) (fun h10 => ?_)
  · refine seg_ok 1 (?_ : EvI X E_X8_wouldKill (24, [some (.inr (.inr (some (8, 0, 0)))), some (.inl x)], [.inl (-1)], (wri M 8 0 0 0 0)) _)
    refine ev_rt (r := some (.inl (-1))) rfl (?_)
    exact ⟨rint ((cif_f h10).symm), rfl⟩
  · refine seg_ok 4 (?_ : EvI X E_X8_wouldKill (17, [some (.inr (.inr (some (8, 0, 0)))), some (.inl x)], [.inl 0, .inl 1, .inl x, .inr (.inr (some (8, 0, 0)))], (wri M 8 0 0 0 0)) _)
    refine ev_clp (v := .inl (ctA S (fun c => fo S x c ∧ ¬ ((1 : Int) ≠ 0 ∧ kl S c) ∧ ¬ ((0 : Int) ≠ 0 ∧ S 13 0 c = 0)))) (z := z_X8_killedBy) (as := [.inr (.inr (some (8, 0, 0))), .inl x, .inl 1, .inl 0]) (rest := []) rfl (c_killedBy hW0 (by omega)) (?_ : EvI X E_X8_wouldKill (20, [some (.inr (.inr (some (8, 0, 0)))), some (.inl x)], [.inl (ctA S (fun c => fo S x c ∧ ¬ ((1 : Int) ≠ 0 ∧ kl S c) ∧ ¬ ((0 : Int) ≠ 0 ∧ S 13 0 c = 0)))], (wri M 8 0 0 0 0)) _)
    refine seg_ok 1 (?_ : EvI X E_X8_wouldKill (24, [some (.inr (.inr (some (8, 0, 0)))), some (.inl x)], [.inl (ctA S (fun c => fo S x c ∧ ¬ ((1 : Int) ≠ 0 ∧ kl S c) ∧ ¬ ((0 : Int) ≠ 0 ∧ S 13 0 c = 0)))], (wri M 8 0 0 0 0)) _)
    refine ev_rt (r := some (.inl (ctA S (fun c => fo S x c ∧ ¬ ((1 : Int) ≠ 0 ∧ kl S c) ∧ ¬ ((0 : Int) ≠ 0 ∧ S 13 0 c = 0))))) rfl (?_)
    exact ⟨rint (by rw [nkF, cif_t h10]; exact ctA_cg hW.2 (fun c _ => ⟨fun z => ⟨z.1, fun y => z.2.1 ⟨by decide, y⟩⟩, fun z => ⟨z.1, fun y => z.2 y.2, fun y => y.1 rfl⟩⟩)), rfl⟩
set_option maxRecDepth 2160 in
theorem c_cheapest {m : Int} {M : NM} {S : Sl} (hW : RW m M S) (hS : SHo (M 17 0 0) S) (hA : 0 ≤ M 8 0 0 4 ∧ M 8 0 0 4 ≤ 5) {n : Int} : HT X z_X8_cheapest [.inr (.inr (some (8, 0, 0))), .inl n] M (fun rr MM => rr = some (.inl (cif (1 ≤ n ∧ n ≤ 10) (chN S n (S 1 0 3).toNat) (-1))) ∧ MM = (wri M 8 0 0 0 0)) := by
  have hs := hW.1.1
  have hi := hW.2.1
  unfold Iv0 at hi
  have hW0 : RW m (wri M 8 0 0 0 0) S := RW_fr (wri_K (by decide)) hW
  refine ht_of (e := E_X8_cheapest) rfl (?_ : EvI X E_X8_cheapest (0, [some (.inr (.inr (some (8, 0, 0)))), some (.inl n), none, none, none], [], M) _)
  refine seg_ok 6 (?_ : EvI X E_X8_cheapest (9, [some (.inr (.inr (some (8, 0, 0)))), some (.inl n), none, none, none], [.inl 10, .inl 1, .inl n], (wri M 8 0 0 0 0)) _)
  refine ev_clp (v := .inl (bi (1 ≤ n ∧ n ≤ 10))) (z := z_X8_in) (as := [.inl n, .inl 1, .inl 10]) (rest := []) rfl c_in (?_ : EvI X E_X8_cheapest (12, [some (.inr (.inr (some (8, 0, 0)))), some (.inl n), none, none, none], [.inl (bi (1 ≤ n ∧ n ≤ 10))], (wri M 8 0 0 0 0)) _)
  refine seg_ok 1 (?_ : EvI X E_X8_cheapest (if (bi (1 ≤ n ∧ n ≤ 10)) = 0 then 15 else 17, [some (.inr (.inr (some (8, 0, 0)))), some (.inl n), none, none, none], [], (wri M 8 0 0 0 0)) _)
  refine ev_ifb (fun h12 => ?_) (fun h12 => ?_)
  · refine seg_ok 1 (?_ : EvI X E_X8_cheapest (16, [some (.inr (.inr (some (8, 0, 0)))), some (.inl n), none, none, none], [.inl (-1)], (wri M 8 0 0 0 0)) _)
    refine ev_rt (r := some (.inl (-1))) rfl (?_)
    exact ⟨rint ((cif_f h12).symm), rfl⟩
  · refine seg_ok 4 (?_ : EvI X E_X8_cheapest (22, [some (.inr (.inr (some (8, 0, 0)))), some (.inl n), some (.inl (-9)), some (.inl 0), none], [], (wri M 8 0 0 0 0)) _)
    have L22 : ∀ (m22 : Nat) (u b : Int) (d22_4 : Option U), S 1 0 3 - b < (m22 : Int) → (0 ≤ b) → (b ≤ S 1 0 3) → (u = chN S n b.toNat) → EvI X E_X8_cheapest (22, [some (.inr (.inr (some (8, 0, 0)))), some (.inl n), some (.inl u), some (.inl b), d22_4], [], (wri M 8 0 0 0 0)) (fun rr MM => rr = some (.inl (cif (1 ≤ n ∧ n ≤ 10) (chN S n (S 1 0 3).toNat) (-1))) ∧ MM = (wri M 8 0 0 0 0)) := by
      intro m22
      induction m22 with
      | zero => intro u b d22_4 hm22 q1 q2 q3; exact absurd hm22 (by omega)
      | succ m22 ih22 =>
        intro u b d22_4 hm22 q1 q2 q3
        subst q3
        have g := chN_r S n b.toNat
        refine seg_ok 5 (⟨by omega, ?_⟩ : ((0 : Int) ≤ 6 ∧ (6 : Int) < 589) ∧ EvI X E_X8_cheapest (30, [some (.inr (.inr (some (8, 0, 0)))), some (.inl n), some (.inl (chN S n b.toNat)), some (.inl b), d22_4], [.inl ((wri M 8 0 0 0 0) 17 0 0 6), .inl b], (wri M 8 0 0 0 0)) _)
        rw [show ((wri M 8 0 0 0 0) 17 0 0 6) = (S 1 0 3) from sc6 ((show RR ((wri M 8 0 0 0 0) 17 0 0) S by rw [wri_K (by decide)]; exact hW.1))]
        refine seg_ok 1 (?_ : EvI X E_X8_cheapest (if b < (S 1 0 3) then 33 else 89, [some (.inr (.inr (some (8, 0, 0)))), some (.inl n), some (.inl (chN S n b.toNat)), some (.inl b), d22_4], [], (wri M 8 0 0 0 0)) _)
        refine ev_if (fun h30 => ?_) (fun h30 => ?_)
        · refine seg_ok 3 (?_ : EvI X E_X8_cheapest (36, [some (.inr (.inr (some (8, 0, 0)))), some (.inl n), some (.inl (chN S n b.toNat)), some (.inl b), d22_4], [.inl n, .inl b, .inr (.inr (some (8, 0, 0)))], (wri M 8 0 0 0 0)) _)
          refine ev_clp (v := .inl (pl S b n)) (z := z_X8_placeIn) (as := [.inr (.inr (some (8, 0, 0))), .inl b, .inl n]) (rest := []) rfl (c_placeIn hW0 (by omega) (by omega)) (?_ : EvI X E_X8_cheapest (39, [some (.inr (.inr (some (8, 0, 0)))), some (.inl n), some (.inl (chN S n b.toNat)), some (.inl b), d22_4], [.inl (pl S b n)], (wri M 8 0 0 0 0)) _)
          refine seg_ok 2 (?_ : EvI X E_X8_cheapest (if (pl S b n) = (-9) then 48 else 44, [some (.inr (.inr (some (8, 0, 0)))), some (.inl n), some (.inl (chN S n b.toNat)), some (.inl b), d22_4], [], (wri M 8 0 0 0 0)) _)
          refine ev_if (fun h41 => ?_) (fun h41 => ?_)
          · refine seg_ok 8 (⟨by omega, ?_⟩ : ((-2147483648 : Int) ≤ (b + 1) ∧ (b + 1) < 2147483648) ∧ EvI X E_X8_cheapest (22, [some (.inr (.inr (some (8, 0, 0)))), some (.inl n), some (.inl (chN S n b.toNat)), some (.inl (b + 1)), some (.inl 0)], [], (wri M 8 0 0 0 0)) _)
            refine ih22 (chN S n b.toNat) (b + 1) (some (.inl 0)) (by omega) (by omega) (by omega) (by rw [chN_step q1]; exact (cA_1 (fun z => z h41)).symm)
          · refine seg_ok 8 (?_ : EvI X E_X8_cheapest (if (chN S n b.toNat) = (-9) then 77 else 62, [some (.inr (.inr (some (8, 0, 0)))), some (.inl n), some (.inl (chN S n b.toNat)), some (.inl b), some (.inl 1)], [], (wri M 8 0 0 0 0)) _)
            refine ev_if (fun h59 => ?_) (fun h59 => ?_)
            · refine seg_ok 5 (⟨by omega, ?_⟩ : ((-2147483648 : Int) ≤ (b + 1) ∧ (b + 1) < 2147483648) ∧ EvI X E_X8_cheapest (22, [some (.inr (.inr (some (8, 0, 0)))), some (.inl n), some (.inl b), some (.inl (b + 1)), some (.inl 1)], [], (wri M 8 0 0 0 0)) _)
              refine ih22 b (b + 1) (some (.inl 1)) (by omega) (by omega) (by omega) (by rw [chN_step q1]; exact (cA_t h41 (Or.inl h59)).symm)
            · refine seg_ok 3 (?_ : EvI X E_X8_cheapest (65, [some (.inr (.inr (some (8, 0, 0)))), some (.inl n), some (.inl (chN S n b.toNat)), some (.inl b), some (.inl 1)], [.inl 2, .inl b, .inr (.inr (some (8, 0, 0)))], (wri M 8 0 0 0 0)) _)
              refine ev_clp (v := .inl (S 0 b 2)) (z := z_X8_of) (as := [.inr (.inr (some (8, 0, 0))), .inl b, .inl 2]) (rest := []) rfl (c_of (show RR ((wri M 8 0 0 0 0) 17 0 0) S by rw [wri_K (by decide)]; exact hW.1) (by omega) (by omega)) (?_ : EvI X E_X8_cheapest (68, [some (.inr (.inr (some (8, 0, 0)))), some (.inl n), some (.inl (chN S n b.toNat)), some (.inl b), some (.inl 1)], [.inl (S 0 b 2)], (wri M 8 0 0 0 0)) _)
              refine seg_ok 3 (?_ : EvI X E_X8_cheapest (71, [some (.inr (.inr (some (8, 0, 0)))), some (.inl n), some (.inl (chN S n b.toNat)), some (.inl b), some (.inl 1)], [.inl 2, .inl (chN S n b.toNat), .inr (.inr (some (8, 0, 0))), .inl (S 0 b 2)], (wri M 8 0 0 0 0)) _)
              refine ev_clp (v := .inl (S 0 (chN S n b.toNat) 2)) (z := z_X8_of) (as := [.inr (.inr (some (8, 0, 0))), .inl (chN S n b.toNat), .inl 2]) (rest := [.inl (S 0 b 2)]) rfl (c_of (show RR ((wri M 8 0 0 0 0) 17 0 0) S by rw [wri_K (by decide)]; exact hW.1) (by omega) (by omega)) (?_ : EvI X E_X8_cheapest (74, [some (.inr (.inr (some (8, 0, 0)))), some (.inl n), some (.inl (chN S n b.toNat)), some (.inl b), some (.inl 1)], [.inl (S 0 (chN S n b.toNat) 2), .inl (S 0 b 2)], (wri M 8 0 0 0 0)) _)
              refine seg_ok 1 (?_ : EvI X E_X8_cheapest (if (S 0 b 2) < (S 0 (chN S n b.toNat) 2) then 77 else 81, [some (.inr (.inr (some (8, 0, 0)))), some (.inl n), some (.inl (chN S n b.toNat)), some (.inl b), some (.inl 1)], [], (wri M 8 0 0 0 0)) _)
              refine ev_if (fun h74 => ?_) (fun h74 => ?_)
              · refine seg_ok 5 (⟨by omega, ?_⟩ : ((-2147483648 : Int) ≤ (b + 1) ∧ (b + 1) < 2147483648) ∧ EvI X E_X8_cheapest (22, [some (.inr (.inr (some (8, 0, 0)))), some (.inl n), some (.inl b), some (.inl (b + 1)), some (.inl 1)], [], (wri M 8 0 0 0 0)) _)
                refine ih22 b (b + 1) (some (.inl 1)) (by omega) (by omega) (by omega) (by rw [chN_step q1]; exact (cA_t h41 (Or.inr h74)).symm)
              · refine seg_ok 4 (⟨by omega, ?_⟩ : ((-2147483648 : Int) ≤ (b + 1) ∧ (b + 1) < 2147483648) ∧ EvI X E_X8_cheapest (22, [some (.inr (.inr (some (8, 0, 0)))), some (.inl n), some (.inl (chN S n b.toNat)), some (.inl (b + 1)), some (.inl 1)], [], (wri M 8 0 0 0 0)) _)
                refine ih22 (chN S n b.toNat) (b + 1) (some (.inl 1)) (by omega) (by omega) (by omega) (by rw [chN_step q1]; exact (cA_2 (fun z => z.elim h59 h74)).symm)
        · refine seg_ok 1 (?_ : EvI X E_X8_cheapest (90, [some (.inr (.inr (some (8, 0, 0)))), some (.inl n), some (.inl (chN S n b.toNat)), some (.inl b), d22_4], [.inl (chN S n b.toNat)], (wri M 8 0 0 0 0)) _)
          refine ev_rt (r := some (.inl (chN S n b.toNat))) rfl (?_)
          exact ⟨rint (by rw [cif_t h12, show b = S 1 0 3 by omega]), rfl⟩
    refine L22 ((S 1 0 3 - 0) + 1 : Int).toNat (-9) 0 none (by omega) (by omega) (by omega) rfl
set_option maxRecDepth 1860 in
theorem c_nextExpiry {m : Int} {M : NM} {S : Sl} (hW : RW m M S) (hS : SHo (M 17 0 0) S) (hA : 0 ≤ M 8 0 0 4 ∧ M 8 0 0 4 ≤ 5)  : HT X z_X8_nextExpiry [.inr (.inr (some (8, 0, 0)))] M (fun rr MM => rr = some (.inl (neN S (S 5 0 3).toNat)) ∧ MM = (wri M 8 0 0 0 0)) := by
  have hs := hW.1.1
  have hi := hW.2.1
  unfold Iv0 at hi
  have hW0 : RW m (wri M 8 0 0 0 0) S := RW_fr (wri_K (by decide)) hW
  refine ht_of (e := E_X8_nextExpiry) rfl (?_ : EvI X E_X8_nextExpiry (0, [some (.inr (.inr (some (8, 0, 0)))), none, none, none], [], M) _)
  refine seg_ok 7 (?_ : EvI X E_X8_nextExpiry (10, [some (.inr (.inr (some (8, 0, 0)))), some (.inl (-9)), some (.inl 0), none], [], (wri M 8 0 0 0 0)) _)
  have L10 : ∀ (m10 : Nat) (u h : Int) (d10_3 : Option U), S 5 0 3 - h < (m10 : Int) → (0 ≤ h) → (h ≤ S 5 0 3) → (u = neN S h.toNat) → EvI X E_X8_nextExpiry (10, [some (.inr (.inr (some (8, 0, 0)))), some (.inl u), some (.inl h), d10_3], [], (wri M 8 0 0 0 0)) (fun rr MM => rr = some (.inl (neN S (S 5 0 3).toNat)) ∧ MM = (wri M 8 0 0 0 0)) := by
    intro m10
    induction m10 with
    | zero => intro u h d10_3 hm10 q1 q2 q3; exact absurd hm10 (by omega)
    | succ m10 ih10 =>
      intro u h d10_3 hm10 q1 q2 q3
      subst q3
      refine seg_ok 5 (⟨by omega, ?_⟩ : ((0 : Int) ≤ 8 ∧ (8 : Int) < 589) ∧ EvI X E_X8_nextExpiry (18, [some (.inr (.inr (some (8, 0, 0)))), some (.inl (neN S h.toNat)), some (.inl h), d10_3], [.inl ((wri M 8 0 0 0 0) 17 0 0 8), .inl h], (wri M 8 0 0 0 0)) _)
      rw [show ((wri M 8 0 0 0 0) 17 0 0 8) = (S 5 0 3) from sc8 ((show RR ((wri M 8 0 0 0 0) 17 0 0) S by rw [wri_K (by decide)]; exact hW.1))]
      refine seg_ok 1 (?_ : EvI X E_X8_nextExpiry (if h < (S 5 0 3) then 21 else 67, [some (.inr (.inr (some (8, 0, 0)))), some (.inl (neN S h.toNat)), some (.inl h), d10_3], [], (wri M 8 0 0 0 0)) _)
      refine ev_if (fun h18 => ?_) (fun h18 => ?_)
      · have ht := hW.2.2.2.2.1 h q1 (by omega)
        refine seg_ok 3 (?_ : EvI X E_X8_nextExpiry (24, [some (.inr (.inr (some (8, 0, 0)))), some (.inl (neN S h.toNat)), some (.inl h), d10_3], [.inl 3, .inl h, .inr (.inr (some (8, 0, 0)))], (wri M 8 0 0 0 0)) _)
        refine ev_clp (v := .inl (S 3 h 3)) (z := z_X8_ofHold) (as := [.inr (.inr (some (8, 0, 0))), .inl h, .inl 3]) (rest := []) rfl (c_ofHold (show RR ((wri M 8 0 0 0 0) 17 0 0) S by rw [wri_K (by decide)]; exact hW.1) (by omega) (by omega)) (?_ : EvI X E_X8_nextExpiry (27, [some (.inr (.inr (some (8, 0, 0)))), some (.inl (neN S h.toNat)), some (.inl h), d10_3], [.inl (S 3 h 3)], (wri M 8 0 0 0 0)) _)
        refine seg_ok 4 (⟨by omega, ?_⟩ : ((0 : Int) ≤ 0 ∧ (0 : Int) < 589) ∧ EvI X E_X8_nextExpiry (33, [some (.inr (.inr (some (8, 0, 0)))), some (.inl (neN S h.toNat)), some (.inl h), d10_3], [.inl ((wri M 8 0 0 0 0) 17 0 0 0), .inl (S 3 h 3)], (wri M 8 0 0 0 0)) _)
        rw [show ((wri M 8 0 0 0 0) 17 0 0 0) = (S 5 0 5) from sc0 ((show RR ((wri M 8 0 0 0 0) 17 0 0) S by rw [wri_K (by decide)]; exact hW.1))]
        refine seg_ok 5 (⟨by omega, ?_⟩ : ((-2147483648 : Int) ≤ ((S 3 h 3) - (S 5 0 5)) ∧ ((S 3 h 3) - (S 5 0 5)) < 2147483648) ∧ EvI X E_X8_nextExpiry (38, [some (.inr (.inr (some (8, 0, 0)))), some (.inl (neN S h.toNat)), some (.inl h), some (.inl ((S 3 h 3) - (S 5 0 5)))], [.inl 0, .inl h, .inr (.inr (some (8, 0, 0)))], (wri M 8 0 0 0 0)) _)
        refine ev_clp (v := .inl (S 3 h 0)) (z := z_X8_ofHold) (as := [.inr (.inr (some (8, 0, 0))), .inl h, .inl 0]) (rest := []) rfl (c_ofHold (show RR ((wri M 8 0 0 0 0) 17 0 0) S by rw [wri_K (by decide)]; exact hW.1) (by omega) (by omega)) (?_ : EvI X E_X8_nextExpiry (41, [some (.inr (.inr (some (8, 0, 0)))), some (.inl (neN S h.toNat)), some (.inl h), some (.inl ((S 3 h 3) - (S 5 0 5)))], [.inl (S 3 h 0)], (wri M 8 0 0 0 0)) _)
        refine seg_ok 1 (?_ : EvI X E_X8_nextExpiry (if (S 3 h 0) = 0 then 44 else 59, [some (.inr (.inr (some (8, 0, 0)))), some (.inl (neN S h.toNat)), some (.inl h), some (.inl ((S 3 h 3) - (S 5 0 5)))], [], (wri M 8 0 0 0 0)) _)
        refine ev_if (fun h41 => ?_) (fun h41 => ?_)
        · refine seg_ok 3 (?_ : EvI X E_X8_nextExpiry (if (neN S h.toNat) = (-9) then 55 else 50, [some (.inr (.inr (some (8, 0, 0)))), some (.inl (neN S h.toNat)), some (.inl h), some (.inl ((S 3 h 3) - (S 5 0 5)))], [], (wri M 8 0 0 0 0)) _)
          refine ev_if (fun h47 => ?_) (fun h47 => ?_)
          · refine seg_ok 5 (⟨by omega, ?_⟩ : ((-2147483648 : Int) ≤ (h + 1) ∧ (h + 1) < 2147483648) ∧ EvI X E_X8_nextExpiry (10, [some (.inr (.inr (some (8, 0, 0)))), some (.inl ((S 3 h 3) - (S 5 0 5))), some (.inl (h + 1)), some (.inl ((S 3 h 3) - (S 5 0 5)))], [], (wri M 8 0 0 0 0)) _)
            refine ih10 ((S 3 h 3) - (S 5 0 5)) (h + 1) (some (.inl ((S 3 h 3) - (S 5 0 5)))) (by omega) (by omega) (by omega) (by rw [neN_step q1]; exact (cA_t h41 (Or.inl h47)).symm)
          · refine seg_ok 3 (?_ : EvI X E_X8_nextExpiry (if ((S 3 h 3) - (S 5 0 5)) < (neN S h.toNat) then 55 else 59, [some (.inr (.inr (some (8, 0, 0)))), some (.inl (neN S h.toNat)), some (.inl h), some (.inl ((S 3 h 3) - (S 5 0 5)))], [], (wri M 8 0 0 0 0)) _)
            refine ev_if (fun h52 => ?_) (fun h52 => ?_)
            · refine seg_ok 5 (⟨by omega, ?_⟩ : ((-2147483648 : Int) ≤ (h + 1) ∧ (h + 1) < 2147483648) ∧ EvI X E_X8_nextExpiry (10, [some (.inr (.inr (some (8, 0, 0)))), some (.inl ((S 3 h 3) - (S 5 0 5))), some (.inl (h + 1)), some (.inl ((S 3 h 3) - (S 5 0 5)))], [], (wri M 8 0 0 0 0)) _)
              refine ih10 ((S 3 h 3) - (S 5 0 5)) (h + 1) (some (.inl ((S 3 h 3) - (S 5 0 5)))) (by omega) (by omega) (by omega) (by rw [neN_step q1]; exact (cA_t h41 (Or.inr h52)).symm)
            · refine seg_ok 4 (⟨by omega, ?_⟩ : ((-2147483648 : Int) ≤ (h + 1) ∧ (h + 1) < 2147483648) ∧ EvI X E_X8_nextExpiry (10, [some (.inr (.inr (some (8, 0, 0)))), some (.inl (neN S h.toNat)), some (.inl (h + 1)), some (.inl ((S 3 h 3) - (S 5 0 5)))], [], (wri M 8 0 0 0 0)) _)
              refine ih10 (neN S h.toNat) (h + 1) (some (.inl ((S 3 h 3) - (S 5 0 5)))) (by omega) (by omega) (by omega) (by rw [neN_step q1]; exact (cA_2 (fun z => z.elim h47 h52)).symm)
        · refine seg_ok 4 (⟨by omega, ?_⟩ : ((-2147483648 : Int) ≤ (h + 1) ∧ (h + 1) < 2147483648) ∧ EvI X E_X8_nextExpiry (10, [some (.inr (.inr (some (8, 0, 0)))), some (.inl (neN S h.toNat)), some (.inl (h + 1)), some (.inl ((S 3 h 3) - (S 5 0 5)))], [], (wri M 8 0 0 0 0)) _)
          refine ih10 (neN S h.toNat) (h + 1) (some (.inl ((S 3 h 3) - (S 5 0 5)))) (by omega) (by omega) (by omega) (by rw [neN_step q1]; exact (cA_1 h41).symm)
      · refine seg_ok 1 (?_ : EvI X E_X8_nextExpiry (68, [some (.inr (.inr (some (8, 0, 0)))), some (.inl (neN S h.toNat)), some (.inl h), d10_3], [.inl (neN S h.toNat)], (wri M 8 0 0 0 0)) _)
        refine ev_rt (r := some (.inl (neN S h.toNat))) rfl (?_)
        exact ⟨rint (by rw [show h = S 5 0 3 by omega]), rfl⟩
  refine L10 ((S 5 0 3 - 0) + 1 : Int).toNat (-9) 0 none (by omega) (by omega) (by omega) rfl
end
