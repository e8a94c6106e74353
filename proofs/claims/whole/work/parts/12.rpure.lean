/-! 12: the reference: what its methods that only look answer -/
section
variable {X : XI}
theorem c_in {M : NM} {v lo hi : Int} : HT X z_X8_in [.inl v, .inl lo, .inl hi] M (fun r M' => r = some (.inl (bi (lo ≤ v ∧ v ≤ hi))) ∧ M' = M) := by
  refine ht_of (e := E_X8_in) rfl (?_ : EvI X E_X8_in (0, [some (.inl v), some (.inl lo), some (.inl hi)], [], M) _)
  refine seg_ok 3 (?_ : EvI X E_X8_in (if v < lo then 14 else 5, [some (.inl v), some (.inl lo), some (.inl hi)], [], M) _)
  refine ev_if (fun h2 => ?_) (fun h2 => ?_)
  · refine seg_ok 1 (?_ : EvI X E_X8_in (15, [some (.inl v), some (.inl lo), some (.inl hi)], [.inl 0], M) _)
    refine ev_rt (r := some (.inl 0)) rfl (⟨by decide, ?_⟩)
    exact ⟨rint (is0 (by omega)), rfl⟩
  · refine seg_ok 3 (?_ : EvI X E_X8_in (if hi < v then 14 else 10, [some (.inl v), some (.inl lo), some (.inl hi)], [], M) _)
    refine ev_if (fun h7 => ?_) (fun h7 => ?_)
    · refine seg_ok 1 (?_ : EvI X E_X8_in (15, [some (.inl v), some (.inl lo), some (.inl hi)], [.inl 0], M) _)
      refine ev_rt (r := some (.inl 0)) rfl (⟨by decide, ?_⟩)
      exact ⟨rint (is0 (by omega)), rfl⟩
    · refine seg_ok 2 (?_ : EvI X E_X8_in (15, [some (.inl v), some (.inl lo), some (.inl hi)], [.inl 1], M) _)
      refine ev_rt (r := some (.inl 1)) rfl (⟨by decide, ?_⟩)
      exact ⟨rint (is1 (by omega)), rfl⟩
theorem c_atChair {M : NM} {c : Int} (h1 : 0 ≤ c ∧ c < 700) : HT X z_X8_atChair [.inl c] M (fun r M' => r = some (.inl (29 + 60 * (c / 100) + c % 100)) ∧ M' = M) := by
  refine ht_of (e := E_X8_atChair) rfl (?_ : EvI X E_X8_atChair (0, [some (.inl c)], [], M) _)
  refine seg_ok 11 (⟨by omega, by omega, by omega, by omega, by omega, ?_⟩ : ((0 : Int) ≤ c ∧ (0 : Int) < 100) ∧ ((-2147483648 : Int) ≤ (60 * (c / 100)) ∧ (60 * (c / 100)) < 2147483648) ∧ ((-2147483648 : Int) ≤ (29 + (60 * (c / 100))) ∧ (29 + (60 * (c / 100))) < 2147483648) ∧ ((0 : Int) ≤ c ∧ (0 : Int) < 100) ∧ ((-2147483648 : Int) ≤ ((29 + (60 * (c / 100))) + (c % 100)) ∧ ((29 + (60 * (c / 100))) + (c % 100)) < 2147483648) ∧ EvI X E_X8_atChair (15, [some (.inl c)], [.inl ((29 + (60 * (c / 100))) + (c % 100))], M) _)
  refine ev_rt (r := some (.inl ((29 + (60 * (c / 100))) + (c % 100)))) rfl (?_)
  exact ⟨rfl, rfl⟩
theorem c_of {M : NM} {S : Sl} (hR : RR (M 17 0 0) S) {b w : Int} (h1 : 0 ≤ b ∧ b < 6) (h2 : 0 ≤ w ∧ w < 3) : HT X z_X8_of [.inr (.inr (some (8, 0, 0))), .inl b, .inl w] M (fun r M' => r = some (.inl (S 0 b w)) ∧ M' = M) := by
  refine ht_of (e := E_X8_of) rfl (?_ : EvI X E_X8_of (0, [some (.inr (.inr (some (8, 0, 0)))), some (.inl b), some (.inl w)], [], M) _)
  refine seg_ok 10 (⟨by omega, by omega, by omega, by omega, ?_⟩ : ((-2147483648 : Int) ≤ (3 * b) ∧ (3 * b) < 2147483648) ∧ ((-2147483648 : Int) ≤ (11 + (3 * b)) ∧ (11 + (3 * b)) < 2147483648) ∧ ((-2147483648 : Int) ≤ ((11 + (3 * b)) + w) ∧ ((11 + (3 * b)) + w) < 2147483648) ∧ ((0 : Int) ≤ ((11 + (3 * b)) + w) ∧ ((11 + (3 * b)) + w) < 589) ∧ EvI X E_X8_of (13, [some (.inr (.inr (some (8, 0, 0)))), some (.inl b), some (.inl w)], [.inl (M 17 0 0 ((11 + (3 * b)) + w))], M) _)
  refine ev_rt (r := some (.inl (M 17 0 0 ((11 + (3 * b)) + w)))) rfl (?_)
  exact ⟨rint (hR.2.1 b w h1.1 h1.2 h2.1 h2.2), rfl⟩
theorem c_isBlock {m : Int} {M : NM} {S : Sl} (hW : RW m M S) {b : Int} : HT X z_X8_isBlock [.inr (.inr (some (8, 0, 0))), .inl b] M (fun r M' => r = some (.inl (bi (0 ≤ b ∧ b < S 1 0 3))) ∧ M' = M) := by
  have hs := hW.1.1
  have hi := hW.2.1
  unfold Iv0 at hi
  refine ht_of (e := E_X8_isBlock) rfl (?_ : EvI X E_X8_isBlock (0, [some (.inr (.inr (some (8, 0, 0)))), some (.inl b)], [], M) _)
  refine seg_ok 8 (⟨by omega, by omega, ?_⟩ : ((0 : Int) ≤ 6 ∧ (6 : Int) < 589) ∧ ((-2147483648 : Int) ≤ ((M 17 0 0 6) - 1) ∧ ((M 17 0 0 6) - 1) < 2147483648) ∧ EvI X E_X8_isBlock (11, [some (.inr (.inr (some (8, 0, 0)))), some (.inl b)], [.inl ((M 17 0 0 6) - 1), .inl 0, .inl b], M) _)
  refine ev_clp (v := .inl (bi (0 ≤ b ∧ b ≤ ((M 17 0 0 6) - 1)))) (z := z_X8_in) (as := [.inl b, .inl 0, .inl ((M 17 0 0 6) - 1)]) (rest := []) rfl c_in (?_ : EvI X E_X8_isBlock (14, [some (.inr (.inr (some (8, 0, 0)))), some (.inl b)], [.inl (bi (0 ≤ b ∧ b ≤ ((M 17 0 0 6) - 1)))], M) _)
  refine ev_rt (r := some (.inl (bi (0 ≤ b ∧ b ≤ ((M 17 0 0 6) - 1))))) rfl (⟨bi_01 _, ?_⟩)
  exact ⟨rint (bi_iff (by omega)), rfl⟩
theorem c_isStage {m : Int} {M : NM} {S : Sl} (hW : RW m M S) {b : Int} : HT X z_X8_isStage [.inr (.inr (some (8, 0, 0))), .inl b] M (fun r M' => r = some (.inl (bi (0 ≤ b ∧ b < S 1 0 4))) ∧ M' = M) := by
  have hs := hW.1.1
  have hi := hW.2.1
  unfold Iv0 at hi
  refine ht_of (e := E_X8_isStage) rfl (?_ : EvI X E_X8_isStage (0, [some (.inr (.inr (some (8, 0, 0)))), some (.inl b)], [], M) _)
  refine seg_ok 8 (⟨by omega, by omega, ?_⟩ : ((0 : Int) ≤ 7 ∧ (7 : Int) < 589) ∧ ((-2147483648 : Int) ≤ ((M 17 0 0 7) - 1) ∧ ((M 17 0 0 7) - 1) < 2147483648) ∧ EvI X E_X8_isStage (11, [some (.inr (.inr (some (8, 0, 0)))), some (.inl b)], [.inl ((M 17 0 0 7) - 1), .inl 0, .inl b], M) _)
  refine ev_clp (v := .inl (bi (0 ≤ b ∧ b ≤ ((M 17 0 0 7) - 1)))) (z := z_X8_in) (as := [.inl b, .inl 0, .inl ((M 17 0 0 7) - 1)]) (rest := []) rfl c_in (?_ : EvI X E_X8_isStage (14, [some (.inr (.inr (some (8, 0, 0)))), some (.inl b)], [.inl (bi (0 ≤ b ∧ b ≤ ((M 17 0 0 7) - 1)))], M) _)
  refine ev_rt (r := some (.inl (bi (0 ≤ b ∧ b ≤ ((M 17 0 0 7) - 1))))) rfl (⟨bi_01 _, ?_⟩)
  exact ⟨rint (bi_iff (by omega)), rfl⟩
theorem c_isHold {m : Int} {M : NM} {S : Sl} (hW : RW m M S) {b : Int} : HT X z_X8_isHold [.inr (.inr (some (8, 0, 0))), .inl b] M (fun r M' => r = some (.inl (bi (0 ≤ b ∧ b < S 5 0 3))) ∧ M' = M) := by
  have hs := hW.1.1
  have hi := hW.2.1
  unfold Iv0 at hi
  refine ht_of (e := E_X8_isHold) rfl (?_ : EvI X E_X8_isHold (0, [some (.inr (.inr (some (8, 0, 0)))), some (.inl b)], [], M) _)
  refine seg_ok 8 (⟨by omega, by omega, ?_⟩ : ((0 : Int) ≤ 8 ∧ (8 : Int) < 589) ∧ ((-2147483648 : Int) ≤ ((M 17 0 0 8) - 1) ∧ ((M 17 0 0 8) - 1) < 2147483648) ∧ EvI X E_X8_isHold (11, [some (.inr (.inr (some (8, 0, 0)))), some (.inl b)], [.inl ((M 17 0 0 8) - 1), .inl 0, .inl b], M) _)
  refine ev_clp (v := .inl (bi (0 ≤ b ∧ b ≤ ((M 17 0 0 8) - 1)))) (z := z_X8_in) (as := [.inl b, .inl 0, .inl ((M 17 0 0 8) - 1)]) (rest := []) rfl c_in (?_ : EvI X E_X8_isHold (14, [some (.inr (.inr (some (8, 0, 0)))), some (.inl b)], [.inl (bi (0 ≤ b ∧ b ≤ ((M 17 0 0 8) - 1)))], M) _)
  refine ev_rt (r := some (.inl (bi (0 ≤ b ∧ b ≤ ((M 17 0 0 8) - 1))))) rfl (⟨bi_01 _, ?_⟩)
  exact ⟨rint (bi_iff (by omega)), rfl⟩
theorem c_isTicket {m : Int} {M : NM} {S : Sl} (hW : RW m M S) {b : Int} : HT X z_X8_isTicket [.inr (.inr (some (8, 0, 0))), .inl b] M (fun r M' => r = some (.inl (bi (0 ≤ b ∧ b < S 5 0 4))) ∧ M' = M) := by
  have hs := hW.1.1
  have hi := hW.2.1
  unfold Iv0 at hi
  refine ht_of (e := E_X8_isTicket) rfl (?_ : EvI X E_X8_isTicket (0, [some (.inr (.inr (some (8, 0, 0)))), some (.inl b)], [], M) _)
  refine seg_ok 8 (⟨by omega, by omega, ?_⟩ : ((0 : Int) ≤ 9 ∧ (9 : Int) < 589) ∧ ((-2147483648 : Int) ≤ ((M 17 0 0 9) - 1) ∧ ((M 17 0 0 9) - 1) < 2147483648) ∧ EvI X E_X8_isTicket (11, [some (.inr (.inr (some (8, 0, 0)))), some (.inl b)], [.inl ((M 17 0 0 9) - 1), .inl 0, .inl b], M) _)
  refine ev_clp (v := .inl (bi (0 ≤ b ∧ b ≤ ((M 17 0 0 9) - 1)))) (z := z_X8_in) (as := [.inl b, .inl 0, .inl ((M 17 0 0 9) - 1)]) (rest := []) rfl c_in (?_ : EvI X E_X8_isTicket (14, [some (.inr (.inr (some (8, 0, 0)))), some (.inl b)], [.inl (bi (0 ≤ b ∧ b ≤ ((M 17 0 0 9) - 1)))], M) _)
  refine ev_rt (r := some (.inl (bi (0 ≤ b ∧ b ≤ ((M 17 0 0 9) - 1))))) rfl (⟨bi_01 _, ?_⟩)
  exact ⟨rint (bi_iff (by omega)), rfl⟩
theorem c_ofHold {M : NM} {S : Sl} (hR : RR (M 17 0 0) S) {b w : Int} (h1 : 0 ≤ b ∧ b < 20) (h2 : 0 ≤ w ∧ w < 5) : HT X z_X8_ofHold [.inr (.inr (some (8, 0, 0))), .inl b, .inl w] M (fun r M' => r = some (.inl (S 3 b w)) ∧ M' = M) := by
  refine ht_of (e := E_X8_ofHold) rfl (?_ : EvI X E_X8_ofHold (0, [some (.inr (.inr (some (8, 0, 0)))), some (.inl b), some (.inl w)], [], M) _)
  refine seg_ok 10 (⟨by omega, by omega, by omega, by omega, ?_⟩ : ((-2147483648 : Int) ≤ (5 * b) ∧ (5 * b) < 2147483648) ∧ ((-2147483648 : Int) ≤ (389 + (5 * b)) ∧ (389 + (5 * b)) < 2147483648) ∧ ((-2147483648 : Int) ≤ ((389 + (5 * b)) + w) ∧ ((389 + (5 * b)) + w) < 2147483648) ∧ ((0 : Int) ≤ ((389 + (5 * b)) + w) ∧ ((389 + (5 * b)) + w) < 589) ∧ EvI X E_X8_ofHold (14, [some (.inr (.inr (some (8, 0, 0)))), some (.inl b), some (.inl w)], [.inl (M 17 0 0 ((389 + (5 * b)) + w))], M) _)
  refine ev_rt (r := some (.inl (M 17 0 0 ((389 + (5 * b)) + w)))) rfl (?_)
  exact ⟨rint (hR.2.2.2.1 b w h1.1 h1.2 h2.1 h2.2), rfl⟩
theorem c_ofTicket {M : NM} {S : Sl} (hR : RR (M 17 0 0) S) {b w : Int} (h1 : 0 ≤ b ∧ b < 20) (h2 : 0 ≤ w ∧ w < 5) : HT X z_X8_ofTicket [.inr (.inr (some (8, 0, 0))), .inl b, .inl w] M (fun r M' => r = some (.inl (S 6 b w)) ∧ M' = M) := by
  refine ht_of (e := E_X8_ofTicket) rfl (?_ : EvI X E_X8_ofTicket (0, [some (.inr (.inr (some (8, 0, 0)))), some (.inl b), some (.inl w)], [], M) _)
  refine seg_ok 10 (⟨by omega, by omega, by omega, by omega, ?_⟩ : ((-2147483648 : Int) ≤ (5 * b) ∧ (5 * b) < 2147483648) ∧ ((-2147483648 : Int) ≤ (489 + (5 * b)) ∧ (489 + (5 * b)) < 2147483648) ∧ ((-2147483648 : Int) ≤ ((489 + (5 * b)) + w) ∧ ((489 + (5 * b)) + w) < 2147483648) ∧ ((0 : Int) ≤ ((489 + (5 * b)) + w) ∧ ((489 + (5 * b)) + w) < 589) ∧ EvI X E_X8_ofTicket (14, [some (.inr (.inr (some (8, 0, 0)))), some (.inl b), some (.inl w)], [.inl (M 17 0 0 ((489 + (5 * b)) + w))], M) _)
  refine ev_rt (r := some (.inl (M 17 0 0 ((489 + (5 * b)) + w)))) rfl (?_)
  exact ⟨rint (hR.2.2.2.2 b w h1.1 h1.2 h2.1 h2.2), rfl⟩
theorem c_isUp {m : Int} {M : NM} {S : Sl} (hW : RW m M S) {b : Int} : HT X z_X8_isUp [.inr (.inr (some (8, 0, 0))), .inl b] M (fun r M' => r = some (.inl (bi (upP S b))) ∧ M' = M) := by
  have e10 : M 17 0 0 10 = S 1 0 5 := hW.1.1.2.2.2.2.2.2.2.2.2.2
  refine ht_of (e := E_X8_isUp) rfl (?_ : EvI X E_X8_isUp (0, [some (.inr (.inr (some (8, 0, 0)))), some (.inl b)], [], M) _)
  refine seg_ok 10 (⟨by omega, ?_⟩ : ((0 : Int) ≤ 10 ∧ (10 : Int) < 589) ∧ EvI X E_X8_isUp (if (andI (shrI (M 17 0 0 10) b) 1) = 1 then 15 else 19, [some (.inr (.inr (some (8, 0, 0)))), some (.inl b)], [], M) _)
  refine ev_if (fun h12 => ?_) (fun h12 => ?_)
  · refine seg_ok 2 (?_ : EvI X E_X8_isUp (20, [some (.inr (.inr (some (8, 0, 0)))), some (.inl b)], [.inl 1], M) _)
    refine ev_rt (r := some (.inl 1)) rfl (⟨by decide, ?_⟩)
    exact ⟨rint (is1 (by rw [e10] at h12; exact h12)), rfl⟩
  · refine seg_ok 1 (?_ : EvI X E_X8_isUp (20, [some (.inr (.inr (some (8, 0, 0)))), some (.inl b)], [.inl 0], M) _)
    refine ev_rt (r := some (.inl 0)) rfl (⟨by decide, ?_⟩)
    exact ⟨rint (is0 (by rw [e10] at h12; exact h12)), rfl⟩
theorem c_isChair {m : Int} {M : NM} {S : Sl} (hW : RW m M S) {c : Int} : HT X z_X8_isChair [.inr (.inr (some (8, 0, 0))), .inl c] M (fun r M' => r = some (.inl (bi (isCh S c))) ∧ M' = M) := by
  have hs := hW.1.1
  have hi := hW.2.1
  unfold Iv0 at hi
  refine ht_of (e := E_X8_isChair) rfl (?_ : EvI X E_X8_isChair (0, [some (.inr (.inr (some (8, 0, 0)))), some (.inl c)], [], M) _)
  refine seg_ok 2 (?_ : EvI X E_X8_isChair (if c < 0 then 54 else 4, [some (.inr (.inr (some (8, 0, 0)))), some (.inl c)], [], M) _)
  refine ev_if (fun h1 => ?_) (fun h1 => ?_)
  · refine seg_ok 1 (?_ : EvI X E_X8_isChair (55, [some (.inr (.inr (some (8, 0, 0)))), some (.inl c)], [.inl 0], M) _)
    refine ev_rt (r := some (.inl 0)) rfl (⟨by decide, ?_⟩)
    exact ⟨rint (is0 (by unfold isCh; omega)), rfl⟩
  · refine seg_ok 4 (⟨by omega, ?_⟩ : ((0 : Int) ≤ c ∧ (0 : Int) < 100) ∧ EvI X E_X8_isChair (9, [some (.inr (.inr (some (8, 0, 0)))), some (.inl c)], [.inl (c / 100), .inr (.inr (some (8, 0, 0)))], M) _)
    refine ev_clp (v := .inl (bi (0 ≤ (c / 100) ∧ (c / 100) < S 1 0 3))) (z := z_X8_isBlock) (as := [.inr (.inr (some (8, 0, 0))), .inl (c / 100)]) (rest := []) rfl (c_isBlock hW) (?_ : EvI X E_X8_isChair (12, [some (.inr (.inr (some (8, 0, 0)))), some (.inl c)], [.inl (bi (0 ≤ (c / 100) ∧ (c / 100) < S 1 0 3))], M) _)
    refine seg_ok 1 (?_ : EvI X E_X8_isChair (if (bi (0 ≤ (c / 100) ∧ (c / 100) < S 1 0 3)) = 0 then 54 else 15, [some (.inr (.inr (some (8, 0, 0)))), some (.inl c)], [], M) _)
    refine ev_ifb (fun h12 => ?_) (fun h12 => ?_)
    · refine seg_ok 1 (?_ : EvI X E_X8_isChair (55, [some (.inr (.inr (some (8, 0, 0)))), some (.inl c)], [.inl 0], M) _)
      refine ev_rt (r := some (.inl 0)) rfl (⟨by decide, ?_⟩)
      exact ⟨rint (is0 (by unfold isCh; omega)), rfl⟩
    · refine seg_ok 10 (⟨by omega, by omega, by omega, ?_⟩ : ((0 : Int) ≤ c ∧ (0 : Int) < 10) ∧ ((0 : Int) ≤ (c / 10) ∧ (0 : Int) < 10) ∧ ((0 : Int) ≤ c ∧ (0 : Int) < 100) ∧ EvI X E_X8_isChair (28, [some (.inr (.inr (some (8, 0, 0)))), some (.inl c)], [.inl 0, .inl (c / 100), .inr (.inr (some (8, 0, 0))), .inl ((c / 10) % 10)], M) _)
      refine ev_clp (v := .inl (S 0 (c / 100) 0)) (z := z_X8_of) (as := [.inr (.inr (some (8, 0, 0))), .inl (c / 100), .inl 0]) (rest := [.inl ((c / 10) % 10)]) rfl (c_of hW.1 (by omega) (by omega)) (?_ : EvI X E_X8_isChair (31, [some (.inr (.inr (some (8, 0, 0)))), some (.inl c)], [.inl (S 0 (c / 100) 0), .inl ((c / 10) % 10)], M) _)
      refine seg_ok 1 (?_ : EvI X E_X8_isChair (if ((c / 10) % 10) < (S 0 (c / 100) 0) then 34 else 54, [some (.inr (.inr (some (8, 0, 0)))), some (.inl c)], [], M) _)
      refine ev_if (fun h31 => ?_) (fun h31 => ?_)
      · refine seg_ok 8 (⟨by omega, by omega, ?_⟩ : ((0 : Int) ≤ c ∧ (0 : Int) < 10) ∧ ((0 : Int) ≤ c ∧ (0 : Int) < 100) ∧ EvI X E_X8_isChair (44, [some (.inr (.inr (some (8, 0, 0)))), some (.inl c)], [.inl 1, .inl (c / 100), .inr (.inr (some (8, 0, 0))), .inl (c % 10)], M) _)
        refine ev_clp (v := .inl (S 0 (c / 100) 1)) (z := z_X8_of) (as := [.inr (.inr (some (8, 0, 0))), .inl (c / 100), .inl 1]) (rest := [.inl (c % 10)]) rfl (c_of hW.1 (by omega) (by omega)) (?_ : EvI X E_X8_isChair (47, [some (.inr (.inr (some (8, 0, 0)))), some (.inl c)], [.inl (S 0 (c / 100) 1), .inl (c % 10)], M) _)
        refine seg_ok 1 (?_ : EvI X E_X8_isChair (if (c % 10) < (S 0 (c / 100) 1) then 50 else 54, [some (.inr (.inr (some (8, 0, 0)))), some (.inl c)], [], M) _)
        refine ev_if (fun h47 => ?_) (fun h47 => ?_)
        · refine seg_ok 2 (?_ : EvI X E_X8_isChair (55, [some (.inr (.inr (some (8, 0, 0)))), some (.inl c)], [.inl 1], M) _)
          refine ev_rt (r := some (.inl 1)) rfl (⟨by decide, ?_⟩)
          exact ⟨rint (is1 (by unfold isCh; omega)), rfl⟩
        · refine seg_ok 1 (?_ : EvI X E_X8_isChair (55, [some (.inr (.inr (some (8, 0, 0)))), some (.inl c)], [.inl 0], M) _)
          refine ev_rt (r := some (.inl 0)) rfl (⟨by decide, ?_⟩)
          exact ⟨rint (is0 (by unfold isCh; omega)), rfl⟩
      · refine seg_ok 1 (?_ : EvI X E_X8_isChair (55, [some (.inr (.inr (some (8, 0, 0)))), some (.inl c)], [.inl 0], M) _)
        refine ev_rt (r := some (.inl 0)) rfl (⟨by decide, ?_⟩)
        exact ⟨rint (is0 (by unfold isCh; omega)), rfl⟩
theorem c_isWhat {m : Int} {M : NM} {S : Sl} (hW : RW m M S) {c : Int} (h : 0 ≤ c ∧ c < 600 ∧ c % 100 < 60) : HT X z_X8_isWhat [.inr (.inr (some (8, 0, 0))), .inl c] M (fun r M' => r = some (.inl (S 13 0 c)) ∧ M' = M) := by
  have q := chR hW h
  refine ht_of (e := E_X8_isWhat) rfl (?_ : EvI X E_X8_isWhat (0, [some (.inr (.inr (some (8, 0, 0)))), some (.inl c)], [], M) _)
  refine seg_ok 3 (?_ : EvI X E_X8_isWhat (5, [some (.inr (.inr (some (8, 0, 0)))), some (.inl c)], [.inl c, .inr (.inr (some (17, 0, 0)))], M) _)
  refine ev_clp (v := .inl (29 + 60 * (c / 100) + c % 100)) (z := z_X8_atChair) (as := [.inl c]) (rest := [.inr (.inr (some (17, 0, 0)))]) rfl (c_atChair (by omega)) (?_ : EvI X E_X8_isWhat (8, [some (.inr (.inr (some (8, 0, 0)))), some (.inl c)], [.inl (29 + 60 * (c / 100) + c % 100), .inr (.inr (some (17, 0, 0)))], M) _)
  refine seg_ok 3 (⟨by omega, ?_⟩ : ((0 : Int) ≤ (29 + 60 * (c / 100) + c % 100) ∧ (29 + 60 * (c / 100) + c % 100) < 589) ∧ EvI X E_X8_isWhat (11, [some (.inr (.inr (some (8, 0, 0)))), some (.inl c)], [.inl (andI (M 17 0 0 (29 + 60 * (c / 100) + c % 100)) 3)], M) _)
  refine ev_rt (r := some (.inl (andI (M 17 0 0 (29 + 60 * (c / 100) + c % 100)) 3))) rfl (?_)
  exact ⟨rint (by rw [q.1, b_and3 q.2.1 q.2.2]), rfl⟩
theorem c_isKilled {m : Int} {M : NM} {S : Sl} (hW : RW m M S) {c : Int} (h : 0 ≤ c ∧ c < 600 ∧ c % 100 < 60) : HT X z_X8_isKilled [.inr (.inr (some (8, 0, 0))), .inl c] M (fun r M' => r = some (.inl (bi (kl S c))) ∧ M' = M) := by
  have q := chR hW h
  have e10 : M 17 0 0 10 = S 1 0 5 := hW.1.1.2.2.2.2.2.2.2.2.2.2
  refine ht_of (e := E_X8_isKilled) rfl (?_ : EvI X E_X8_isKilled (0, [some (.inr (.inr (some (8, 0, 0)))), some (.inl c)], [], M) _)
  refine seg_ok 3 (?_ : EvI X E_X8_isKilled (5, [some (.inr (.inr (some (8, 0, 0)))), some (.inl c)], [.inl c, .inr (.inr (some (17, 0, 0)))], M) _)
  refine ev_clp (v := .inl (29 + 60 * (c / 100) + c % 100)) (z := z_X8_atChair) (as := [.inl c]) (rest := [.inr (.inr (some (17, 0, 0)))]) rfl (c_atChair (by omega)) (?_ : EvI X E_X8_isKilled (8, [some (.inr (.inr (some (8, 0, 0)))), some (.inl c)], [.inl (29 + 60 * (c / 100) + c % 100), .inr (.inr (some (17, 0, 0)))], M) _)
  refine seg_ok 9 (⟨by omega, by omega, ?_⟩ : ((0 : Int) ≤ (29 + 60 * (c / 100) + c % 100) ∧ (29 + 60 * (c / 100) + c % 100) < 589) ∧ ((0 : Int) ≤ 10 ∧ (10 : Int) < 589) ∧ EvI X E_X8_isKilled (if (andI (shrI (M 17 0 0 (29 + 60 * (c / 100) + c % 100)) 2) (M 17 0 0 10)) = 0 then 26 else 22, [some (.inr (.inr (some (8, 0, 0)))), some (.inl c)], [], M) _)
  refine ev_if (fun h19 => ?_) (fun h19 => ?_)
  · refine seg_ok 1 (?_ : EvI X E_X8_isKilled (27, [some (.inr (.inr (some (8, 0, 0)))), some (.inl c)], [.inl 0], M) _)
    refine ev_rt (r := some (.inl 0)) rfl (⟨by decide, ?_⟩)
    exact ⟨rint (is0 (by rw [q.1, b_shr2 q.2.1 q.2.2, e10] at h19; exact fun z => z h19)), rfl⟩
  · refine seg_ok 2 (?_ : EvI X E_X8_isKilled (27, [some (.inr (.inr (some (8, 0, 0)))), some (.inl c)], [.inl 1], M) _)
    refine ev_rt (r := some (.inl 1)) rfl (⟨by decide, ?_⟩)
    exact ⟨rint (is1 (by rw [q.1, b_shr2 q.2.1 q.2.2, e10] at h19; exact h19)), rfl⟩
theorem c_isFor {m : Int} {M : NM} {S : Sl} (hW : RW m M S) {g c : Int} (hg : 0 ≤ g ∧ g < 4) (h : 0 ≤ c ∧ c < 600 ∧ c % 100 < 60) : HT X z_X8_isFor [.inr (.inr (some (8, 0, 0))), .inl g, .inl c] M (fun r M' => r = some (.inl (bi (fo S g c))) ∧ M' = M) := by
  have q := chR hW h
  refine ht_of (e := E_X8_isFor) rfl (?_ : EvI X E_X8_isFor (0, [some (.inr (.inr (some (8, 0, 0)))), some (.inl g), some (.inl c)], [], M) _)
  refine seg_ok 3 (?_ : EvI X E_X8_isFor (5, [some (.inr (.inr (some (8, 0, 0)))), some (.inl g), some (.inl c)], [.inl c, .inr (.inr (some (17, 0, 0)))], M) _)
  refine ev_clp (v := .inl (29 + 60 * (c / 100) + c % 100)) (z := z_X8_atChair) (as := [.inl c]) (rest := [.inr (.inr (some (17, 0, 0)))]) rfl (c_atChair (by omega)) (?_ : EvI X E_X8_isFor (8, [some (.inr (.inr (some (8, 0, 0)))), some (.inl g), some (.inl c)], [.inl (29 + 60 * (c / 100) + c % 100), .inr (.inr (some (17, 0, 0)))], M) _)
  refine seg_ok 9 (⟨by omega, by omega, ?_⟩ : ((0 : Int) ≤ (29 + 60 * (c / 100) + c % 100) ∧ (29 + 60 * (c / 100) + c % 100) < 589) ∧ ((-2147483648 : Int) ≤ (2 + g) ∧ (2 + g) < 2147483648) ∧ EvI X E_X8_isFor (if (andI (shrI (M 17 0 0 (29 + 60 * (c / 100) + c % 100)) (2 + g)) 1) = 1 then 19 else 23, [some (.inr (.inr (some (8, 0, 0)))), some (.inl g), some (.inl c)], [], M) _)
  refine ev_if (fun h16 => ?_) (fun h16 => ?_)
  · refine seg_ok 2 (?_ : EvI X E_X8_isFor (24, [some (.inr (.inr (some (8, 0, 0)))), some (.inl g), some (.inl c)], [.inl 1], M) _)
    refine ev_rt (r := some (.inl 1)) rfl (⟨by decide, ?_⟩)
    exact ⟨rint (is1 (by rw [q.1, b_shrs q.2.1 q.2.2 hg] at h16; exact h16)), rfl⟩
  · refine seg_ok 1 (?_ : EvI X E_X8_isFor (24, [some (.inr (.inr (some (8, 0, 0)))), some (.inl g), some (.inl c)], [.inl 0], M) _)
    refine ev_rt (r := some (.inl 0)) rfl (⟨by decide, ?_⟩)
    exact ⟨rint (is0 (by rw [q.1, b_shrs q.2.1 q.2.2 hg] at h16; exact h16)), rfl⟩
theorem c_isOpen {m : Int} {M : NM} {S : Sl} (hW : RW m M S) {row c : Int} (h1 : 0 ≤ row ∧ row < 600) : HT X z_X8_isOpen [.inr (.inr (some (8, 0, 0))), .inl row, .inl c] M (fun r M' => r = some (.inl (bi (opn S row c))) ∧ M' = M) := by
  have hs := hW.1.1
  have hi := hW.2.1
  unfold Iv0 at hi
  refine ht_of (e := E_X8_isOpen) rfl (?_ : EvI X E_X8_isOpen (0, [some (.inr (.inr (some (8, 0, 0)))), some (.inl row), some (.inl c)], [], M) _)
  refine seg_ok 3 (?_ : EvI X E_X8_isOpen (4, [some (.inr (.inr (some (8, 0, 0)))), some (.inl row), some (.inl c)], [.inl 9, .inl 0, .inl c], M) _)
  refine ev_clp (v := .inl (bi (0 ≤ c ∧ c ≤ 9))) (z := z_X8_in) (as := [.inl c, .inl 0, .inl 9]) (rest := []) rfl c_in (?_ : EvI X E_X8_isOpen (7, [some (.inr (.inr (some (8, 0, 0)))), some (.inl row), some (.inl c)], [.inl (bi (0 ≤ c ∧ c ≤ 9))], M) _)
  refine seg_ok 1 (?_ : EvI X E_X8_isOpen (if (bi (0 ≤ c ∧ c ≤ 9)) = 0 then 44 else 10, [some (.inr (.inr (some (8, 0, 0)))), some (.inl row), some (.inl c)], [], M) _)
  refine ev_ifb (fun h7 => ?_) (fun h7 => ?_)
  · refine seg_ok 1 (?_ : EvI X E_X8_isOpen (45, [some (.inr (.inr (some (8, 0, 0)))), some (.inl row), some (.inl c)], [.inl 0], M) _)
    refine ev_rt (r := some (.inl 0)) rfl (⟨by decide, ?_⟩)
    exact ⟨rint (is0 (fun z => by first | exact h7 z.1 | exact h17 z.2.1 | exact h27 z.2.2.1 | exact z.2.2.2 h37)), rfl⟩
  · refine seg_ok 4 (⟨by omega, ?_⟩ : ((-2147483648 : Int) ≤ (row + c) ∧ (row + c) < 2147483648) ∧ EvI X E_X8_isOpen (14, [some (.inr (.inr (some (8, 0, 0)))), some (.inl row), some (.inl c)], [.inl (row + c), .inr (.inr (some (8, 0, 0)))], M) _)
    refine ev_clp (v := .inl (bi (isCh S (row + c)))) (z := z_X8_isChair) (as := [.inr (.inr (some (8, 0, 0))), .inl (row + c)]) (rest := []) rfl (c_isChair hW) (?_ : EvI X E_X8_isOpen (17, [some (.inr (.inr (some (8, 0, 0)))), some (.inl row), some (.inl c)], [.inl (bi (isCh S (row + c)))], M) _)
    refine seg_ok 1 (?_ : EvI X E_X8_isOpen (if (bi (isCh S (row + c))) = 0 then 44 else 20, [some (.inr (.inr (some (8, 0, 0)))), some (.inl row), some (.inl c)], [], M) _)
    refine ev_ifb (fun h17 => ?_) (fun h17 => ?_)
    · refine seg_ok 1 (?_ : EvI X E_X8_isOpen (45, [some (.inr (.inr (some (8, 0, 0)))), some (.inl row), some (.inl c)], [.inl 0], M) _)
      refine ev_rt (r := some (.inl 0)) rfl (⟨by decide, ?_⟩)
      exact ⟨rint (is0 (fun z => by first | exact h7 z.1 | exact h17 z.2.1 | exact h27 z.2.2.1 | exact z.2.2.2 h37)), rfl⟩
    · refine seg_ok 4 (⟨by omega, ?_⟩ : ((-2147483648 : Int) ≤ (row + c) ∧ (row + c) < 2147483648) ∧ EvI X E_X8_isOpen (24, [some (.inr (.inr (some (8, 0, 0)))), some (.inl row), some (.inl c)], [.inl (row + c), .inr (.inr (some (8, 0, 0)))], M) _)
      refine ev_clp (v := .inl (S 13 0 (row + c))) (z := z_X8_isWhat) (as := [.inr (.inr (some (8, 0, 0))), .inl (row + c)]) (rest := []) rfl (c_isWhat hW (isCh_r hW.2 h17)) (?_ : EvI X E_X8_isOpen (27, [some (.inr (.inr (some (8, 0, 0)))), some (.inl row), some (.inl c)], [.inl (S 13 0 (row + c))], M) _)
      refine seg_ok 1 (?_ : EvI X E_X8_isOpen (if (S 13 0 (row + c)) = 0 then 30 else 44, [some (.inr (.inr (some (8, 0, 0)))), some (.inl row), some (.inl c)], [], M) _)
      refine ev_if (fun h27 => ?_) (fun h27 => ?_)
      · refine seg_ok 4 (⟨by omega, ?_⟩ : ((-2147483648 : Int) ≤ (row + c) ∧ (row + c) < 2147483648) ∧ EvI X E_X8_isOpen (34, [some (.inr (.inr (some (8, 0, 0)))), some (.inl row), some (.inl c)], [.inl (row + c), .inr (.inr (some (8, 0, 0)))], M) _)
        refine ev_clp (v := .inl (bi (kl S (row + c)))) (z := z_X8_isKilled) (as := [.inr (.inr (some (8, 0, 0))), .inl (row + c)]) (rest := []) rfl (c_isKilled hW (isCh_r hW.2 h17)) (?_ : EvI X E_X8_isOpen (37, [some (.inr (.inr (some (8, 0, 0)))), some (.inl row), some (.inl c)], [.inl (bi (kl S (row + c)))], M) _)
        refine seg_ok 1 (?_ : EvI X E_X8_isOpen (if (bi (kl S (row + c))) = 0 then 40 else 44, [some (.inr (.inr (some (8, 0, 0)))), some (.inl row), some (.inl c)], [], M) _)
        refine ev_ifb (fun h37 => ?_) (fun h37 => ?_)
        · refine seg_ok 2 (?_ : EvI X E_X8_isOpen (45, [some (.inr (.inr (some (8, 0, 0)))), some (.inl row), some (.inl c)], [.inl 1], M) _)
          refine ev_rt (r := some (.inl 1)) rfl (⟨by decide, ?_⟩)
          exact ⟨rint (is1 ⟨h7, h17, h27, h37⟩), rfl⟩
        · refine seg_ok 1 (?_ : EvI X E_X8_isOpen (45, [some (.inr (.inr (some (8, 0, 0)))), some (.inl row), some (.inl c)], [.inl 0], M) _)
          refine ev_rt (r := some (.inl 0)) rfl (⟨by decide, ?_⟩)
          exact ⟨rint (is0 (fun z => by first | exact h7 z.1 | exact h17 z.2.1 | exact h27 z.2.2.1 | exact z.2.2.2 h37)), rfl⟩
      · refine seg_ok 1 (?_ : EvI X E_X8_isOpen (45, [some (.inr (.inr (some (8, 0, 0)))), some (.inl row), some (.inl c)], [.inl 0], M) _)
        refine ev_rt (r := some (.inl 0)) rfl (⟨by decide, ?_⟩)
        exact ⟨rint (is0 (fun z => by first | exact h7 z.1 | exact h17 z.2.1 | exact h27 z.2.2.1 | exact z.2.2.2 h37)), rfl⟩
theorem are_succ {S : Sl} {row c k : Int} (h : 0 ≤ k) : are S row c (k + 1) ↔ are S row c k ∧ opn S row (c + k) := by
  constructor
  · intro q
    exact ⟨fun i a b => q i a (by omega), q k h (by omega)⟩
  · rintro ⟨q1, q2⟩ i a b
    by_cases z : i = k
    · rw [z]; exact q2
    · exact q1 i a (by omega)
theorem are_0 {S : Sl} {row c : Int} : are S row c 0 := fun i a b => by omega
theorem c_areOpen {m : Int} {M : NM} {S : Sl} (hW : RW m M S) {row c n : Int} (h1 : 0 ≤ row ∧ row < 600) (h2 : 0 ≤ c ∧ c ≤ 10) (h3 : 0 ≤ n ∧ n ≤ 10) : HT X z_X8_areOpen [.inr (.inr (some (8, 0, 0))), .inl row, .inl c, .inl n] M (fun r M' => r = some (.inl (bi (are S row c n))) ∧ M' = M) := by
  have hs := hW.1.1
  have hi := hW.2.1
  unfold Iv0 at hi
  refine ht_of (e := E_X8_areOpen) rfl (?_ : EvI X E_X8_areOpen (0, [some (.inr (.inr (some (8, 0, 0)))), some (.inl row), some (.inl c), some (.inl n), none, none], [], M) _)
  refine seg_ok 4 (?_ : EvI X E_X8_areOpen (6, [some (.inr (.inr (some (8, 0, 0)))), some (.inl row), some (.inl c), some (.inl n), some (.inl 1), some (.inl 0)], [], M) _)
  have L6 : ∀ (m6 : Nat) (v k : Int), n - k < (m6 : Int) → (0 ≤ k) → (k ≤ n) → (v = bi (are S row c k)) → EvI X E_X8_areOpen (6, [some (.inr (.inr (some (8, 0, 0)))), some (.inl row), some (.inl c), some (.inl n), some (.inl v), some (.inl k)], [], M) (fun r M' => r = some (.inl (bi (are S row c n))) ∧ M' = M) := by
    intro m6
    induction m6 with
    | zero => intro v k hm6 q1 q2 q3; exact absurd hm6 (by omega)
    | succ m6 ih6 =>
      intro v k hm6 q1 q2 q3
      subst q3
      refine seg_ok 3 (?_ : EvI X E_X8_areOpen (if k < n then 12 else 42, [some (.inr (.inr (some (8, 0, 0)))), some (.inl row), some (.inl c), some (.inl n), some (.inl (bi (are S row c k))), some (.inl k)], [], M) _)
      refine ev_if (fun h9 => ?_) (fun h9 => ?_)
      · refine seg_ok 2 (?_ : EvI X E_X8_areOpen (if (bi (are S row c k)) = 0 then 33 else 17, [some (.inr (.inr (some (8, 0, 0)))), some (.inl row), some (.inl c), some (.inl n), some (.inl (bi (are S row c k))), some (.inl k)], [], M) _)
        refine ev_ifb (fun h14 => ?_) (fun h14 => ?_)
        · refine seg_ok 4 (⟨by omega, ?_⟩ : ((-2147483648 : Int) ≤ (k + 1) ∧ (k + 1) < 2147483648) ∧ EvI X E_X8_areOpen (6, [some (.inr (.inr (some (8, 0, 0)))), some (.inl row), some (.inl c), some (.inl n), some (.inl 0), some (.inl (k + 1))], [], M) _)
          refine ih6 0 (k + 1) (by omega) (by omega) (by omega) (is0 (fun z => h14 ((are_succ q1).mp z).1))
        · refine seg_ok 5 (⟨by omega, ?_⟩ : ((-2147483648 : Int) ≤ (c + k) ∧ (c + k) < 2147483648) ∧ EvI X E_X8_areOpen (23, [some (.inr (.inr (some (8, 0, 0)))), some (.inl row), some (.inl c), some (.inl n), some (.inl (bi (are S row c k))), some (.inl k)], [.inl (c + k), .inl row, .inr (.inr (some (8, 0, 0)))], M) _)
          refine ev_clp (v := .inl (bi (opn S row (c + k)))) (z := z_X8_isOpen) (as := [.inr (.inr (some (8, 0, 0))), .inl row, .inl (c + k)]) (rest := []) rfl (c_isOpen hW (by omega)) (?_ : EvI X E_X8_areOpen (26, [some (.inr (.inr (some (8, 0, 0)))), some (.inl row), some (.inl c), some (.inl n), some (.inl (bi (are S row c k))), some (.inl k)], [.inl (bi (opn S row (c + k)))], M) _)
          refine seg_ok 1 (?_ : EvI X E_X8_areOpen (if (bi (opn S row (c + k))) = 0 then 33 else 29, [some (.inr (.inr (some (8, 0, 0)))), some (.inl row), some (.inl c), some (.inl n), some (.inl (bi (are S row c k))), some (.inl k)], [], M) _)
          refine ev_ifb (fun h26 => ?_) (fun h26 => ?_)
          · refine seg_ok 4 (⟨by omega, ?_⟩ : ((-2147483648 : Int) ≤ (k + 1) ∧ (k + 1) < 2147483648) ∧ EvI X E_X8_areOpen (6, [some (.inr (.inr (some (8, 0, 0)))), some (.inl row), some (.inl c), some (.inl n), some (.inl 0), some (.inl (k + 1))], [], M) _)
            refine ih6 0 (k + 1) (by omega) (by omega) (by omega) (is0 (fun z => h26 ((are_succ q1).mp z).2))
          · refine seg_ok 5 (⟨by omega, ?_⟩ : ((-2147483648 : Int) ≤ (k + 1) ∧ (k + 1) < 2147483648) ∧ EvI X E_X8_areOpen (6, [some (.inr (.inr (some (8, 0, 0)))), some (.inl row), some (.inl c), some (.inl n), some (.inl 1), some (.inl (k + 1))], [], M) _)
            refine ih6 1 (k + 1) (by omega) (by omega) (by omega) (is1 ((are_succ q1).mpr ⟨h14, h26⟩))
      · refine seg_ok 1 (?_ : EvI X E_X8_areOpen (44, [some (.inr (.inr (some (8, 0, 0)))), some (.inl row), some (.inl c), some (.inl n), some (.inl (bi (are S row c k))), some (.inl k)], [.inl (bi (are S row c k))], M) _)
        refine ev_rt (r := some (.inl (bi (are S row c k)))) rfl (⟨bi_01 _, ?_⟩)
        exact ⟨rint (by rw [show k = n by omega]), rfl⟩
  refine L6 ((n - 0) + 1 : Int).toNat 1 0 (by omega) (by omega) (by omega) (is1 are_0)
theorem c_leftAlone {m : Int} {M : NM} {S : Sl} (hW : RW m M S) {row c n : Int} (h1 : 0 ≤ row ∧ row < 600) (h2 : 0 ≤ c ∧ c ≤ 10) (h3 : 0 ≤ n ∧ n ≤ 10) : HT X z_X8_leftAlone [.inr (.inr (some (8, 0, 0))), .inl row, .inl c, .inl n] M (fun r M' => r = some (.inl (la S row c n)) ∧ M' = M) := by
  have hs := hW.1.1
  have hi := hW.2.1
  unfold Iv0 at hi
  refine ht_of (e := E_X8_leftAlone) rfl (?_ : EvI X E_X8_leftAlone (0, [some (.inr (.inr (some (8, 0, 0)))), some (.inl row), some (.inl c), some (.inl n), none], [], M) _)
  refine seg_ok 5 (⟨by omega, ?_⟩ : ((-2147483648 : Int) ≤ (c - 1) ∧ (c - 1) < 2147483648) ∧ EvI X E_X8_leftAlone (5, [some (.inr (.inr (some (8, 0, 0)))), some (.inl row), some (.inl c), some (.inl n), none], [.inl (c - 1), .inl row, .inr (.inr (some (8, 0, 0)))], M) _)
  refine ev_clp (v := .inl (bi (opn S row (c - 1)))) (z := z_X8_isOpen) (as := [.inr (.inr (some (8, 0, 0))), .inl row, .inl (c - 1)]) (rest := []) rfl (c_isOpen hW (by omega)) (?_ : EvI X E_X8_leftAlone (8, [some (.inr (.inr (some (8, 0, 0)))), some (.inl row), some (.inl c), some (.inl n), none], [.inl (bi (opn S row (c - 1)))], M) _)
  refine seg_ok 1 (?_ : EvI X E_X8_leftAlone (if (bi (opn S row (c - 1))) = 0 then 26 else 11, [some (.inr (.inr (some (8, 0, 0)))), some (.inl row), some (.inl c), some (.inl n), none], [], M) _)
  refine ev_ifb (fun h8 => ?_) (fun h8 => ?_)
  · refine seg_ok 8 (⟨by omega, ?_⟩ : ((-2147483648 : Int) ≤ (c + n) ∧ (c + n) < 2147483648) ∧ EvI X E_X8_leftAlone (36, [some (.inr (.inr (some (8, 0, 0)))), some (.inl row), some (.inl c), some (.inl n), some (.inl 0)], [.inl (c + n), .inl row, .inr (.inr (some (8, 0, 0))), .inl 0], M) _)
    refine ev_clp (v := .inl (bi (opn S row (c + n)))) (z := z_X8_isOpen) (as := [.inr (.inr (some (8, 0, 0))), .inl row, .inl (c + n)]) (rest := [.inl 0]) rfl (c_isOpen hW (by omega)) (?_ : EvI X E_X8_leftAlone (39, [some (.inr (.inr (some (8, 0, 0)))), some (.inl row), some (.inl c), some (.inl n), some (.inl 0)], [.inl (bi (opn S row (c + n))), .inl 0], M) _)
    refine seg_ok 1 (?_ : EvI X E_X8_leftAlone (if (bi (opn S row (c + n))) = 0 then 59 else 42, [some (.inr (.inr (some (8, 0, 0)))), some (.inl row), some (.inl c), some (.inl n), some (.inl 0)], [.inl 0], M) _)
    refine ev_ifb (fun h39 => ?_) (fun h39 => ?_)
    · refine seg_ok 2 (⟨by omega, ?_⟩ : ((-2147483648 : Int) ≤ 0 ∧ (0 : Int) < 2147483648) ∧ EvI X E_X8_leftAlone (61, [some (.inr (.inr (some (8, 0, 0)))), some (.inl row), some (.inl c), some (.inl n), some (.inl 0)], [.inl 0], M) _)
      refine ev_rt (r := some (.inl 0)) rfl (?_)
      exact ⟨rint (by unfold la; rw [bA_1 h8, bA_1 h39]; rfl), rfl⟩
    · refine seg_ok 7 (⟨by omega, by omega, ?_⟩ : ((-2147483648 : Int) ≤ (c + n) ∧ (c + n) < 2147483648) ∧ ((-2147483648 : Int) ≤ ((c + n) + 1) ∧ ((c + n) + 1) < 2147483648) ∧ EvI X E_X8_leftAlone (49, [some (.inr (.inr (some (8, 0, 0)))), some (.inl row), some (.inl c), some (.inl n), some (.inl 0)], [.inl ((c + n) + 1), .inl row, .inr (.inr (some (8, 0, 0))), .inl 0], M) _)
      refine ev_clp (v := .inl (bi (opn S row ((c + n) + 1)))) (z := z_X8_isOpen) (as := [.inr (.inr (some (8, 0, 0))), .inl row, .inl ((c + n) + 1)]) (rest := [.inl 0]) rfl (c_isOpen hW (by omega)) (?_ : EvI X E_X8_leftAlone (52, [some (.inr (.inr (some (8, 0, 0)))), some (.inl row), some (.inl c), some (.inl n), some (.inl 0)], [.inl (bi (opn S row ((c + n) + 1))), .inl 0], M) _)
      refine seg_ok 1 (?_ : EvI X E_X8_leftAlone (if (bi (opn S row ((c + n) + 1))) = 0 then 55 else 59, [some (.inr (.inr (some (8, 0, 0)))), some (.inl row), some (.inl c), some (.inl n), some (.inl 0)], [.inl 0], M) _)
      refine ev_ifb (fun h52 => ?_) (fun h52 => ?_)
      · refine seg_ok 3 (⟨by omega, ?_⟩ : ((-2147483648 : Int) ≤ 1 ∧ (1 : Int) < 2147483648) ∧ EvI X E_X8_leftAlone (61, [some (.inr (.inr (some (8, 0, 0)))), some (.inl row), some (.inl c), some (.inl n), some (.inl 0)], [.inl 1], M) _)
        refine ev_rt (r := some (.inl 1)) rfl (?_)
        exact ⟨rint (by unfold la; rw [bA_1 h8, bA_t h39 h52]; rfl), rfl⟩
      · refine seg_ok 2 (⟨by omega, ?_⟩ : ((-2147483648 : Int) ≤ 0 ∧ (0 : Int) < 2147483648) ∧ EvI X E_X8_leftAlone (61, [some (.inr (.inr (some (8, 0, 0)))), some (.inl row), some (.inl c), some (.inl n), some (.inl 0)], [.inl 0], M) _)
        refine ev_rt (r := some (.inl 0)) rfl (?_)
        exact ⟨rint (by unfold la; rw [bA_1 h8, bA_2 h52]; rfl), rfl⟩
  · refine seg_ok 5 (⟨by omega, ?_⟩ : ((-2147483648 : Int) ≤ (c - 2) ∧ (c - 2) < 2147483648) ∧ EvI X E_X8_leftAlone (16, [some (.inr (.inr (some (8, 0, 0)))), some (.inl row), some (.inl c), some (.inl n), none], [.inl (c - 2), .inl row, .inr (.inr (some (8, 0, 0)))], M) _)
    refine ev_clp (v := .inl (bi (opn S row (c - 2)))) (z := z_X8_isOpen) (as := [.inr (.inr (some (8, 0, 0))), .inl row, .inl (c - 2)]) (rest := []) rfl (c_isOpen hW (by omega)) (?_ : EvI X E_X8_leftAlone (19, [some (.inr (.inr (some (8, 0, 0)))), some (.inl row), some (.inl c), some (.inl n), none], [.inl (bi (opn S row (c - 2)))], M) _)
    refine seg_ok 1 (?_ : EvI X E_X8_leftAlone (if (bi (opn S row (c - 2))) = 0 then 22 else 26, [some (.inr (.inr (some (8, 0, 0)))), some (.inl row), some (.inl c), some (.inl n), none], [], M) _)
    refine ev_ifb (fun h19 => ?_) (fun h19 => ?_)
    · refine seg_ok 9 (⟨by omega, ?_⟩ : ((-2147483648 : Int) ≤ (c + n) ∧ (c + n) < 2147483648) ∧ EvI X E_X8_leftAlone (36, [some (.inr (.inr (some (8, 0, 0)))), some (.inl row), some (.inl c), some (.inl n), some (.inl 1)], [.inl (c + n), .inl row, .inr (.inr (some (8, 0, 0))), .inl 1], M) _)
      refine ev_clp (v := .inl (bi (opn S row (c + n)))) (z := z_X8_isOpen) (as := [.inr (.inr (some (8, 0, 0))), .inl row, .inl (c + n)]) (rest := [.inl 1]) rfl (c_isOpen hW (by omega)) (?_ : EvI X E_X8_leftAlone (39, [some (.inr (.inr (some (8, 0, 0)))), some (.inl row), some (.inl c), some (.inl n), some (.inl 1)], [.inl (bi (opn S row (c + n))), .inl 1], M) _)
      refine seg_ok 1 (?_ : EvI X E_X8_leftAlone (if (bi (opn S row (c + n))) = 0 then 59 else 42, [some (.inr (.inr (some (8, 0, 0)))), some (.inl row), some (.inl c), some (.inl n), some (.inl 1)], [.inl 1], M) _)
      refine ev_ifb (fun h39 => ?_) (fun h39 => ?_)
      · refine seg_ok 2 (⟨by omega, ?_⟩ : ((-2147483648 : Int) ≤ 1 ∧ (1 : Int) < 2147483648) ∧ EvI X E_X8_leftAlone (61, [some (.inr (.inr (some (8, 0, 0)))), some (.inl row), some (.inl c), some (.inl n), some (.inl 1)], [.inl 1], M) _)
        refine ev_rt (r := some (.inl 1)) rfl (?_)
        exact ⟨rint (by unfold la; rw [bA_t h8 h19, bA_1 h39]; rfl), rfl⟩
      · refine seg_ok 7 (⟨by omega, by omega, ?_⟩ : ((-2147483648 : Int) ≤ (c + n) ∧ (c + n) < 2147483648) ∧ ((-2147483648 : Int) ≤ ((c + n) + 1) ∧ ((c + n) + 1) < 2147483648) ∧ EvI X E_X8_leftAlone (49, [some (.inr (.inr (some (8, 0, 0)))), some (.inl row), some (.inl c), some (.inl n), some (.inl 1)], [.inl ((c + n) + 1), .inl row, .inr (.inr (some (8, 0, 0))), .inl 1], M) _)
        refine ev_clp (v := .inl (bi (opn S row ((c + n) + 1)))) (z := z_X8_isOpen) (as := [.inr (.inr (some (8, 0, 0))), .inl row, .inl ((c + n) + 1)]) (rest := [.inl 1]) rfl (c_isOpen hW (by omega)) (?_ : EvI X E_X8_leftAlone (52, [some (.inr (.inr (some (8, 0, 0)))), some (.inl row), some (.inl c), some (.inl n), some (.inl 1)], [.inl (bi (opn S row ((c + n) + 1))), .inl 1], M) _)
        refine seg_ok 1 (?_ : EvI X E_X8_leftAlone (if (bi (opn S row ((c + n) + 1))) = 0 then 55 else 59, [some (.inr (.inr (some (8, 0, 0)))), some (.inl row), some (.inl c), some (.inl n), some (.inl 1)], [.inl 1], M) _)
        refine ev_ifb (fun h52 => ?_) (fun h52 => ?_)
        · refine seg_ok 3 (⟨by omega, ?_⟩ : ((-2147483648 : Int) ≤ 2 ∧ (2 : Int) < 2147483648) ∧ EvI X E_X8_leftAlone (61, [some (.inr (.inr (some (8, 0, 0)))), some (.inl row), some (.inl c), some (.inl n), some (.inl 1)], [.inl 2], M) _)
          refine ev_rt (r := some (.inl 2)) rfl (?_)
          exact ⟨rint (by unfold la; rw [bA_t h8 h19, bA_t h39 h52]; rfl), rfl⟩
        · refine seg_ok 2 (⟨by omega, ?_⟩ : ((-2147483648 : Int) ≤ 1 ∧ (1 : Int) < 2147483648) ∧ EvI X E_X8_leftAlone (61, [some (.inr (.inr (some (8, 0, 0)))), some (.inl row), some (.inl c), some (.inl n), some (.inl 1)], [.inl 1], M) _)
          refine ev_rt (r := some (.inl 1)) rfl (?_)
          exact ⟨rint (by unfold la; rw [bA_t h8 h19, bA_2 h52]; rfl), rfl⟩
    · refine seg_ok 8 (⟨by omega, ?_⟩ : ((-2147483648 : Int) ≤ (c + n) ∧ (c + n) < 2147483648) ∧ EvI X E_X8_leftAlone (36, [some (.inr (.inr (some (8, 0, 0)))), some (.inl row), some (.inl c), some (.inl n), some (.inl 0)], [.inl (c + n), .inl row, .inr (.inr (some (8, 0, 0))), .inl 0], M) _)
      refine ev_clp (v := .inl (bi (opn S row (c + n)))) (z := z_X8_isOpen) (as := [.inr (.inr (some (8, 0, 0))), .inl row, .inl (c + n)]) (rest := [.inl 0]) rfl (c_isOpen hW (by omega)) (?_ : EvI X E_X8_leftAlone (39, [some (.inr (.inr (some (8, 0, 0)))), some (.inl row), some (.inl c), some (.inl n), some (.inl 0)], [.inl (bi (opn S row (c + n))), .inl 0], M) _)
      refine seg_ok 1 (?_ : EvI X E_X8_leftAlone (if (bi (opn S row (c + n))) = 0 then 59 else 42, [some (.inr (.inr (some (8, 0, 0)))), some (.inl row), some (.inl c), some (.inl n), some (.inl 0)], [.inl 0], M) _)
      refine ev_ifb (fun h39 => ?_) (fun h39 => ?_)
      · refine seg_ok 2 (⟨by omega, ?_⟩ : ((-2147483648 : Int) ≤ 0 ∧ (0 : Int) < 2147483648) ∧ EvI X E_X8_leftAlone (61, [some (.inr (.inr (some (8, 0, 0)))), some (.inl row), some (.inl c), some (.inl n), some (.inl 0)], [.inl 0], M) _)
        refine ev_rt (r := some (.inl 0)) rfl (?_)
        exact ⟨rint (by unfold la; rw [bA_2 h19, bA_1 h39]; rfl), rfl⟩
      · refine seg_ok 7 (⟨by omega, by omega, ?_⟩ : ((-2147483648 : Int) ≤ (c + n) ∧ (c + n) < 2147483648) ∧ ((-2147483648 : Int) ≤ ((c + n) + 1) ∧ ((c + n) + 1) < 2147483648) ∧ EvI X E_X8_leftAlone (49, [some (.inr (.inr (some (8, 0, 0)))), some (.inl row), some (.inl c), some (.inl n), some (.inl 0)], [.inl ((c + n) + 1), .inl row, .inr (.inr (some (8, 0, 0))), .inl 0], M) _)
        refine ev_clp (v := .inl (bi (opn S row ((c + n) + 1)))) (z := z_X8_isOpen) (as := [.inr (.inr (some (8, 0, 0))), .inl row, .inl ((c + n) + 1)]) (rest := [.inl 0]) rfl (c_isOpen hW (by omega)) (?_ : EvI X E_X8_leftAlone (52, [some (.inr (.inr (some (8, 0, 0)))), some (.inl row), some (.inl c), some (.inl n), some (.inl 0)], [.inl (bi (opn S row ((c + n) + 1))), .inl 0], M) _)
        refine seg_ok 1 (?_ : EvI X E_X8_leftAlone (if (bi (opn S row ((c + n) + 1))) = 0 then 55 else 59, [some (.inr (.inr (some (8, 0, 0)))), some (.inl row), some (.inl c), some (.inl n), some (.inl 0)], [.inl 0], M) _)
        refine ev_ifb (fun h52 => ?_) (fun h52 => ?_)
        · refine seg_ok 3 (⟨by omega, ?_⟩ : ((-2147483648 : Int) ≤ 1 ∧ (1 : Int) < 2147483648) ∧ EvI X E_X8_leftAlone (61, [some (.inr (.inr (some (8, 0, 0)))), some (.inl row), some (.inl c), some (.inl n), some (.inl 0)], [.inl 1], M) _)
          refine ev_rt (r := some (.inl 1)) rfl (?_)
          exact ⟨rint (by unfold la; rw [bA_2 h19, bA_t h39 h52]; rfl), rfl⟩
        · refine seg_ok 2 (⟨by omega, ?_⟩ : ((-2147483648 : Int) ≤ 0 ∧ (0 : Int) < 2147483648) ∧ EvI X E_X8_leftAlone (61, [some (.inr (.inr (some (8, 0, 0)))), some (.inl row), some (.inl c), some (.inl n), some (.inl 0)], [.inl 0], M) _)
          refine ev_rt (r := some (.inl 0)) rfl (?_)
          exact ⟨rint (by unfold la; rw [bA_2 h19, bA_2 h52]; rfl), rfl⟩
theorem plC_step {S : Sl} {row n c : Int} {p : Int × Int} (h : 0 ≤ c) : plC S row n p (c + 1).toNat = cif (are S row c n ∧ la S row c n < (plC S row n p c.toNat).2) (row + c, la S row c n) (plC S row n p c.toNat) := by
  rw [show (c + 1).toNat = c.toNat + 1 by omega, plC, Int.toNat_of_nonneg h]
theorem plR_step {S : Sl} {b n i0 r : Int} (h : 0 ≤ r) : plR S b n i0 (r + 1).toNat = plC S (100 * b + 10 * r) n (plR S b n i0 r.toNat) (S 0 b 1).toNat := by
  rw [show (r + 1).toNat = r.toNat + 1 by omega, plR, Int.toNat_of_nonneg h]
set_option maxRecDepth 2310 in
theorem c_placeIn {m : Int} {M : NM} {S : Sl} (hW : RW m M S) {b n : Int} (h1 : 0 ≤ b ∧ b < S 1 0 3) (h2 : 1 ≤ n ∧ n ≤ 10) : HT X z_X8_placeIn [.inr (.inr (some (8, 0, 0))), .inl b, .inl n] M (fun r M' => r = some (.inl (pl S b n)) ∧ M' = M) := by
  have hs := hW.1.1
  have hi := hW.2.1
  unfold Iv0 at hi
  have hb := hW.2.2.1 b h1.1 h1.2
  refine ht_of (e := E_X8_placeIn) rfl (?_ : EvI X E_X8_placeIn (0, [some (.inr (.inr (some (8, 0, 0)))), some (.inl b), some (.inl n), none, none, none, none, none], [], M) _)
  refine seg_ok 6 (?_ : EvI X E_X8_placeIn (9, [some (.inr (.inr (some (8, 0, 0)))), some (.inl b), some (.inl n), some (.inl (-9)), some (.inl 3), some (.inl 0), none, none], [], M) _)
  have L9 : ∀ (m9 : Nat) (u v r : Int) (d9_6 d9_7 : Option U), S 0 b 0 - r < (m9 : Int) → (0 ≤ r) → (r ≤ S 0 b 0) → (u = (plR S b n 3 r.toNat).1) → (v = (plR S b n 3 r.toNat).2) → EvI X E_X8_placeIn (9, [some (.inr (.inr (some (8, 0, 0)))), some (.inl b), some (.inl n), some (.inl u), some (.inl v), some (.inl r), d9_6, d9_7], [], M) (fun r M' => r = some (.inl (pl S b n)) ∧ M' = M) := by
    intro m9
    induction m9 with
    | zero => intro u v r d9_6 d9_7 hm9 q1 q2 q3 q4; exact absurd hm9 (by omega)
    | succ m9 ih9 =>
      intro u v r d9_6 d9_7 hm9 q1 q2 q3 q4
      refine seg_ok 4 (?_ : EvI X E_X8_placeIn (14, [some (.inr (.inr (some (8, 0, 0)))), some (.inl b), some (.inl n), some (.inl u), some (.inl v), some (.inl r), d9_6, d9_7], [.inl 0, .inl b, .inr (.inr (some (8, 0, 0))), .inl r], M) _)
      refine ev_clp (v := .inl (S 0 b 0)) (z := z_X8_of) (as := [.inr (.inr (some (8, 0, 0))), .inl b, .inl 0]) (rest := [.inl r]) rfl (c_of hW.1 (by omega) (by omega)) (?_ : EvI X E_X8_placeIn (17, [some (.inr (.inr (some (8, 0, 0)))), some (.inl b), some (.inl n), some (.inl u), some (.inl v), some (.inl r), d9_6, d9_7], [.inl (S 0 b 0), .inl r], M) _)
      refine seg_ok 1 (?_ : EvI X E_X8_placeIn (if r < (S 0 b 0) then 20 else 101, [some (.inr (.inr (some (8, 0, 0)))), some (.inl b), some (.inl n), some (.inl u), some (.inl v), some (.inl r), d9_6, d9_7], [], M) _)
      refine ev_if (fun h17 => ?_) (fun h17 => ?_)
      · refine seg_ok 10 (⟨by omega, by omega, by omega, ?_⟩ : ((-2147483648 : Int) ≤ (100 * b) ∧ (100 * b) < 2147483648) ∧ ((-2147483648 : Int) ≤ (10 * r) ∧ (10 * r) < 2147483648) ∧ ((-2147483648 : Int) ≤ ((100 * b) + (10 * r)) ∧ ((100 * b) + (10 * r)) < 2147483648) ∧ EvI X E_X8_placeIn (35, [some (.inr (.inr (some (8, 0, 0)))), some (.inl b), some (.inl n), some (.inl u), some (.inl v), some (.inl r), some (.inl ((100 * b) + (10 * r))), some (.inl 0)], [], M) _)
        have L35 : ∀ (m35 : Nat) (u2 v2 c : Int), S 0 b 1 - c < (m35 : Int) → (0 ≤ c) → (c ≤ S 0 b 1) → (u2 = (plC S (100 * b + 10 * r) n (plR S b n 3 r.toNat) c.toNat).1) → (v2 = (plC S (100 * b + 10 * r) n (plR S b n 3 r.toNat) c.toNat).2) → EvI X E_X8_placeIn (35, [some (.inr (.inr (some (8, 0, 0)))), some (.inl b), some (.inl n), some (.inl u2), some (.inl v2), some (.inl r), some (.inl ((100 * b) + (10 * r))), some (.inl c)], [], M) (fun r M' => r = some (.inl (pl S b n)) ∧ M' = M) := by
          intro m35
          induction m35 with
          | zero => intro u2 v2 c hm35 p1 p2 p3 p4; exact absurd hm35 (by omega)
          | succ m35 ih35 =>
            intro u2 v2 c hm35 p1 p2 p3 p4
            refine seg_ok 4 (?_ : EvI X E_X8_placeIn (40, [some (.inr (.inr (some (8, 0, 0)))), some (.inl b), some (.inl n), some (.inl u2), some (.inl v2), some (.inl r), some (.inl ((100 * b) + (10 * r))), some (.inl c)], [.inl 1, .inl b, .inr (.inr (some (8, 0, 0))), .inl c], M) _)
            refine ev_clp (v := .inl (S 0 b 1)) (z := z_X8_of) (as := [.inr (.inr (some (8, 0, 0))), .inl b, .inl 1]) (rest := [.inl c]) rfl (c_of hW.1 (by omega) (by omega)) (?_ : EvI X E_X8_placeIn (43, [some (.inr (.inr (some (8, 0, 0)))), some (.inl b), some (.inl n), some (.inl u2), some (.inl v2), some (.inl r), some (.inl ((100 * b) + (10 * r))), some (.inl c)], [.inl (S 0 b 1), .inl c], M) _)
            refine seg_ok 1 (?_ : EvI X E_X8_placeIn (if c < (S 0 b 1) then 46 else 95, [some (.inr (.inr (some (8, 0, 0)))), some (.inl b), some (.inl n), some (.inl u2), some (.inl v2), some (.inl r), some (.inl ((100 * b) + (10 * r))), some (.inl c)], [], M) _)
            refine ev_if (fun h43 => ?_) (fun h43 => ?_)
            · refine seg_ok 4 (?_ : EvI X E_X8_placeIn (52, [some (.inr (.inr (some (8, 0, 0)))), some (.inl b), some (.inl n), some (.inl u2), some (.inl v2), some (.inl r), some (.inl ((100 * b) + (10 * r))), some (.inl c)], [.inl n, .inl c, .inl ((100 * b) + (10 * r)), .inr (.inr (some (8, 0, 0)))], M) _)
              refine ev_clp (v := .inl (bi (are S ((100 * b) + (10 * r)) c n))) (z := z_X8_areOpen) (as := [.inr (.inr (some (8, 0, 0))), .inl ((100 * b) + (10 * r)), .inl c, .inl n]) (rest := []) rfl (c_areOpen hW (by omega) (by omega) (by omega)) (?_ : EvI X E_X8_placeIn (55, [some (.inr (.inr (some (8, 0, 0)))), some (.inl b), some (.inl n), some (.inl u2), some (.inl v2), some (.inl r), some (.inl ((100 * b) + (10 * r))), some (.inl c)], [.inl (bi (are S ((100 * b) + (10 * r)) c n))], M) _)
              refine seg_ok 1 (?_ : EvI X E_X8_placeIn (if (bi (are S ((100 * b) + (10 * r)) c n)) = 0 then 89 else 58, [some (.inr (.inr (some (8, 0, 0)))), some (.inl b), some (.inl n), some (.inl u2), some (.inl v2), some (.inl r), some (.inl ((100 * b) + (10 * r))), some (.inl c)], [], M) _)
              refine ev_ifb (fun h55 => ?_) (fun h55 => ?_)
              · refine seg_ok 2 (⟨by omega, ?_⟩ : ((-2147483648 : Int) ≤ (c + 1) ∧ (c + 1) < 2147483648) ∧ EvI X E_X8_placeIn (35, [some (.inr (.inr (some (8, 0, 0)))), some (.inl b), some (.inl n), some (.inl u2), some (.inl v2), some (.inl r), some (.inl ((100 * b) + (10 * r))), some (.inl (c + 1))], [], M) _)
                refine ih35 u2 v2 (c + 1) (by omega) (by omega) (by omega) (by rw [plC_step p1]; rw [cA_1 h55]; exact p3) (by rw [plC_step p1]; rw [cA_1 h55]; exact p4)
              · refine seg_ok 4 (?_ : EvI X E_X8_placeIn (64, [some (.inr (.inr (some (8, 0, 0)))), some (.inl b), some (.inl n), some (.inl u2), some (.inl v2), some (.inl r), some (.inl ((100 * b) + (10 * r))), some (.inl c)], [.inl n, .inl c, .inl ((100 * b) + (10 * r)), .inr (.inr (some (8, 0, 0)))], M) _)
                refine ev_clp (v := .inl (la S ((100 * b) + (10 * r)) c n)) (z := z_X8_leftAlone) (as := [.inr (.inr (some (8, 0, 0))), .inl ((100 * b) + (10 * r)), .inl c, .inl n]) (rest := []) rfl (c_leftAlone hW (by omega) (by omega) (by omega)) (?_ : EvI X E_X8_placeIn (67, [some (.inr (.inr (some (8, 0, 0)))), some (.inl b), some (.inl n), some (.inl u2), some (.inl v2), some (.inl r), some (.inl ((100 * b) + (10 * r))), some (.inl c)], [.inl (la S ((100 * b) + (10 * r)) c n)], M) _)
                refine seg_ok 2 (?_ : EvI X E_X8_placeIn (if (la S ((100 * b) + (10 * r)) c n) < v2 then 72 else 89, [some (.inr (.inr (some (8, 0, 0)))), some (.inl b), some (.inl n), some (.inl u2), some (.inl v2), some (.inl r), some (.inl ((100 * b) + (10 * r))), some (.inl c)], [], M) _)
                refine ev_if (fun h69 => ?_) (fun h69 => ?_)
                · refine seg_ok 8 (⟨by omega, ?_⟩ : ((-2147483648 : Int) ≤ (((100 * b) + (10 * r)) + c) ∧ (((100 * b) + (10 * r)) + c) < 2147483648) ∧ EvI X E_X8_placeIn (84, [some (.inr (.inr (some (8, 0, 0)))), some (.inl b), some (.inl n), some (.inl (((100 * b) + (10 * r)) + c)), some (.inl v2), some (.inl r), some (.inl ((100 * b) + (10 * r))), some (.inl c)], [.inl n, .inl c, .inl ((100 * b) + (10 * r)), .inr (.inr (some (8, 0, 0)))], M) _)
                  refine ev_clp (v := .inl (la S ((100 * b) + (10 * r)) c n)) (z := z_X8_leftAlone) (as := [.inr (.inr (some (8, 0, 0))), .inl ((100 * b) + (10 * r)), .inl c, .inl n]) (rest := []) rfl (c_leftAlone hW (by omega) (by omega) (by omega)) (?_ : EvI X E_X8_placeIn (87, [some (.inr (.inr (some (8, 0, 0)))), some (.inl b), some (.inl n), some (.inl (((100 * b) + (10 * r)) + c)), some (.inl v2), some (.inl r), some (.inl ((100 * b) + (10 * r))), some (.inl c)], [.inl (la S ((100 * b) + (10 * r)) c n)], M) _)
                  refine seg_ok 3 (⟨by omega, ?_⟩ : ((-2147483648 : Int) ≤ (c + 1) ∧ (c + 1) < 2147483648) ∧ EvI X E_X8_placeIn (35, [some (.inr (.inr (some (8, 0, 0)))), some (.inl b), some (.inl n), some (.inl (((100 * b) + (10 * r)) + c)), some (.inl (la S ((100 * b) + (10 * r)) c n)), some (.inl r), some (.inl ((100 * b) + (10 * r))), some (.inl (c + 1))], [], M) _)
                  refine ih35 (((100 * b) + (10 * r)) + c) (la S ((100 * b) + (10 * r)) c n) (c + 1) (by omega) (by omega) (by omega) (by rw [plC_step p1]; rw [cA_t h55 (by rw [← p4]; exact h69)]) (by rw [plC_step p1]; rw [cA_t h55 (by rw [← p4]; exact h69)])
                · refine seg_ok 2 (⟨by omega, ?_⟩ : ((-2147483648 : Int) ≤ (c + 1) ∧ (c + 1) < 2147483648) ∧ EvI X E_X8_placeIn (35, [some (.inr (.inr (some (8, 0, 0)))), some (.inl b), some (.inl n), some (.inl u2), some (.inl v2), some (.inl r), some (.inl ((100 * b) + (10 * r))), some (.inl (c + 1))], [], M) _)
                  refine ih35 u2 v2 (c + 1) (by omega) (by omega) (by omega) (by rw [plC_step p1]; rw [cA_2 (by rw [← p4]; exact h69)]; exact p3) (by rw [plC_step p1]; rw [cA_2 (by rw [← p4]; exact h69)]; exact p4)
            · refine seg_ok 2 (⟨by omega, ?_⟩ : ((-2147483648 : Int) ≤ (r + 1) ∧ (r + 1) < 2147483648) ∧ EvI X E_X8_placeIn (9, [some (.inr (.inr (some (8, 0, 0)))), some (.inl b), some (.inl n), some (.inl u2), some (.inl v2), some (.inl (r + 1)), some (.inl ((100 * b) + (10 * r))), some (.inl c)], [], M) _)
              refine ih9 u2 v2 (r + 1) (some (.inl ((100 * b) + (10 * r)))) (some (.inl c)) (by omega) (by omega) (by omega) (by rw [plR_step q1, p3, show c = S 0 b 1 by omega]) (by rw [plR_step q1, p4, show c = S 0 b 1 by omega])
        refine L35 ((S 0 b 1 - 0) + 1 : Int).toNat u v 0 (by omega) (by omega) (by omega) q3 q4
      · refine seg_ok 1 (?_ : EvI X E_X8_placeIn (102, [some (.inr (.inr (some (8, 0, 0)))), some (.inl b), some (.inl n), some (.inl u), some (.inl v), some (.inl r), d9_6, d9_7], [.inl u], M) _)
        refine ev_rt (r := some (.inl u)) rfl (?_)
        exact ⟨rint (by rw [q3, show r = S 0 b 0 by omega]; rfl), rfl⟩
  refine L9 ((S 0 b 0 - 0) + 1 : Int).toNat (-9) 3 0 none none (by omega) (by omega) (by omega) rfl rfl
theorem c_rank {m : Int} {M : NM} {S : Sl} (hW : RW m M S) {b : Int} (h1 : 0 ≤ b ∧ b < 6) : HT X z_X8_rank [.inr (.inr (some (8, 0, 0))), .inl b] M (fun r M' => r = some (.inl (rk S b)) ∧ M' = M) := by
  have hs := hW.1.1
  have hi := hW.2.1
  unfold Iv0 at hi
  refine ht_of (e := E_X8_rank) rfl (?_ : EvI X E_X8_rank (0, [some (.inr (.inr (some (8, 0, 0)))), some (.inl b), none, none], [], M) _)
  refine seg_ok 4 (?_ : EvI X E_X8_rank (4, [some (.inr (.inr (some (8, 0, 0)))), some (.inl b), some (.inl 0), some (.inl 0)], [], M) _)
  have L4 : ∀ (m4 : Nat) (n o : Int), S 1 0 3 - o < (m4 : Int) → (0 ≤ o) → (o ≤ S 1 0 3) → (n = sm (fun o => bi (S 0 o 2 < S 0 b 2)) o.toNat) → EvI X E_X8_rank (4, [some (.inr (.inr (some (8, 0, 0)))), some (.inl b), some (.inl n), some (.inl o)], [], M) (fun r M' => r = some (.inl (rk S b)) ∧ M' = M) := by
    intro m4
    induction m4 with
    | zero => intro n o hm4 q1 q2 q3; exact absurd hm4 (by omega)
    | succ m4 ih4 =>
      intro n o hm4 q1 q2 q3
      subst q3
      have q4 := smb_bnd (fun o => S 0 o 2 < S 0 b 2) o.toNat
      refine seg_ok 6 (⟨by omega, ?_⟩ : ((0 : Int) ≤ 6 ∧ (6 : Int) < 589) ∧ EvI X E_X8_rank (if o < (M 17 0 0 6) then 15 else 44, [some (.inr (.inr (some (8, 0, 0)))), some (.inl b), some (.inl (sm (fun o => bi (S 0 o 2 < S 0 b 2)) o.toNat)), some (.inl o)], [], M) _)
      refine ev_if (fun h12 => ?_) (fun h12 => ?_)
      · refine seg_ok 4 (?_ : EvI X E_X8_rank (19, [some (.inr (.inr (some (8, 0, 0)))), some (.inl b), some (.inl (sm (fun o => bi (S 0 o 2 < S 0 b 2)) o.toNat)), some (.inl o)], [.inl 2, .inl o, .inr (.inr (some (8, 0, 0))), .inl (sm (fun o => bi (S 0 o 2 < S 0 b 2)) o.toNat)], M) _)
        refine ev_clp (v := .inl (S 0 o 2)) (z := z_X8_of) (as := [.inr (.inr (some (8, 0, 0))), .inl o, .inl 2]) (rest := [.inl (sm (fun o => bi (S 0 o 2 < S 0 b 2)) o.toNat)]) rfl (c_of hW.1 (by omega) (by omega)) (?_ : EvI X E_X8_rank (22, [some (.inr (.inr (some (8, 0, 0)))), some (.inl b), some (.inl (sm (fun o => bi (S 0 o 2 < S 0 b 2)) o.toNat)), some (.inl o)], [.inl (S 0 o 2), .inl (sm (fun o => bi (S 0 o 2 < S 0 b 2)) o.toNat)], M) _)
        refine seg_ok 3 (?_ : EvI X E_X8_rank (25, [some (.inr (.inr (some (8, 0, 0)))), some (.inl b), some (.inl (sm (fun o => bi (S 0 o 2 < S 0 b 2)) o.toNat)), some (.inl o)], [.inl 2, .inl b, .inr (.inr (some (8, 0, 0))), .inl (S 0 o 2), .inl (sm (fun o => bi (S 0 o 2 < S 0 b 2)) o.toNat)], M) _)
        refine ev_clp (v := .inl (S 0 b 2)) (z := z_X8_of) (as := [.inr (.inr (some (8, 0, 0))), .inl b, .inl 2]) (rest := [.inl (S 0 o 2), .inl (sm (fun o => bi (S 0 o 2 < S 0 b 2)) o.toNat)]) rfl (c_of hW.1 (by omega) (by omega)) (?_ : EvI X E_X8_rank (28, [some (.inr (.inr (some (8, 0, 0)))), some (.inl b), some (.inl (sm (fun o => bi (S 0 o 2 < S 0 b 2)) o.toNat)), some (.inl o)], [.inl (S 0 b 2), .inl (S 0 o 2), .inl (sm (fun o => bi (S 0 o 2 < S 0 b 2)) o.toNat)], M) _)
        refine seg_ok 1 (?_ : EvI X E_X8_rank (if (S 0 o 2) < (S 0 b 2) then 31 else 35, [some (.inr (.inr (some (8, 0, 0)))), some (.inl b), some (.inl (sm (fun o => bi (S 0 o 2 < S 0 b 2)) o.toNat)), some (.inl o)], [.inl (sm (fun o => bi (S 0 o 2 < S 0 b 2)) o.toNat)], M) _)
        refine ev_if (fun h28 => ?_) (fun h28 => ?_)
        · refine seg_ok 6 (⟨by omega, by omega, ?_⟩ : ((-2147483648 : Int) ≤ ((sm (fun o => bi (S 0 o 2 < S 0 b 2)) o.toNat) + 1) ∧ ((sm (fun o => bi (S 0 o 2 < S 0 b 2)) o.toNat) + 1) < 2147483648) ∧ ((-2147483648 : Int) ≤ (o + 1) ∧ (o + 1) < 2147483648) ∧ EvI X E_X8_rank (4, [some (.inr (.inr (some (8, 0, 0)))), some (.inl b), some (.inl ((sm (fun o => bi (S 0 o 2 < S 0 b 2)) o.toNat) + 1)), some (.inl (o + 1))], [], M) _)
          refine ih4 ((sm (fun o => bi (S 0 o 2 < S 0 b 2)) o.toNat) + 1) (o + 1) (by omega) (by omega) (by omega) (by rw [sm_step q1, bi_t h28])
        · refine seg_ok 5 (⟨by omega, by omega, ?_⟩ : ((-2147483648 : Int) ≤ ((sm (fun o => bi (S 0 o 2 < S 0 b 2)) o.toNat) + 0) ∧ ((sm (fun o => bi (S 0 o 2 < S 0 b 2)) o.toNat) + 0) < 2147483648) ∧ ((-2147483648 : Int) ≤ (o + 1) ∧ (o + 1) < 2147483648) ∧ EvI X E_X8_rank (4, [some (.inr (.inr (some (8, 0, 0)))), some (.inl b), some (.inl ((sm (fun o => bi (S 0 o 2 < S 0 b 2)) o.toNat) + 0)), some (.inl (o + 1))], [], M) _)
          refine ih4 ((sm (fun o => bi (S 0 o 2 < S 0 b 2)) o.toNat) + 0) (o + 1) (by omega) (by omega) (by omega) (by rw [sm_step q1, bi_f h28])
      · refine seg_ok 1 (?_ : EvI X E_X8_rank (45, [some (.inr (.inr (some (8, 0, 0)))), some (.inl b), some (.inl (sm (fun o => bi (S 0 o 2 < S 0 b 2)) o.toNat)), some (.inl o)], [.inl (sm (fun o => bi (S 0 o 2 < S 0 b 2)) o.toNat)], M) _)
        refine ev_rt (r := some (.inl (sm (fun o => bi (S 0 o 2 < S 0 b 2)) o.toNat))) rfl (?_)
        exact ⟨rint (by rw [show o = S 1 0 3 by omega]; rfl), rfl⟩
  refine L4 ((S 1 0 3 - 0) + 1 : Int).toNat 0 0 (by omega) (by omega) (by omega) rfl
end
