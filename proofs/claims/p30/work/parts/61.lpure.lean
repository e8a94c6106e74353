/-! 61: the law: its own methods that only look -/
section
variable {X : XI}
theorem l_cell {M : NM} {k : Int} (hk : 0 ≤ k ∧ k < 60) : HT X z_L_cell [.inr (.inr (some (30, 0, 0))), .inl k] M (fun r M' => (∃ v, r = some (.inl v)) ∧ M' = M) := by
  refine ht_of (e := E_L_cell) rfl (?_ : EvI X E_L_cell (0, [some (.inr (.inr (some (30, 0, 0)))), some (.inl k)], [], M) _)
  refine seg_ok 4 (?_ : EvI X E_L_cell (if k < X.1 then 6 else 12, [some (.inr (.inr (some (30, 0, 0)))), some (.inl k)], [], M) _)
  refine ev_if (fun h3 => ?_) (fun h3 => ?_)
  · refine seg_ok 4 (⟨by omega, ?_⟩ : ((0 : Int) ≤ k ∧ k < X.1) ∧ EvI X E_L_cell (18, [some (.inr (.inr (some (30, 0, 0)))), some (.inl k)], [.inl (X.2 k)], M) _)
    refine ev_rt (r := some (.inl (X.2 k))) rfl (?_)
    exact ⟨⟨_, rfl⟩, rfl⟩
  · refine seg_ok 5 (⟨by omega, ?_⟩ : ((-2147483648 : Int) ≤ (k + 1) ∧ (k + 1) < 2147483648) ∧ EvI X E_L_cell (18, [some (.inr (.inr (some (30, 0, 0)))), some (.inl k)], [.inl (wrI (1013904223 * (k + 1)))], M) _)
    refine ev_rt (r := some (.inl (wrI (1013904223 * (k + 1))))) rfl (?_)
    exact ⟨⟨_, rfl⟩, rfl⟩
theorem l_low {M : NM} {v n : Int} (hn : 0 < n) : HT X z_L_low [.inl v, .inl n] M (fun rr MM => rr = some (.inl (lo v n)) ∧ MM = M) := by
  have h0 := and_top v
  refine ht_of (e := E_L_low) rfl (?_ : EvI X E_L_low (0, [some (.inl v), some (.inl n)], [], M) _)
  refine seg_ok 5 (⟨by omega, ?_⟩ : ((0 : Int) ≤ (andI v 2147483647) ∧ (0 : Int) < n) ∧ EvI X E_L_low (6, [some (.inl v), some (.inl n)], [.inl ((andI v 2147483647) % n)], M) _)
  refine ev_rt (r := some (.inl ((andI v 2147483647) % n))) rfl (?_)
  exact ⟨rfl, rfl⟩
theorem l_at {M : NM} {c : Int} (h : 0 ≤ c ∧ c < 600) : HT X z_L_at [.inl c] M (fun rr MM => rr = some (.inl (21 * (c / 100) + 7 * (c / 10 % 10) + c % 10)) ∧ MM = M) := by
  refine ht_of (e := E_L_at) rfl (?_ : EvI X E_L_at (0, [some (.inl c)], [], M) _)
  refine seg_ok 17 (⟨by omega, by omega, by omega, by omega, by omega, by omega, by omega, by omega, ?_⟩ : ((0 : Int) ≤ c ∧ (0 : Int) < 100) ∧ ((-2147483648 : Int) ≤ (21 * (c / 100)) ∧ (21 * (c / 100)) < 2147483648) ∧ ((0 : Int) ≤ c ∧ (0 : Int) < 10) ∧ ((0 : Int) ≤ (c / 10) ∧ (0 : Int) < 10) ∧ ((-2147483648 : Int) ≤ (7 * ((c / 10) % 10)) ∧ (7 * ((c / 10) % 10)) < 2147483648) ∧ ((-2147483648 : Int) ≤ ((21 * (c / 100)) + (7 * ((c / 10) % 10))) ∧ ((21 * (c / 100)) + (7 * ((c / 10) % 10))) < 2147483648) ∧ ((0 : Int) ≤ c ∧ (0 : Int) < 10) ∧ ((-2147483648 : Int) ≤ (((21 * (c / 100)) + (7 * ((c / 10) % 10))) + (c % 10)) ∧ (((21 * (c / 100)) + (7 * ((c / 10) % 10))) + (c % 10)) < 2147483648) ∧ EvI X E_L_at (23, [some (.inl c)], [.inl (((21 * (c / 100)) + (7 * ((c / 10) % 10))) + (c % 10))], M) _)
  refine ev_rt (r := some (.inl (((21 * (c / 100)) + (7 * ((c / 10) % 10))) + (c % 10)))) rfl (?_)
  exact ⟨rfl, rfl⟩
theorem l_isChair {m : Int} {M : NM} {S : Sl} (hW : LW m M S) {b r c : Int} (h1 : 0 ≤ b ∧ b < 3) (h2 : 0 ≤ r ∧ r < 3) : HT X z_L_isChair [.inr (.inr (some (17, 9, 0))), .inr (.inr (some (18, 9, 0))), .inl b, .inl r, .inl c] M (fun rr MM => rr = some (.inl (bi ((0 ≤ c ∧ c ≤ 9) ∧ isCh S (100 * b + 10 * r + c)))) ∧ MM = M) := by
  have hi := hW.2.1.1
  unfold Iv0 at hi
  have hB := hW.2.2
  have hb3 := hB.1
  refine ht_of (e := E_L_isChair) rfl (?_ : EvI X E_L_isChair (0, [some (.inr (.inr (some (17, 9, 0)))), some (.inr (.inr (some (18, 9, 0)))), some (.inl b), some (.inl r), some (.inl c)], [], M) _)
  refine seg_ok 4 (⟨by omega, ?_⟩ : ((0 : Int) ≤ 6 ∧ (6 : Int) < 11) ∧ EvI X E_L_isChair (5, [some (.inr (.inr (some (17, 9, 0)))), some (.inr (.inr (some (18, 9, 0)))), some (.inl b), some (.inl r), some (.inl c)], [.inl (M 17 9 0 6), .inl b], M) _)
  rw [show (M 17 9 0 6) = (S 1 0 3) from lc6 (hW.1)]
  refine seg_ok 1 (?_ : EvI X E_L_isChair (if b < (S 1 0 3) then 8 else 42, [some (.inr (.inr (some (17, 9, 0)))), some (.inr (.inr (some (18, 9, 0)))), some (.inl b), some (.inl r), some (.inl c)], [], M) _)
  refine ev_if (fun h5 => ?_) (fun h5 => ?_)
  · refine seg_ok 2 (?_ : EvI X E_L_isChair (if r < 0 then 42 else 12, [some (.inr (.inr (some (17, 9, 0)))), some (.inr (.inr (some (18, 9, 0)))), some (.inl b), some (.inl r), some (.inl c)], [], M) _)
    refine ev_if (fun h9 => ?_) (fun h9 => ?_)
    · refine seg_ok 1 (?_ : EvI X E_L_isChair (43, [some (.inr (.inr (some (17, 9, 0)))), some (.inr (.inr (some (18, 9, 0)))), some (.inl b), some (.inl r), some (.inl c)], [.inl 0], M) _)
      refine ev_rt (r := some (.inl 0)) rfl (⟨by decide, ?_⟩)
      exact ⟨rint (is0 (fun z => by have q := (isCh_at h1.1 (by omega) z.1).mp z.2; omega)), rfl⟩
    · refine seg_ok 6 (⟨by omega, by omega, ?_⟩ : ((-2147483648 : Int) ≤ (3 * b) ∧ (3 * b) < 2147483648) ∧ ((0 : Int) ≤ (3 * b) ∧ ((3 * b) : Int) < 9) ∧ EvI X E_L_isChair (18, [some (.inr (.inr (some (17, 9, 0)))), some (.inr (.inr (some (18, 9, 0)))), some (.inl b), some (.inl r), some (.inl c)], [.inl (M 18 9 0 (3 * b)), .inl r], M) _)
      rw [show (M 18 9 0 (3 * b)) = (S 0 b 0) from rl_blk0 (hW.1) (by omega)]
      refine seg_ok 1 (?_ : EvI X E_L_isChair (if r < (S 0 b 0) then 21 else 42, [some (.inr (.inr (some (17, 9, 0)))), some (.inr (.inr (some (18, 9, 0)))), some (.inl b), some (.inl r), some (.inl c)], [], M) _)
      refine ev_if (fun h18 => ?_) (fun h18 => ?_)
      · refine seg_ok 2 (?_ : EvI X E_L_isChair (if c < 0 then 42 else 26, [some (.inr (.inr (some (17, 9, 0)))), some (.inr (.inr (some (18, 9, 0)))), some (.inl b), some (.inl r), some (.inl c)], [], M) _)
        refine ev_if (fun h23 => ?_) (fun h23 => ?_)
        · refine seg_ok 1 (?_ : EvI X E_L_isChair (43, [some (.inr (.inr (some (17, 9, 0)))), some (.inr (.inr (some (18, 9, 0)))), some (.inl b), some (.inl r), some (.inl c)], [.inl 0], M) _)
          refine ev_rt (r := some (.inl 0)) rfl (⟨by decide, ?_⟩)
          exact ⟨rint (is0 (fun z => by have q := (isCh_at h1.1 (by omega) z.1).mp z.2; omega)), rfl⟩
        · refine seg_ok 8 (⟨by omega, by omega, by omega, ?_⟩ : ((-2147483648 : Int) ≤ (3 * b) ∧ (3 * b) < 2147483648) ∧ ((-2147483648 : Int) ≤ ((3 * b) + 1) ∧ ((3 * b) + 1) < 2147483648) ∧ ((0 : Int) ≤ ((3 * b) + 1) ∧ (((3 * b) + 1) : Int) < 9) ∧ EvI X E_L_isChair (35, [some (.inr (.inr (some (17, 9, 0)))), some (.inr (.inr (some (18, 9, 0)))), some (.inl b), some (.inl r), some (.inl c)], [.inl (M 18 9 0 ((3 * b) + 1)), .inl c], M) _)
          rw [show (M 18 9 0 ((3 * b) + 1)) = (S 0 b 1) from rl_blk (hW.1) (by omega) (by omega)]
          refine seg_ok 1 (?_ : EvI X E_L_isChair (if c < (S 0 b 1) then 38 else 42, [some (.inr (.inr (some (17, 9, 0)))), some (.inr (.inr (some (18, 9, 0)))), some (.inl b), some (.inl r), some (.inl c)], [], M) _)
          refine ev_if (fun h35 => ?_) (fun h35 => ?_)
          · refine seg_ok 2 (?_ : EvI X E_L_isChair (43, [some (.inr (.inr (some (17, 9, 0)))), some (.inr (.inr (some (18, 9, 0)))), some (.inl b), some (.inl r), some (.inl c)], [.inl 1], M) _)
            refine ev_rt (r := some (.inl 1)) rfl (⟨by decide, ?_⟩)
            exact ⟨rint (is1 (by have q := hB.2.2.2.2 b h1.1 h5; exact ⟨by omega, (isCh_at h1.1 (by omega) (by omega)).mpr (by omega)⟩)), rfl⟩
          · refine seg_ok 1 (?_ : EvI X E_L_isChair (43, [some (.inr (.inr (some (17, 9, 0)))), some (.inr (.inr (some (18, 9, 0)))), some (.inl b), some (.inl r), some (.inl c)], [.inl 0], M) _)
            refine ev_rt (r := some (.inl 0)) rfl (⟨by decide, ?_⟩)
            exact ⟨rint (is0 (fun z => by have q := (isCh_at h1.1 (by omega) z.1).mp z.2; omega)), rfl⟩
      · refine seg_ok 1 (?_ : EvI X E_L_isChair (43, [some (.inr (.inr (some (17, 9, 0)))), some (.inr (.inr (some (18, 9, 0)))), some (.inl b), some (.inl r), some (.inl c)], [.inl 0], M) _)
        refine ev_rt (r := some (.inl 0)) rfl (⟨by decide, ?_⟩)
        exact ⟨rint (is0 (fun z => by have q := (isCh_at h1.1 (by omega) z.1).mp z.2; omega)), rfl⟩
  · refine seg_ok 1 (?_ : EvI X E_L_isChair (43, [some (.inr (.inr (some (17, 9, 0)))), some (.inr (.inr (some (18, 9, 0)))), some (.inl b), some (.inl r), some (.inl c)], [.inl 0], M) _)
    refine ev_rt (r := some (.inl 0)) rfl (⟨by decide, ?_⟩)
    exact ⟨rint (is0 (fun z => by have q := (isCh_at h1.1 (by omega) z.1).mp z.2; omega)), rfl⟩
set_option maxRecDepth 1890 in
theorem l_isOpen {m : Int} {M : NM} {S : Sl} (hW : LW m M S) {b r c : Int} (h1 : 0 ≤ b ∧ b < 3) (h2 : 0 ≤ r ∧ r < 3) : HT X z_L_isOpen [.inr (.inr (some (17, 9, 0))), .inr (.inr (some (18, 9, 0))), .inr (.inr (some (19, 9, 0))), .inl b, .inl r, .inl c] M (fun rr MM => rr = some (.inl (bi (opn S (100 * b + 10 * r) c))) ∧ MM = M) := by
  have hi := hW.2.1.1
  unfold Iv0 at hi
  have hB := hW.2.2
  have hb3 := hB.1
  refine ht_of (e := E_L_isOpen) rfl (?_ : EvI X E_L_isOpen (0, [some (.inr (.inr (some (17, 9, 0)))), some (.inr (.inr (some (18, 9, 0)))), some (.inr (.inr (some (19, 9, 0)))), some (.inl b), some (.inl r), some (.inl c)], [], M) _)
  refine seg_ok 5 (?_ : EvI X E_L_isOpen (7, [some (.inr (.inr (some (17, 9, 0)))), some (.inr (.inr (some (18, 9, 0)))), some (.inr (.inr (some (19, 9, 0)))), some (.inl b), some (.inl r), some (.inl c)], [.inl c, .inl r, .inl b, .inr (.inr (some (18, 9, 0))), .inr (.inr (some (17, 9, 0)))], M) _)
  refine ev_clp (v := .inl (bi ((0 ≤ c ∧ c ≤ 9) ∧ isCh S (100 * b + 10 * r + c)))) (z := z_L_isChair) (as := [.inr (.inr (some (17, 9, 0))), .inr (.inr (some (18, 9, 0))), .inl b, .inl r, .inl c]) (rest := []) rfl (l_isChair hW (by omega) (by omega)) (?_ : EvI X E_L_isOpen (10, [some (.inr (.inr (some (17, 9, 0)))), some (.inr (.inr (some (18, 9, 0)))), some (.inr (.inr (some (19, 9, 0)))), some (.inl b), some (.inl r), some (.inl c)], [.inl (bi ((0 ≤ c ∧ c ≤ 9) ∧ isCh S (100 * b + 10 * r + c)))], M) _)
  refine seg_ok 1 (?_ : EvI X E_L_isOpen (if (bi ((0 ≤ c ∧ c ≤ 9) ∧ isCh S (100 * b + 10 * r + c))) = 0 then 62 else 13, [some (.inr (.inr (some (17, 9, 0)))), some (.inr (.inr (some (18, 9, 0)))), some (.inr (.inr (some (19, 9, 0)))), some (.inl b), some (.inl r), some (.inl c)], [], M) _)
  refine ev_ifb (fun h10 => ?_) (fun h10 => ?_)
  · refine seg_ok 1 (?_ : EvI X E_L_isOpen (63, [some (.inr (.inr (some (17, 9, 0)))), some (.inr (.inr (some (18, 9, 0)))), some (.inr (.inr (some (19, 9, 0)))), some (.inl b), some (.inl r), some (.inl c)], [.inl 0], M) _)
    refine ev_rt (r := some (.inl 0)) rfl (⟨by decide, ?_⟩)
    exact ⟨rint (is0 (fun z => h10 ⟨z.1, z.2.1⟩)), rfl⟩
  · have h10b := (isCh_at h1.1 (by omega) h10.1).mp h10.2
    have q0 := hB.2.2.2.2 b h1.1 h10b.1
    have q := aat hW h1 h2 (show 0 ≤ c ∧ c < 7 by omega)
    refine seg_ok 14 (⟨by omega, by omega, by omega, by omega, by omega, ?_⟩ : ((-2147483648 : Int) ≤ (21 * b) ∧ (21 * b) < 2147483648) ∧ ((-2147483648 : Int) ≤ (7 * r) ∧ (7 * r) < 2147483648) ∧ ((-2147483648 : Int) ≤ ((21 * b) + (7 * r)) ∧ ((21 * b) + (7 * r)) < 2147483648) ∧ ((-2147483648 : Int) ≤ (((21 * b) + (7 * r)) + c) ∧ (((21 * b) + (7 * r)) + c) < 2147483648) ∧ ((0 : Int) ≤ (((21 * b) + (7 * r)) + c) ∧ (((21 * b) + (7 * r)) + c) < 63) ∧ EvI X E_L_isOpen (if (andI (M 19 9 0 (((21 * b) + (7 * r)) + c)) 3) = 0 then 33 else 62, [some (.inr (.inr (some (17, 9, 0)))), some (.inr (.inr (some (18, 9, 0)))), some (.inr (.inr (some (19, 9, 0)))), some (.inl b), some (.inl r), some (.inl c)], [], M) _)
    refine ev_if (fun h30 => ?_) (fun h30 => ?_)
    · have e30 : S 13 0 (100 * b + 10 * r + c) = 0 := by rw [q.1, b_and3 q.2.1 q.2.2] at h30; exact h30
      refine seg_ok 16 (⟨by omega, by omega, by omega, by omega, by omega, by omega, ?_⟩ : ((-2147483648 : Int) ≤ (21 * b) ∧ (21 * b) < 2147483648) ∧ ((-2147483648 : Int) ≤ (7 * r) ∧ (7 * r) < 2147483648) ∧ ((-2147483648 : Int) ≤ ((21 * b) + (7 * r)) ∧ ((21 * b) + (7 * r)) < 2147483648) ∧ ((-2147483648 : Int) ≤ (((21 * b) + (7 * r)) + c) ∧ (((21 * b) + (7 * r)) + c) < 2147483648) ∧ ((0 : Int) ≤ (((21 * b) + (7 * r)) + c) ∧ (((21 * b) + (7 * r)) + c) < 63) ∧ ((0 : Int) ≤ 10 ∧ (10 : Int) < 11) ∧ EvI X E_L_isOpen (54, [some (.inr (.inr (some (17, 9, 0)))), some (.inr (.inr (some (18, 9, 0)))), some (.inr (.inr (some (19, 9, 0)))), some (.inl b), some (.inl r), some (.inl c)], [.inl (M 17 9 0 10), .inl (shrI (M 19 9 0 (((21 * b) + (7 * r)) + c)) 2)], M) _)
      rw [show (M 17 9 0 10) = (S 1 0 5) from lc10 (hW.1)]
      refine seg_ok 2 (?_ : EvI X E_L_isOpen (if (andI (shrI (M 19 9 0 (((21 * b) + (7 * r)) + c)) 2) (S 1 0 5)) = 0 then 58 else 62, [some (.inr (.inr (some (17, 9, 0)))), some (.inr (.inr (some (18, 9, 0)))), some (.inr (.inr (some (19, 9, 0)))), some (.inl b), some (.inl r), some (.inl c)], [], M) _)
      refine ev_if (fun h55 => ?_) (fun h55 => ?_)
      · rw [q.1, b_shr2 q.2.1 q.2.2] at h55
        refine seg_ok 2 (?_ : EvI X E_L_isOpen (63, [some (.inr (.inr (some (17, 9, 0)))), some (.inr (.inr (some (18, 9, 0)))), some (.inr (.inr (some (19, 9, 0)))), some (.inl b), some (.inl r), some (.inl c)], [.inl 1], M) _)
        refine ev_rt (r := some (.inl 1)) rfl (⟨by decide, ?_⟩)
        exact ⟨rint (is1 ⟨h10.1, h10.2, e30, by show andI _ _ ≠ 0 → False; intro z; exact z h55⟩), rfl⟩
      · rw [q.1, b_shr2 q.2.1 q.2.2] at h55
        refine seg_ok 1 (?_ : EvI X E_L_isOpen (63, [some (.inr (.inr (some (17, 9, 0)))), some (.inr (.inr (some (18, 9, 0)))), some (.inr (.inr (some (19, 9, 0)))), some (.inl b), some (.inl r), some (.inl c)], [.inl 0], M) _)
        refine ev_rt (r := some (.inl 0)) rfl (⟨by decide, ?_⟩)
        exact ⟨rint (is0 (fun z => z.2.2.2 h55)), rfl⟩
    · refine seg_ok 1 (?_ : EvI X E_L_isOpen (63, [some (.inr (.inr (some (17, 9, 0)))), some (.inr (.inr (some (18, 9, 0)))), some (.inr (.inr (some (19, 9, 0)))), some (.inl b), some (.inl r), some (.inl c)], [.inl 0], M) _)
      refine ev_rt (r := some (.inl 0)) rfl (⟨by decide, ?_⟩)
      exact ⟨rint (is0 (fun z => h30 (by rw [q.1, b_and3 q.2.1 q.2.2]; exact z.2.2.1))), rfl⟩
end
