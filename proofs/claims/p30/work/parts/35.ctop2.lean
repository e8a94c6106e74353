/-! 35: the class: calls that look; chain -/
section
variable {X : XI}
theorem d_block {m : Int} {M : NM} (hI : Inv m (sl M 0)) {b w : Int} : HT X z_X7_block [.inr (.inr (some (7, 0, 0))), .inl b, .inl w] M (fun rr MM => rr = some (.inl (bkF (sl M 0) b w)) ∧ MM = M) := by
  refine ht_of (e := E_X7_block) rfl (?_ : EvI X E_X7_block (0, [some (.inr (.inr (some (7, 0, 0)))), some (.inl b), some (.inl w)], [], M) _)
  refine seg_ok 5 (?_ : EvI X E_X7_block (9, [some (.inr (.inr (some (7, 0, 0)))), some (.inl b), some (.inl w)], [.inl w, .inl b, .inr (.inr (some (1, 0, 0)))], M) _)
  refine ev_clp (v := .inl (bkF (sl M 0) b w)) (z := z_X1_blockFigure) (as := [.inr (.inr (some (1, 0, 0))), .inl b, .inl w]) (rest := []) rfl (d_blockFigure hI) (?_ : EvI X E_X7_block (12, [some (.inr (.inr (some (7, 0, 0)))), some (.inl b), some (.inl w)], [.inl (bkF (sl M 0) b w)], M) _)
  refine ev_rt (r := some (.inl (bkF (sl M 0) b w))) rfl (?_)
  exact ⟨rfl, rfl⟩
theorem d_chair {m : Int} {M : NM} (hI : Inv m (sl M 0)) {c : Int} : HT X z_X7_chair [.inr (.inr (some (7, 0, 0))), .inl c] M (fun rr MM => rr = some (.inl (chS (sl M 0) c)) ∧ MM = M) := by
  refine ht_of (e := E_X7_chair) rfl (?_ : EvI X E_X7_chair (0, [some (.inr (.inr (some (7, 0, 0)))), some (.inl c)], [], M) _)
  refine seg_ok 4 (?_ : EvI X E_X7_chair (8, [some (.inr (.inr (some (7, 0, 0)))), some (.inl c)], [.inl c, .inr (.inr (some (1, 0, 0)))], M) _)
  refine ev_clp (v := .inl (chS (sl M 0) c)) (z := z_X1_chairFigure) (as := [.inr (.inr (some (1, 0, 0))), .inl c]) (rest := []) rfl (d_chairFigure hI) (?_ : EvI X E_X7_chair (11, [some (.inr (.inr (some (7, 0, 0)))), some (.inl c)], [.inl (chS (sl M 0) c)], M) _)
  refine ev_rt (r := some (.inl (chS (sl M 0) c))) rfl (?_)
  exact ⟨rfl, rfl⟩
theorem d_holdOf {m : Int} {M : NM} (hI : Inv m (sl M 0)) {b w : Int} : HT X z_X7_holdOf [.inr (.inr (some (7, 0, 0))), .inl b, .inl w] M (fun rr MM => rr = some (.inl (cif ((0 ≤ b ∧ b < M 5 0 0 3) ∧ (0 ≤ w ∧ w ≤ 4)) (M 3 0 b w) (-1))) ∧ MM = M) := by
  refine ht_of (e := E_X7_holdOf) rfl (?_ : EvI X E_X7_holdOf (0, [some (.inr (.inr (some (7, 0, 0)))), some (.inl b), some (.inl w)], [], M) _)
  refine seg_ok 4 (?_ : EvI X E_X7_holdOf (6, [some (.inr (.inr (some (7, 0, 0)))), some (.inl b), some (.inl w)], [.inl w, .inl b, .inr (.inr (some (5, 0, 0)))], M) _)
  refine ev_clp (v := .inl (cif ((0 ≤ b ∧ b < M 5 0 0 3) ∧ (0 ≤ w ∧ w ≤ 4)) (M 3 0 b w) (-1))) (z := z_X5_holdFigure) (as := [.inr (.inr (some (5, 0, 0))), .inl b, .inl w]) (rest := []) rfl (d_holdFigure hI) (?_ : EvI X E_X7_holdOf (9, [some (.inr (.inr (some (7, 0, 0)))), some (.inl b), some (.inl w)], [.inl (cif ((0 ≤ b ∧ b < M 5 0 0 3) ∧ (0 ≤ w ∧ w ≤ 4)) (M 3 0 b w) (-1))], M) _)
  refine ev_rt (r := some (.inl (cif ((0 ≤ b ∧ b < M 5 0 0 3) ∧ (0 ≤ w ∧ w ≤ 4)) (M 3 0 b w) (-1)))) rfl (?_)
  exact ⟨rfl, rfl⟩
theorem d_ticket {m : Int} {M : NM} (hI : Inv m (sl M 0)) {b w : Int} : HT X z_X7_ticket [.inr (.inr (some (7, 0, 0))), .inl b, .inl w] M (fun rr MM => rr = some (.inl (cif ((0 ≤ b ∧ b < M 5 0 0 4) ∧ (0 ≤ w ∧ w ≤ 4)) (M 6 0 b w) (-1))) ∧ MM = M) := by
  refine ht_of (e := E_X7_ticket) rfl (?_ : EvI X E_X7_ticket (0, [some (.inr (.inr (some (7, 0, 0)))), some (.inl b), some (.inl w)], [], M) _)
  refine seg_ok 4 (?_ : EvI X E_X7_ticket (6, [some (.inr (.inr (some (7, 0, 0)))), some (.inl b), some (.inl w)], [.inl w, .inl b, .inr (.inr (some (5, 0, 0)))], M) _)
  refine ev_clp (v := .inl (cif ((0 ≤ b ∧ b < M 5 0 0 4) ∧ (0 ≤ w ∧ w ≤ 4)) (M 6 0 b w) (-1))) (z := z_X5_ticketFigure) (as := [.inr (.inr (some (5, 0, 0))), .inl b, .inl w]) (rest := []) rfl (d_ticketFigure hI) (?_ : EvI X E_X7_ticket (9, [some (.inr (.inr (some (7, 0, 0)))), some (.inl b), some (.inl w)], [.inl (cif ((0 ≤ b ∧ b < M 5 0 0 4) ∧ (0 ≤ w ∧ w ≤ 4)) (M 6 0 b w) (-1))], M) _)
  refine ev_rt (r := some (.inl (cif ((0 ≤ b ∧ b < M 5 0 0 4) ∧ (0 ≤ w ∧ w ≤ 4)) (M 6 0 b w) (-1)))) rfl (?_)
  exact ⟨rfl, rfl⟩
theorem d_wouldKill {m : Int} {M : NM} (hI : Inv m (sl M 0)) {x : Int} : HT X z_X7_wouldKill [.inr (.inr (some (7, 0, 0))), .inl x] M (fun rr MM => rr = some (.inl (nkF (sl M 0) x)) ∧ MM = M) := by
  refine ht_of (e := E_X7_wouldKill) rfl (?_ : EvI X E_X7_wouldKill (0, [some (.inr (.inr (some (7, 0, 0)))), some (.inl x)], [], M) _)
  refine seg_ok 4 (?_ : EvI X E_X7_wouldKill (8, [some (.inr (.inr (some (7, 0, 0)))), some (.inl x)], [.inl x, .inr (.inr (some (1, 0, 0)))], M) _)
  refine ev_clp (v := .inl (nkF (sl M 0) x)) (z := z_X1_newlyKilled) (as := [.inr (.inr (some (1, 0, 0))), .inl x]) (rest := []) rfl (d_newlyKilled hI) (?_ : EvI X E_X7_wouldKill (11, [some (.inr (.inr (some (7, 0, 0)))), some (.inl x)], [.inl (nkF (sl M 0) x)], M) _)
  refine ev_rt (r := some (.inl (nkF (sl M 0) x))) rfl (?_)
  exact ⟨rfl, rfl⟩
theorem d_nextExpiry {m : Int} {M : NM} (hI : Inv m (sl M 0))  : HT X z_X7_nextExpiry [.inr (.inr (some (7, 0, 0)))] M (fun rr MM => rr = some (.inl (neN (sl M 0) (M 5 0 0 3).toNat)) ∧ MM = M) := by
  refine ht_of (e := E_X7_nextExpiry) rfl (?_ : EvI X E_X7_nextExpiry (0, [some (.inr (.inr (some (7, 0, 0))))], [], M) _)
  refine seg_ok 2 (?_ : EvI X E_X7_nextExpiry (4, [some (.inr (.inr (some (7, 0, 0))))], [.inr (.inr (some (5, 0, 0)))], M) _)
  refine ev_clp (v := .inl (neN (sl M 0) (M 5 0 0 3).toNat)) (z := z_X5_minutesToExpiry) (as := [.inr (.inr (some (5, 0, 0)))]) (rest := []) rfl (d_minutesToExpiry hI) (?_ : EvI X E_X7_nextExpiry (7, [some (.inr (.inr (some (7, 0, 0))))], [.inl (neN (sl M 0) (M 5 0 0 3).toNat)], M) _)
  refine ev_rt (r := some (.inl (neN (sl M 0) (M 5 0 0 3).toNat))) rfl (?_)
  exact ⟨rfl, rfl⟩

theorem d_place {m : Int} {M : NM} (hI : Inv m (sl M 0)) {b n : Int} : HT X z_X7_place [.inr (.inr (some (7, 0, 0))), .inl b, .inl n] M (fun rr MM => rr = some (.inl (cif ((0 ≤ b ∧ b < M 1 0 0 3) ∧ (1 ≤ n ∧ n ≤ 10)) (pl (sl M 0) b n) (-1))) ∧ MM = M) := by
  have hi := hI.1
  simp only [Iv0, sl] at hi
  refine ht_of (e := E_X7_place) rfl (?_ : EvI X E_X7_place (0, [some (.inr (.inr (some (7, 0, 0)))), some (.inl b), some (.inl n)], [], M) _)
  refine seg_ok 4 (?_ : EvI X E_X7_place (8, [some (.inr (.inr (some (7, 0, 0)))), some (.inl b), some (.inl n)], [.inl b, .inr (.inr (some (1, 0, 0)))], M) _)
  by_cases hb : 0 ≤ b ∧ b < M 1 0 0 3
  · refine ev_clp (v := .inr (.inr (some (0, 0, b)))) (z := z_X1_blockAt) (as := [.inr (.inr (some (1, 0, 0))), .inl b]) (rest := []) rfl (d_blockAt_t hb (by omega)) (?_ : EvI X E_X7_place (11, [some (.inr (.inr (some (7, 0, 0)))), some (.inl b), some (.inl n)], [.inr (.inr (some (0, 0, b)))], M) _)
    refine seg_ok 2 (?_ : EvI X E_X7_place (15, [some (.inr (.inr (some (7, 0, 0)))), some (.inl b), some (.inl n)], [.inl n], M) _)
    refine ev_clp (v := .inl (bi (1 ≤ n ∧ n ≤ 10))) (z := z_X1_isGroup) (as := [.inl n]) (rest := []) rfl d_isGroup (?_ : EvI X E_X7_place (18, [some (.inr (.inr (some (7, 0, 0)))), some (.inl b), some (.inl n)], [.inl (bi (1 ≤ n ∧ n ≤ 10))], M) _)
    refine seg_ok 1 (?_ : EvI X E_X7_place (if (bi (1 ≤ n ∧ n ≤ 10)) = 0 then 21 else 23, [some (.inr (.inr (some (7, 0, 0)))), some (.inl b), some (.inl n)], [], M) _)
    refine ev_ifb (fun h18 => ?_) (fun h18 => ?_)
    · refine seg_ok 1 (?_ : EvI X E_X7_place (22, [some (.inr (.inr (some (7, 0, 0)))), some (.inl b), some (.inl n)], [.inl (-1)], M) _)
      refine ev_rt (r := some (.inl (-1))) rfl (?_)
      exact ⟨rint (cA_2 h18).symm, rfl⟩
    · refine seg_ok 5 (?_ : EvI X E_X7_place (32, [some (.inr (.inr (some (7, 0, 0)))), some (.inl b), some (.inl n)], [.inl n, .inl b, .inr (.inr (some (1, 0, 0)))], M) _)
      refine ev_clp (v := .inl (pl (sl M 0) b n)) (z := z_X1_findPlace) (as := [.inr (.inr (some (1, 0, 0))), .inl b, .inl n]) (rest := []) rfl (d_findPlace (Iw_of hI) (by omega) (by omega)) (?_ : EvI X E_X7_place (35, [some (.inr (.inr (some (7, 0, 0)))), some (.inl b), some (.inl n)], [.inl (pl (sl M 0) b n)], M) _)
      refine ev_rt (r := some (.inl (pl (sl M 0) b n))) rfl (?_)
      exact ⟨rint (cA_t hb h18).symm, rfl⟩
  · refine ev_clp (v := .inr (.inr none)) (z := z_X1_blockAt) (as := [.inr (.inr (some (1, 0, 0))), .inl b]) (rest := []) rfl (d_blockAt_f hb) (?_ : EvI X E_X7_place (11, [some (.inr (.inr (some (7, 0, 0)))), some (.inl b), some (.inl n)], [.inr (.inr none)], M) _)
    refine seg_ok 2 (?_ : EvI X E_X7_place (22, [some (.inr (.inr (some (7, 0, 0)))), some (.inl b), some (.inl n)], [.inl (-1)], M) _)
    refine ev_rt (r := some (.inl (-1))) rfl (?_)
    exact ⟨rint (cA_1 hb).symm, rfl⟩
theorem d_count {m : Int} {M : NM} (hI : Inv m (sl M 0)) {w : Int} : HT X z_X7_count [.inr (.inr (some (7, 0, 0))), .inl w] M (fun rr MM => rr = some (.inl (cif (w = 13) (M 2 0 0 2) (cif (w = 14) (M 4 0 0 2) (cnF (sl M 0) w)))) ∧ MM = M) := by
  refine ht_of (e := E_X7_count) rfl (?_ : EvI X E_X7_count (0, [some (.inr (.inr (some (7, 0, 0)))), some (.inl w)], [], M) _)
  refine seg_ok 3 (?_ : EvI X E_X7_count (if w = 13 then 6 else 14, [some (.inr (.inr (some (7, 0, 0)))), some (.inl w)], [], M) _)
  refine ev_if (fun h3 => ?_) (fun h3 => ?_)
  · refine seg_ok 3 (?_ : EvI X E_X7_count (13, [some (.inr (.inr (some (7, 0, 0)))), some (.inl w)], [.inl (M 2 0 0 2)], M) _)
    refine ev_rt (r := some (.inl (M 2 0 0 2))) rfl (?_)
    exact ⟨rint (cif_t h3).symm, rfl⟩
  · refine seg_ok 3 (?_ : EvI X E_X7_count (if w = 14 then 20 else 28, [some (.inr (.inr (some (7, 0, 0)))), some (.inl w)], [], M) _)
    refine ev_if (fun h17 => ?_) (fun h17 => ?_)
    · refine seg_ok 3 (?_ : EvI X E_X7_count (27, [some (.inr (.inr (some (7, 0, 0)))), some (.inl w)], [.inl (M 4 0 0 2)], M) _)
      refine ev_rt (r := some (.inl (M 4 0 0 2))) rfl (?_)
      exact ⟨rint ((cif_f h3).trans (cif_t h17)).symm, rfl⟩
    · refine seg_ok 3 (?_ : EvI X E_X7_count (33, [some (.inr (.inr (some (7, 0, 0)))), some (.inl w)], [.inl w, .inr (.inr (some (5, 0, 0)))], M) _)
      refine ev_clp (v := .inl (cnF (sl M 0) w)) (z := z_X5_numberOf) (as := [.inr (.inr (some (5, 0, 0))), .inl w]) (rest := []) rfl (d_numberOf hI) (?_ : EvI X E_X7_count (36, [some (.inr (.inr (some (7, 0, 0)))), some (.inl w)], [.inl (cnF (sl M 0) w)], M) _)
      refine ev_rt (r := some (.inl (cnF (sl M 0) w))) rfl (?_)
      exact ⟨rint ((cif_f h3).trans (cif_f h17)).symm, rfl⟩
theorem d_chain {m : Int} {M : NM} (hI : Inv m (sl M 0)) (hm : m + 20 ≤ 62000) {x : Int} : HT X z_X7_chain [.inr (.inr (some (7, 0, 0))), .inl x] M (fun rr MM => rr = some (.inl (cif (0 ≤ x ∧ x < M 5 0 0 4) (opChain (sl M 0) x).1 (-1))) ∧ FR 1 M MM) := by
  have hi := hI.1
  simp only [Iv0, sl] at hi
  refine ht_of (e := E_X7_chain) rfl (?_ : EvI X E_X7_chain (0, [some (.inr (.inr (some (7, 0, 0)))), some (.inl x)], [], M) _)
  refine seg_ok 3 (?_ : EvI X E_X7_chain (5, [some (.inr (.inr (some (7, 0, 0)))), some (.inl x)], [.inl x, .inr (.inr (some (5, 0, 0)))], M) _)
  by_cases hb : 0 ≤ x ∧ x < M 5 0 0 4
  · refine ev_clp (v := .inr (.inr (some (6, 0, x)))) (z := z_X5_ticketAt) (as := [.inr (.inr (some (5, 0, 0))), .inl x]) (rest := []) rfl (d_ticketAt_t hb (by omega)) (?_ : EvI X E_X7_chain (8, [some (.inr (.inr (some (7, 0, 0)))), some (.inl x)], [.inr (.inr (some (6, 0, x)))], M) _)
    refine seg_ok 5 (?_ : EvI X E_X7_chain (21, [some (.inr (.inr (some (7, 0, 0)))), some (.inl x)], [.inr (.inr (some (5, 0, 0))), .inr (.inr (some (5, 1, 0)))], M) _)
    refine ev_cl (z := z_X5_copyFrom) (as := [.inr (.inr (some (5, 1, 0))), .inr (.inr (some (5, 0, 0)))]) (rest := []) rfl (d_cpyStadium (by omega) hI.1.2.2.2.2.2.2.2.1) ?_
    intro rr M1 hqM1
    obtain ⟨rfl, eM1, fM1⟩ := hqM1
    have hI1 : Inv m (sl M1 1) := Inv_SE hI eM1
    have ht1 : 0 ≤ x ∧ x < M1 5 1 0 4 := by
      have e : M1 5 1 0 4 = M 5 0 0 4 := eM1.2.2.2 4 (by decide) (by decide)
      omega
    show EvI X E_X7_chain (24, [some (.inr (.inr (some (7, 0, 0)))), some (.inl x)], [], M1) _
    refine seg_ok 3 (?_ : EvI X E_X7_chain (29, [some (.inr (.inr (some (7, 0, 0)))), some (.inl x)], [.inl x, .inr (.inr (some (5, 1, 0)))], M1) _)
    refine ev_cl (z := z_X5_moveChain) (as := [.inr (.inr (some (5, 1, 0))), .inl x]) (rest := []) rfl (d_moveChain hI1 hm ht1) ?_
    intro rr M2 hqM2
    obtain ⟨rfl, sM2, fM2⟩ := hqM2
    show EvI X E_X7_chain (32, [some (.inr (.inr (some (7, 0, 0)))), some (.inl x)], [.inl ((opChain (sl M1 1) x).1)], M2) _
    refine ev_rt (r := some (.inl ((opChain (sl M1 1) x).1))) rfl (?_)
    exact ⟨rint ((SE_chain hI hm eM1 hb).trans (cif_t (p := 0 ≤ x ∧ x < M 5 0 0 4) hb).symm), FR_tr fM1 fM2⟩
  · refine ev_clp (v := .inr (.inr none)) (z := z_X5_ticketAt) (as := [.inr (.inr (some (5, 0, 0))), .inl x]) (rest := []) rfl (d_ticketAt_f hb) (?_ : EvI X E_X7_chain (8, [some (.inr (.inr (some (7, 0, 0)))), some (.inl x)], [.inr (.inr none)], M) _)
    refine seg_ok 2 (?_ : EvI X E_X7_chain (12, [some (.inr (.inr (some (7, 0, 0)))), some (.inl x)], [.inl (-1)], M) _)
    refine ev_rt (r := some (.inl (-1))) rfl (?_)
    exact ⟨rint (cif_f hb).symm, FR_rf⟩
end
