/-! 21: the class: figures, copies -/
section
variable {X : XI}
noncomputable def nkF (S : Sl) (s : Int) : Int := cif (0 ≤ s ∧ s < S 1 0 4) (ctA S (fun c => fo S s c ∧ ¬ kl S c)) (-1)
def upc (S : Sl) : Int := ((pop10 (S 1 0 5).toNat : Nat) : Int)
theorem d_bitCount2 {M : NM} {v : Int} (h : 0 ≤ v ∧ v < 1024) : HT X z_J6_bitCount_0f7a4 [.inl v] M (fun rr MM => rr = some (.inl ((pop10 v.toNat : Nat) : Int)) ∧ MM = M) := by
  have := d_bitCount (X := X) (M := M) (n := v.toNat) (by omega)
  rwa [Int.toNat_of_nonneg h.1] at this
noncomputable def cnF (S : Sl) (w : Int) : Int := cif (w = 0) (S 5 0 5) (cif (w = 1) (S 1 0 3) (cif (w = 2) (S 1 0 4) (cif (w = 3) (upc S) (cif (w = 4) (S 5 0 3) (cif (w = 5) (sm (fun k => bi (S 3 k 0 = 0)) (S 5 0 3).toNat) (cif (w = 6) (S 5 0 4) (cif (w = 7) (sm (fun k => bi (S 6 k 0 = 0)) (S 5 0 4).toNat) (cif (w = 8) (S 5 0 6) (cif (w = 9) (S 5 0 7) (cif (w = 10) (S 5 0 8) (cif (w = 11) (sm (fun k => bi (S 6 k 0 = 3)) (S 5 0 4).toNat) (cif (w = 12) (S 5 0 9) (-1)))))))))))))
theorem bkF_lt {S : Sl} {b w : Int} (hb : 0 ≤ b ∧ b < S 1 0 3) (h : 0 ≤ w ∧ w < 6) : bkF S b w = ct S b (fun c => w = 0 ∨ isN S c = w) := (cif_t ⟨hb, by omega⟩).trans (cif_t h.2)
theorem bkF_6 {S : Sl} {b w : Int} (hb : 0 ≤ b ∧ b < S 1 0 3) (h : w = 6) : bkF S b w = rk S b := (cif_t ⟨hb, by omega⟩).trans ((cif_f (by omega)).trans (cif_t h))
theorem bkF_7 {S : Sl} {b w : Int} (hb : 0 ≤ b ∧ b < S 1 0 3) (h : w = 7) : bkF S b w = S 0 b 2 := (cif_t ⟨hb, by omega⟩).trans ((cif_f (by omega)).trans ((cif_f (by omega)).trans (cif_t h)))
theorem bkF_8 {S : Sl} {b w : Int} (hb : 0 ≤ b ∧ b < S 1 0 3) (h : w = 8) : bkF S b w = gN S b 10 := (cif_t ⟨hb, by omega⟩).trans ((cif_f (by omega)).trans ((cif_f (by omega)).trans (cif_f (by omega))))
theorem d_newlyKilled {m : Int} {M : NM} {j : Int} (hI : Inv m (sl M j)) {x : Int} : HT X z_X1_newlyKilled [.inr (.inr (some (1, j, 0))), .inl x] M (fun rr MM => rr = some (.inl (nkF (sl M j) x)) ∧ MM = M) := by
  have hi := hI.1
  simp only [Iv0, sl] at hi
  have g1 := smb_bnd (fun c => andI (M 14 j 0 c) (orI (M 1 j 0 5) (shlI 1 x)) ≠ 0) 600
  have g2 := smb_bnd (fun c => andI (M 14 j 0 c) (M 1 j 0 5) ≠ 0) 600
  refine ht_of (e := E_X1_newlyKilled) rfl (?_ : EvI X E_X1_newlyKilled (0, [some (.inr (.inr (some (1, j, 0)))), some (.inl x)], [], M) _)
  refine seg_ok 2 (?_ : EvI X E_X1_newlyKilled (2, [some (.inr (.inr (some (1, j, 0)))), some (.inl x)], [.inl x, .inr (.inr (some (1, j, 0)))], M) _)
  refine ev_clp (v := .inl (bi (0 ≤ x ∧ x < M 1 j 0 4))) (z := z_X1_isStage) (as := [.inr (.inr (some (1, j, 0))), .inl x]) (rest := []) rfl d_isStage (?_ : EvI X E_X1_newlyKilled (5, [some (.inr (.inr (some (1, j, 0)))), some (.inl x)], [.inl (bi (0 ≤ x ∧ x < M 1 j 0 4))], M) _)
  refine seg_ok 1 (?_ : EvI X E_X1_newlyKilled (if (bi (0 ≤ x ∧ x < M 1 j 0 4)) = 0 then 8 else 10, [some (.inr (.inr (some (1, j, 0)))), some (.inl x)], [], M) _)
  refine ev_ifb (fun h5 => ?_) (fun h5 => ?_)
  · refine seg_ok 1 (?_ : EvI X E_X1_newlyKilled (9, [some (.inr (.inr (some (1, j, 0)))), some (.inl x)], [.inl (-1)], M) _)
    refine ev_rt (r := some (.inl (-1))) rfl (?_)
    exact ⟨rint (cif_f h5).symm, rfl⟩
  · refine seg_ok 7 (?_ : EvI X E_X1_newlyKilled (19, [some (.inr (.inr (some (1, j, 0)))), some (.inl x)], [.inl (orI (M 1 j 0 5) (shlI 1 x)), .inr (.inr (some (1, j, 0)))], M) _)
    refine ev_clp (v := .inl (sm (fun c => bi (andI (M 14 j 0 c) (orI (M 1 j 0 5) (shlI 1 x)) ≠ 0)) 600)) (z := z_X1_chairsUnder) (as := [.inr (.inr (some (1, j, 0))), .inl (orI (M 1 j 0 5) (shlI 1 x))]) (rest := []) rfl d_chairsUnder (?_ : EvI X E_X1_newlyKilled (22, [some (.inr (.inr (some (1, j, 0)))), some (.inl x)], [.inl (sm (fun c => bi (andI (M 14 j 0 c) (orI (M 1 j 0 5) (shlI 1 x)) ≠ 0)) 600)], M) _)
    refine seg_ok 3 (?_ : EvI X E_X1_newlyKilled (27, [some (.inr (.inr (some (1, j, 0)))), some (.inl x)], [.inl (M 1 j 0 5), .inr (.inr (some (1, j, 0))), .inl (sm (fun c => bi (andI (M 14 j 0 c) (orI (M 1 j 0 5) (shlI 1 x)) ≠ 0)) 600)], M) _)
    refine ev_clp (v := .inl (sm (fun c => bi (andI (M 14 j 0 c) (M 1 j 0 5) ≠ 0)) 600)) (z := z_X1_chairsUnder) (as := [.inr (.inr (some (1, j, 0))), .inl (M 1 j 0 5)]) (rest := [.inl (sm (fun c => bi (andI (M 14 j 0 c) (orI (M 1 j 0 5) (shlI 1 x)) ≠ 0)) 600)]) rfl d_chairsUnder (?_ : EvI X E_X1_newlyKilled (30, [some (.inr (.inr (some (1, j, 0)))), some (.inl x)], [.inl (sm (fun c => bi (andI (M 14 j 0 c) (M 1 j 0 5) ≠ 0)) 600), .inl (sm (fun c => bi (andI (M 14 j 0 c) (orI (M 1 j 0 5) (shlI 1 x)) ≠ 0)) 600)], M) _)
    refine seg_ok 1 (⟨by omega, ?_⟩ : ((-2147483648 : Int) ≤ ((sm (fun c => bi (andI (M 14 j 0 c) (orI (M 1 j 0 5) (shlI 1 x)) ≠ 0)) 600) - (sm (fun c => bi (andI (M 14 j 0 c) (M 1 j 0 5) ≠ 0)) 600)) ∧ ((sm (fun c => bi (andI (M 14 j 0 c) (orI (M 1 j 0 5) (shlI 1 x)) ≠ 0)) 600) - (sm (fun c => bi (andI (M 14 j 0 c) (M 1 j 0 5) ≠ 0)) 600)) < 2147483648) ∧ EvI X E_X1_newlyKilled (31, [some (.inr (.inr (some (1, j, 0)))), some (.inl x)], [.inl ((sm (fun c => bi (andI (M 14 j 0 c) (orI (M 1 j 0 5) (shlI 1 x)) ≠ 0)) 600) - (sm (fun c => bi (andI (M 14 j 0 c) (M 1 j 0 5) ≠ 0)) 600))], M) _)
    refine ev_rt (r := some (.inl ((sm (fun c => bi (andI (M 14 j 0 c) (orI (M 1 j 0 5) (shlI 1 x)) ≠ 0)) 600) - (sm (fun c => bi (andI (M 14 j 0 c) (M 1 j 0 5) ≠ 0)) 600)))) rfl (?_)
    exact ⟨rint (by rw [nkF, cif_t (show 0 ≤ x ∧ x < sl M j 1 0 4 from h5)]; exact ctA_nk hI (by omega)), rfl⟩
theorem d_stagesThatAreUp {m : Int} {M : NM} {j : Int} (hI : Inv m (sl M j))  : HT X z_X1_stagesThatAreUp [.inr (.inr (some (1, j, 0)))] M (fun rr MM => rr = some (.inl (upc (sl M j))) ∧ MM = M) := by
  have hi := hI.1
  simp only [Iv0, sl] at hi
  refine ht_of (e := E_X1_stagesThatAreUp) rfl (?_ : EvI X E_X1_stagesThatAreUp (0, [some (.inr (.inr (some (1, j, 0))))], [], M) _)
  refine seg_ok 2 (?_ : EvI X E_X1_stagesThatAreUp (4, [some (.inr (.inr (some (1, j, 0))))], [.inl (M 1 j 0 5)], M) _)
  refine ev_clp (v := .inl ((pop10 ((M 1 j 0 5)).toNat : Nat) : Int)) (z := z_J6_bitCount_0f7a4) (as := [.inl (M 1 j 0 5)]) (rest := []) rfl (d_bitCount2 (by omega)) (?_ : EvI X E_X1_stagesThatAreUp (7, [some (.inr (.inr (some (1, j, 0))))], [.inl ((pop10 ((M 1 j 0 5)).toNat : Nat) : Int)], M) _)
  refine ev_rt (r := some (.inl ((pop10 ((M 1 j 0 5)).toNat : Nat) : Int))) rfl (?_)
  exact ⟨rfl, rfl⟩
set_option maxRecDepth 2310 in
theorem d_blockFigure {m : Int} {M : NM} {j : Int} (hI : Inv m (sl M j)) {b w : Int} : HT X z_X1_blockFigure [.inr (.inr (some (1, j, 0))), .inl b, .inl w] M (fun rr MM => rr = some (.inl (bkF (sl M j) b w)) ∧ MM = M) := by
  have hi := hI.1
  simp only [Iv0, sl] at hi
  refine ht_of (e := E_X1_blockFigure) rfl (?_ : EvI X E_X1_blockFigure (0, [some (.inr (.inr (some (1, j, 0)))), some (.inl b), some (.inl w), none], [], M) _)
  refine seg_ok 2 (?_ : EvI X E_X1_blockFigure (2, [some (.inr (.inr (some (1, j, 0)))), some (.inl b), some (.inl w), none], [.inl b, .inr (.inr (some (1, j, 0)))], M) _)
  by_cases hb : 0 ≤ b ∧ b < M 1 j 0 3
  · have hq := hI.2.1 b hb.1 hb.2
    simp only [sl] at hq
    have hq2 : 0 ≤ M 0 j b 0 * M 0 j b 1 := Int.mul_nonneg (by omega) (by omega)
    have hq3 : M 0 j b 0 * M 0 j b 1 ≤ 6 * 10 := Int.mul_le_mul (by omega) (by omega) (by omega) (by omega)
    have g1 := ct_bnd hI (fun c => M 13 j 0 c = 0) hb
    have g2 := ct_bnd hI (fr (sl M j)) hb
    refine ev_clp (v := .inr (.inr (some (0, j, b)))) (z := z_X1_blockAt) (as := [.inr (.inr (some (1, j, 0))), .inl b]) (rest := []) rfl (d_blockAt_t hb (by omega)) (?_ : EvI X E_X1_blockFigure (5, [some (.inr (.inr (some (1, j, 0)))), some (.inl b), some (.inl w), none], [.inr (.inr (some (0, j, b)))], M) _)
    refine seg_ok 5 (?_ : EvI X E_X1_blockFigure (if w = 0 then 64 else if w = 1 then 74 else if w = 2 then 87 else if w = 3 then 94 else if w = 4 then 101 else if w = 5 then 108 else if w = 6 then 114 else if w = 7 then 120 else if w = 8 then 125 else 131, [some (.inr (.inr (some (1, j, 0)))), some (.inl b), some (.inl w), some (.inr (.inr (some (0, j, b))))], [], M) _)
    refine ev_if (fun h13 => ?_) (fun h13_0 => ?_)
    · refine seg_ok 5 (⟨by omega, ?_⟩ : ((-2147483648 : Int) ≤ ((M 0 j b 0) * (M 0 j b 1)) ∧ ((M 0 j b 0) * (M 0 j b 1)) < 2147483648) ∧ EvI X E_X1_blockFigure (73, [some (.inr (.inr (some (1, j, 0)))), some (.inl b), some (.inl w), some (.inr (.inr (some (0, j, b))))], [.inl ((M 0 j b 0) * (M 0 j b 1))], M) _)
      refine ev_rt (r := some (.inl ((M 0 j b 0) * (M 0 j b 1)))) rfl (?_)
      subst h13
      exact ⟨rint ((bk_0 hI hb).trans (bkF_lt hb (by decide)).symm), rfl⟩
    refine ev_if (fun h13 => ?_) (fun h13_1 => ?_)
    · refine seg_ok 3 (?_ : EvI X E_X1_blockFigure (77, [some (.inr (.inr (some (1, j, 0)))), some (.inl b), some (.inl w), some (.inr (.inr (some (0, j, b))))], [.inl b, .inl 0, .inr (.inr (some (1, j, 0)))], M) _)
      refine ev_clp (v := .inl (ct (sl M j) b (fun c => M 13 j 0 c = 0))) (z := z_X1_chairsThatAre) (as := [.inr (.inr (some (1, j, 0))), .inl 0, .inl b]) (rest := []) rfl (d_chairsThatAre hI (by omega)) (?_ : EvI X E_X1_blockFigure (80, [some (.inr (.inr (some (1, j, 0)))), some (.inl b), some (.inl w), some (.inr (.inr (some (0, j, b))))], [.inl (ct (sl M j) b (fun c => M 13 j 0 c = 0))], M) _)
      refine seg_ok 2 (?_ : EvI X E_X1_blockFigure (82, [some (.inr (.inr (some (1, j, 0)))), some (.inl b), some (.inl w), some (.inr (.inr (some (0, j, b))))], [.inl b, .inr (.inr (some (1, j, 0))), .inl (ct (sl M j) b (fun c => M 13 j 0 c = 0))], M) _)
      refine ev_clp (v := .inl (ct (sl M j) b (fr (sl M j)))) (z := z_X1_usableIn) (as := [.inr (.inr (some (1, j, 0))), .inl b]) (rest := [.inl (ct (sl M j) b (fun c => M 13 j 0 c = 0))]) rfl (d_usableIn hI (by omega)) (?_ : EvI X E_X1_blockFigure (85, [some (.inr (.inr (some (1, j, 0)))), some (.inl b), some (.inl w), some (.inr (.inr (some (0, j, b))))], [.inl (ct (sl M j) b (fr (sl M j))), .inl (ct (sl M j) b (fun c => M 13 j 0 c = 0))], M) _)
      refine seg_ok 1 (⟨by omega, ?_⟩ : ((-2147483648 : Int) ≤ ((ct (sl M j) b (fun c => M 13 j 0 c = 0)) - (ct (sl M j) b (fr (sl M j)))) ∧ ((ct (sl M j) b (fun c => M 13 j 0 c = 0)) - (ct (sl M j) b (fr (sl M j)))) < 2147483648) ∧ EvI X E_X1_blockFigure (86, [some (.inr (.inr (some (1, j, 0)))), some (.inl b), some (.inl w), some (.inr (.inr (some (0, j, b))))], [.inl ((ct (sl M j) b (fun c => M 13 j 0 c = 0)) - (ct (sl M j) b (fr (sl M j))))], M) _)
      refine ev_rt (r := some (.inl ((ct (sl M j) b (fun c => M 13 j 0 c = 0)) - (ct (sl M j) b (fr (sl M j)))))) rfl (?_)
      subst h13
      exact ⟨rint ((bk_1 hI hb).trans (bkF_lt hb (by decide)).symm), rfl⟩
    refine ev_if (fun h13 => ?_) (fun h13_2 => ?_)
    · refine seg_ok 3 (?_ : EvI X E_X1_blockFigure (90, [some (.inr (.inr (some (1, j, 0)))), some (.inl b), some (.inl w), some (.inr (.inr (some (0, j, b))))], [.inl b, .inl 1, .inr (.inr (some (1, j, 0)))], M) _)
      refine ev_clp (v := .inl (ct (sl M j) b (fun c => M 13 j 0 c = 1))) (z := z_X1_chairsThatAre) (as := [.inr (.inr (some (1, j, 0))), .inl 1, .inl b]) (rest := []) rfl (d_chairsThatAre hI (by omega)) (?_ : EvI X E_X1_blockFigure (93, [some (.inr (.inr (some (1, j, 0)))), some (.inl b), some (.inl w), some (.inr (.inr (some (0, j, b))))], [.inl (ct (sl M j) b (fun c => M 13 j 0 c = 1))], M) _)
      refine ev_rt (r := some (.inl (ct (sl M j) b (fun c => M 13 j 0 c = 1)))) rfl (?_)
      subst h13
      exact ⟨rint ((bk_k hI hb (Or.inl rfl)).trans (bkF_lt hb (by decide)).symm), rfl⟩
    refine ev_if (fun h13 => ?_) (fun h13_3 => ?_)
    · refine seg_ok 3 (?_ : EvI X E_X1_blockFigure (97, [some (.inr (.inr (some (1, j, 0)))), some (.inl b), some (.inl w), some (.inr (.inr (some (0, j, b))))], [.inl b, .inl 2, .inr (.inr (some (1, j, 0)))], M) _)
      refine ev_clp (v := .inl (ct (sl M j) b (fun c => M 13 j 0 c = 2))) (z := z_X1_chairsThatAre) (as := [.inr (.inr (some (1, j, 0))), .inl 2, .inl b]) (rest := []) rfl (d_chairsThatAre hI (by omega)) (?_ : EvI X E_X1_blockFigure (100, [some (.inr (.inr (some (1, j, 0)))), some (.inl b), some (.inl w), some (.inr (.inr (some (0, j, b))))], [.inl (ct (sl M j) b (fun c => M 13 j 0 c = 2))], M) _)
      refine ev_rt (r := some (.inl (ct (sl M j) b (fun c => M 13 j 0 c = 2)))) rfl (?_)
      subst h13
      exact ⟨rint ((bk_k hI hb (Or.inr (Or.inl rfl))).trans (bkF_lt hb (by decide)).symm), rfl⟩
    refine ev_if (fun h13 => ?_) (fun h13_4 => ?_)
    · refine seg_ok 3 (?_ : EvI X E_X1_blockFigure (104, [some (.inr (.inr (some (1, j, 0)))), some (.inl b), some (.inl w), some (.inr (.inr (some (0, j, b))))], [.inl b, .inl 3, .inr (.inr (some (1, j, 0)))], M) _)
      refine ev_clp (v := .inl (ct (sl M j) b (fun c => M 13 j 0 c = 3))) (z := z_X1_chairsThatAre) (as := [.inr (.inr (some (1, j, 0))), .inl 3, .inl b]) (rest := []) rfl (d_chairsThatAre hI (by omega)) (?_ : EvI X E_X1_blockFigure (107, [some (.inr (.inr (some (1, j, 0)))), some (.inl b), some (.inl w), some (.inr (.inr (some (0, j, b))))], [.inl (ct (sl M j) b (fun c => M 13 j 0 c = 3))], M) _)
      refine ev_rt (r := some (.inl (ct (sl M j) b (fun c => M 13 j 0 c = 3)))) rfl (?_)
      subst h13
      exact ⟨rint ((bk_k hI hb (Or.inr (Or.inr rfl))).trans (bkF_lt hb (by decide)).symm), rfl⟩
    refine ev_if (fun h13 => ?_) (fun h13_5 => ?_)
    · refine seg_ok 2 (?_ : EvI X E_X1_blockFigure (110, [some (.inr (.inr (some (1, j, 0)))), some (.inl b), some (.inl w), some (.inr (.inr (some (0, j, b))))], [.inl b, .inr (.inr (some (1, j, 0)))], M) _)
      refine ev_clp (v := .inl (ct (sl M j) b (fr (sl M j)))) (z := z_X1_usableIn) (as := [.inr (.inr (some (1, j, 0))), .inl b]) (rest := []) rfl (d_usableIn hI (by omega)) (?_ : EvI X E_X1_blockFigure (113, [some (.inr (.inr (some (1, j, 0)))), some (.inl b), some (.inl w), some (.inr (.inr (some (0, j, b))))], [.inl (ct (sl M j) b (fr (sl M j)))], M) _)
      refine ev_rt (r := some (.inl (ct (sl M j) b (fr (sl M j))))) rfl (?_)
      subst h13
      exact ⟨rint ((bk_5 hI hb).trans (bkF_lt hb (by decide)).symm), rfl⟩
    refine ev_if (fun h13 => ?_) (fun h13_6 => ?_)
    · refine seg_ok 2 (?_ : EvI X E_X1_blockFigure (116, [some (.inr (.inr (some (1, j, 0)))), some (.inl b), some (.inl w), some (.inr (.inr (some (0, j, b))))], [.inl b, .inr (.inr (some (1, j, 0)))], M) _)
      refine ev_clp (v := .inl (rk (sl M j) b)) (z := z_X1_rankOf) (as := [.inr (.inr (some (1, j, 0))), .inl b]) (rest := []) rfl (d_rankOf hI (by omega)) (?_ : EvI X E_X1_blockFigure (119, [some (.inr (.inr (some (1, j, 0)))), some (.inl b), some (.inl w), some (.inr (.inr (some (0, j, b))))], [.inl (rk (sl M j) b)], M) _)
      refine ev_rt (r := some (.inl (rk (sl M j) b))) rfl (?_)
      subst h13
      exact ⟨rint ((bkF_6 hb rfl).symm), rfl⟩
    refine ev_if (fun h13 => ?_) (fun h13_7 => ?_)
    · refine seg_ok 2 (?_ : EvI X E_X1_blockFigure (124, [some (.inr (.inr (some (1, j, 0)))), some (.inl b), some (.inl w), some (.inr (.inr (some (0, j, b))))], [.inl (M 0 j b 2)], M) _)
      refine ev_rt (r := some (.inl (M 0 j b 2))) rfl (?_)
      subst h13
      exact ⟨rint ((bkF_7 (S := sl M j) hb rfl).symm), rfl⟩
    refine ev_if (fun h13 => ?_) (fun h13_8 => ?_)
    · refine seg_ok 2 (?_ : EvI X E_X1_blockFigure (127, [some (.inr (.inr (some (1, j, 0)))), some (.inl b), some (.inl w), some (.inr (.inr (some (0, j, b))))], [.inl b, .inr (.inr (some (1, j, 0)))], M) _)
      refine ev_clp (v := .inl (gN (sl M j) b 10)) (z := z_X1_greatestGroup) (as := [.inr (.inr (some (1, j, 0))), .inl b]) (rest := []) rfl (d_greatestGroup hI (by omega)) (?_ : EvI X E_X1_blockFigure (130, [some (.inr (.inr (some (1, j, 0)))), some (.inl b), some (.inl w), some (.inr (.inr (some (0, j, b))))], [.inl (gN (sl M j) b 10)], M) _)
      refine ev_rt (r := some (.inl (gN (sl M j) b 10))) rfl (?_)
      subst h13
      exact ⟨rint ((bkF_8 hb rfl).symm), rfl⟩
    refine seg_ok 1 (?_ : EvI X E_X1_blockFigure (132, [some (.inr (.inr (some (1, j, 0)))), some (.inl b), some (.inl w), some (.inr (.inr (some (0, j, b))))], [.inl (-1)], M) _)
    refine ev_rt (r := some (.inl (-1))) rfl (?_)
    exact ⟨rint (cif_f (fun z => by omega)).symm, rfl⟩
  · refine ev_clp (v := .inr (.inr none)) (z := z_X1_blockAt) (as := [.inr (.inr (some (1, j, 0))), .inl b]) (rest := []) rfl (d_blockAt_f hb) (?_ : EvI X E_X1_blockFigure (5, [some (.inr (.inr (some (1, j, 0)))), some (.inl b), some (.inl w), none], [.inr (.inr none)], M) _)
    refine seg_ok 4 (?_ : EvI X E_X1_blockFigure (11, [some (.inr (.inr (some (1, j, 0)))), some (.inl b), some (.inl w), some (.inr (.inr none))], [.inl (-1)], M) _)
    refine ev_rt (r := some (.inl (-1))) rfl (?_)
    exact ⟨rint (cif_f (fun z => hb z.1)).symm, rfl⟩
set_option maxRecDepth 2160 in
theorem d_numberOf {m : Int} {M : NM} {j : Int} (hI : Inv m (sl M j)) {w : Int} : HT X z_X5_numberOf [.inr (.inr (some (5, j, 0))), .inl w] M (fun rr MM => rr = some (.inl (cnF (sl M j) w)) ∧ MM = M) := by
  have hi := hI.1
  simp only [Iv0, sl] at hi
  refine ht_of (e := E_X5_numberOf) rfl (?_ : EvI X E_X5_numberOf (0, [some (.inr (.inr (some (5, j, 0)))), some (.inl w)], [], M) _)
  refine seg_ok 2 (?_ : EvI X E_X5_numberOf (if w = 0 then 68 else if w = 1 then 73 else if w = 2 then 81 else if w = 3 then 89 else if w = 4 then 97 else if w = 5 then 102 else if w = 6 then 107 else if w = 7 then 112 else if w = 8 then 118 else if w = 9 then 131 else if w = 10 then 136 else if w = 11 then 141 else if w = 12 then 147 else 152, [some (.inr (.inr (some (5, j, 0)))), some (.inl w)], [], M) _)
  refine ev_if (fun h1 => ?_) (fun h1_0 => ?_)
  · refine seg_ok 2 (?_ : EvI X E_X5_numberOf (72, [some (.inr (.inr (some (5, j, 0)))), some (.inl w)], [.inl (M 5 j 0 5)], M) _)
    refine ev_rt (r := some (.inl (M 5 j 0 5))) rfl (?_)
    exact ⟨rint (cif_t h1).symm, rfl⟩
  refine ev_if (fun h1 => ?_) (fun h1_1 => ?_)
  · refine seg_ok 3 (?_ : EvI X E_X5_numberOf (80, [some (.inr (.inr (some (5, j, 0)))), some (.inl w)], [.inl (M 1 j 0 3)], M) _)
    refine ev_rt (r := some (.inl (M 1 j 0 3))) rfl (?_)
    exact ⟨rint ((cif_f h1_0).trans (cif_t h1)).symm, rfl⟩
  refine ev_if (fun h1 => ?_) (fun h1_2 => ?_)
  · refine seg_ok 3 (?_ : EvI X E_X5_numberOf (88, [some (.inr (.inr (some (5, j, 0)))), some (.inl w)], [.inl (M 1 j 0 4)], M) _)
    refine ev_rt (r := some (.inl (M 1 j 0 4))) rfl (?_)
    exact ⟨rint ((cif_f h1_0).trans ((cif_f h1_1).trans (cif_t h1))).symm, rfl⟩
  refine ev_if (fun h1 => ?_) (fun h1_3 => ?_)
  · refine seg_ok 2 (?_ : EvI X E_X5_numberOf (93, [some (.inr (.inr (some (5, j, 0)))), some (.inl w)], [.inr (.inr (some (1, j, 0)))], M) _)
    refine ev_clp (v := .inl (upc (sl M j))) (z := z_X1_stagesThatAreUp) (as := [.inr (.inr (some (1, j, 0)))]) (rest := []) rfl (d_stagesThatAreUp hI) (?_ : EvI X E_X5_numberOf (96, [some (.inr (.inr (some (5, j, 0)))), some (.inl w)], [.inl (upc (sl M j))], M) _)
    refine ev_rt (r := some (.inl (upc (sl M j)))) rfl (?_)
    exact ⟨rint ((cif_f h1_0).trans ((cif_f h1_1).trans ((cif_f h1_2).trans (cif_t h1)))).symm, rfl⟩
  refine ev_if (fun h1 => ?_) (fun h1_4 => ?_)
  · refine seg_ok 2 (?_ : EvI X E_X5_numberOf (101, [some (.inr (.inr (some (5, j, 0)))), some (.inl w)], [.inl (M 5 j 0 3)], M) _)
    refine ev_rt (r := some (.inl (M 5 j 0 3))) rfl (?_)
    exact ⟨rint ((cif_f h1_0).trans ((cif_f h1_1).trans ((cif_f h1_2).trans ((cif_f h1_3).trans (cif_t h1))))).symm, rfl⟩
  refine ev_if (fun h1 => ?_) (fun h1_5 => ?_)
  · refine seg_ok 1 (?_ : EvI X E_X5_numberOf (103, [some (.inr (.inr (some (5, j, 0)))), some (.inl w)], [.inr (.inr (some (5, j, 0)))], M) _)
    refine ev_clp (v := .inl (sm (fun k => bi (M 3 j k 0 = 0)) (M 5 j 0 3).toNat)) (z := z_X5_openHolds) (as := [.inr (.inr (some (5, j, 0)))]) (rest := []) rfl (d_openHolds hI) (?_ : EvI X E_X5_numberOf (106, [some (.inr (.inr (some (5, j, 0)))), some (.inl w)], [.inl (sm (fun k => bi (M 3 j k 0 = 0)) (M 5 j 0 3).toNat)], M) _)
    refine ev_rt (r := some (.inl (sm (fun k => bi (M 3 j k 0 = 0)) (M 5 j 0 3).toNat))) rfl (?_)
    exact ⟨rint ((cif_f h1_0).trans ((cif_f h1_1).trans ((cif_f h1_2).trans ((cif_f h1_3).trans ((cif_f h1_4).trans (cif_t h1)))))).symm, rfl⟩
  refine ev_if (fun h1 => ?_) (fun h1_6 => ?_)
  · refine seg_ok 2 (?_ : EvI X E_X5_numberOf (111, [some (.inr (.inr (some (5, j, 0)))), some (.inl w)], [.inl (M 5 j 0 4)], M) _)
    refine ev_rt (r := some (.inl (M 5 j 0 4))) rfl (?_)
    exact ⟨rint ((cif_f h1_0).trans ((cif_f h1_1).trans ((cif_f h1_2).trans ((cif_f h1_3).trans ((cif_f h1_4).trans ((cif_f h1_5).trans (cif_t h1))))))).symm, rfl⟩
  refine ev_if (fun h1 => ?_) (fun h1_7 => ?_)
  · refine seg_ok 2 (?_ : EvI X E_X5_numberOf (114, [some (.inr (.inr (some (5, j, 0)))), some (.inl w)], [.inl 0, .inr (.inr (some (5, j, 0)))], M) _)
    refine ev_clp (v := .inl (sm (fun k => bi (M 6 j k 0 = 0)) (M 5 j 0 4).toNat)) (z := z_X5_ticketsThatAre) (as := [.inr (.inr (some (5, j, 0))), .inl 0]) (rest := []) rfl (d_ticketsThatAre hI) (?_ : EvI X E_X5_numberOf (117, [some (.inr (.inr (some (5, j, 0)))), some (.inl w)], [.inl (sm (fun k => bi (M 6 j k 0 = 0)) (M 5 j 0 4).toNat)], M) _)
    refine ev_rt (r := some (.inl (sm (fun k => bi (M 6 j k 0 = 0)) (M 5 j 0 4).toNat))) rfl (?_)
    exact ⟨rint ((cif_f h1_0).trans ((cif_f h1_1).trans ((cif_f h1_2).trans ((cif_f h1_3).trans ((cif_f h1_4).trans ((cif_f h1_5).trans ((cif_f h1_6).trans (cif_t h1)))))))).symm, rfl⟩
  refine ev_if (fun h1 => ?_) (fun h1_8 => ?_)
  · refine seg_ok 3 (?_ : EvI X E_X5_numberOf (if (M 5 j 0 6) = 0 then 129 else 125, [some (.inr (.inr (some (5, j, 0)))), some (.inl w)], [], M) _)
    refine ev_if (fun h122 => ?_) (fun h122 => ?_)
    · refine seg_ok 1 (?_ : EvI X E_X5_numberOf (130, [some (.inr (.inr (some (5, j, 0)))), some (.inl w)], [.inl 0], M) _)
      refine ev_rt (r := some (.inl 0)) rfl (?_)
      have e : cnF (sl M j) w = M 5 j 0 6 := (cif_f h1_0).trans ((cif_f h1_1).trans ((cif_f h1_2).trans ((cif_f h1_3).trans ((cif_f h1_4).trans ((cif_f h1_5).trans ((cif_f h1_6).trans ((cif_f h1_7).trans (cif_t h1))))))))
      exact ⟨rint (by rw [e]; omega), rfl⟩
    · refine seg_ok 2 (?_ : EvI X E_X5_numberOf (130, [some (.inr (.inr (some (5, j, 0)))), some (.inl w)], [.inl 1], M) _)
      refine ev_rt (r := some (.inl 1)) rfl (?_)
      have e : cnF (sl M j) w = M 5 j 0 6 := (cif_f h1_0).trans ((cif_f h1_1).trans ((cif_f h1_2).trans ((cif_f h1_3).trans ((cif_f h1_4).trans ((cif_f h1_5).trans ((cif_f h1_6).trans ((cif_f h1_7).trans (cif_t h1))))))))
      exact ⟨rint (by rw [e]; omega), rfl⟩
  refine ev_if (fun h1 => ?_) (fun h1_9 => ?_)
  · refine seg_ok 2 (?_ : EvI X E_X5_numberOf (135, [some (.inr (.inr (some (5, j, 0)))), some (.inl w)], [.inl (M 5 j 0 7)], M) _)
    refine ev_rt (r := some (.inl (M 5 j 0 7))) rfl (?_)
    exact ⟨rint ((cif_f h1_0).trans ((cif_f h1_1).trans ((cif_f h1_2).trans ((cif_f h1_3).trans ((cif_f h1_4).trans ((cif_f h1_5).trans ((cif_f h1_6).trans ((cif_f h1_7).trans ((cif_f h1_8).trans (cif_t h1)))))))))).symm, rfl⟩
  refine ev_if (fun h1 => ?_) (fun h1_10 => ?_)
  · refine seg_ok 2 (?_ : EvI X E_X5_numberOf (140, [some (.inr (.inr (some (5, j, 0)))), some (.inl w)], [.inl (M 5 j 0 8)], M) _)
    refine ev_rt (r := some (.inl (M 5 j 0 8))) rfl (?_)
    exact ⟨rint ((cif_f h1_0).trans ((cif_f h1_1).trans ((cif_f h1_2).trans ((cif_f h1_3).trans ((cif_f h1_4).trans ((cif_f h1_5).trans ((cif_f h1_6).trans ((cif_f h1_7).trans ((cif_f h1_8).trans ((cif_f h1_9).trans (cif_t h1))))))))))).symm, rfl⟩
  refine ev_if (fun h1 => ?_) (fun h1_11 => ?_)
  · refine seg_ok 2 (?_ : EvI X E_X5_numberOf (143, [some (.inr (.inr (some (5, j, 0)))), some (.inl w)], [.inl 3, .inr (.inr (some (5, j, 0)))], M) _)
    refine ev_clp (v := .inl (sm (fun k => bi (M 6 j k 0 = 3)) (M 5 j 0 4).toNat)) (z := z_X5_ticketsThatAre) (as := [.inr (.inr (some (5, j, 0))), .inl 3]) (rest := []) rfl (d_ticketsThatAre hI) (?_ : EvI X E_X5_numberOf (146, [some (.inr (.inr (some (5, j, 0)))), some (.inl w)], [.inl (sm (fun k => bi (M 6 j k 0 = 3)) (M 5 j 0 4).toNat)], M) _)
    refine ev_rt (r := some (.inl (sm (fun k => bi (M 6 j k 0 = 3)) (M 5 j 0 4).toNat))) rfl (?_)
    exact ⟨rint ((cif_f h1_0).trans ((cif_f h1_1).trans ((cif_f h1_2).trans ((cif_f h1_3).trans ((cif_f h1_4).trans ((cif_f h1_5).trans ((cif_f h1_6).trans ((cif_f h1_7).trans ((cif_f h1_8).trans ((cif_f h1_9).trans ((cif_f h1_10).trans (cif_t h1)))))))))))).symm, rfl⟩
  refine ev_if (fun h1 => ?_) (fun h1_12 => ?_)
  · refine seg_ok 2 (?_ : EvI X E_X5_numberOf (151, [some (.inr (.inr (some (5, j, 0)))), some (.inl w)], [.inl (M 5 j 0 9)], M) _)
    refine ev_rt (r := some (.inl (M 5 j 0 9))) rfl (?_)
    exact ⟨rint ((cif_f h1_0).trans ((cif_f h1_1).trans ((cif_f h1_2).trans ((cif_f h1_3).trans ((cif_f h1_4).trans ((cif_f h1_5).trans ((cif_f h1_6).trans ((cif_f h1_7).trans ((cif_f h1_8).trans ((cif_f h1_9).trans ((cif_f h1_10).trans ((cif_f h1_11).trans (cif_t h1))))))))))))).symm, rfl⟩
  refine seg_ok 1 (?_ : EvI X E_X5_numberOf (153, [some (.inr (.inr (some (5, j, 0)))), some (.inl w)], [.inl (-1)], M) _)
  refine ev_rt (r := some (.inl (-1))) rfl (?_)
  exact ⟨rint ((cif_f h1_0).trans ((cif_f h1_1).trans ((cif_f h1_2).trans ((cif_f h1_3).trans ((cif_f h1_4).trans ((cif_f h1_5).trans ((cif_f h1_6).trans ((cif_f h1_7).trans ((cif_f h1_8).trans ((cif_f h1_9).trans ((cif_f h1_10).trans ((cif_f h1_11).trans (cif_f h1_12))))))))))))).symm, rfl⟩
theorem wri_off {M : NM} {K K2 : Nat} {j i s v j2 i2 s2 : Int} (h : ¬ (K2 = K ∧ j2 = j ∧ i2 = i)) : wri M K j i s v K2 j2 i2 s2 = M K2 j2 i2 s2 := if_neg (fun z => h ⟨z.1, z.2.1, z.2.2.1⟩)
theorem d_cpyBlock {M : NM} {j k b : Int} (hne : k ≠ j) : HT X z_X0_copyFrom [.inr (.inr (some (0, j, b))), .inr (.inr (some (0, k, b)))] M (fun rr MM => rr = none ∧ CPY 0 j k b 3 M MM) := by
  refine ht_of (e := E_X0_copyFrom) rfl (?_ : EvI X E_X0_copyFrom (0, [some (.inr (.inr (some (0, j, b)))), some (.inr (.inr (some (0, k, b))))], [], M) _)
  refine seg_ok 7 (?_ : EvI X E_X0_copyFrom (13, [some (.inr (.inr (some (0, j, b)))), some (.inr (.inr (some (0, k, b))))], [.inl ((wri M 0 j b 0 (M 0 k b 0)) 0 k b 1), .inr (.inr (some (0, j, b)))], (wri M 0 j b 0 (M 0 k b 0))) _)
  rw [show ((wri M 0 j b 0 (M 0 k b 0)) 0 k b 1) = (M 0 k b 1) from wri_nej hne]
  refine seg_ok 4 (?_ : EvI X E_X0_copyFrom (21, [some (.inr (.inr (some (0, j, b)))), some (.inr (.inr (some (0, k, b))))], [.inl ((wri (wri M 0 j b 0 (M 0 k b 0)) 0 j b 1 (M 0 k b 1)) 0 k b 2), .inr (.inr (some (0, j, b)))], (wri (wri M 0 j b 0 (M 0 k b 0)) 0 j b 1 (M 0 k b 1))) _)
  rw [show ((wri (wri M 0 j b 0 (M 0 k b 0)) 0 j b 1 (M 0 k b 1)) 0 k b 2) = (M 0 k b 2) from (wri_nej hne).trans (wri_nej hne)]
  refine seg_ok 1 (?_ : EvI X E_X0_copyFrom (24, [some (.inr (.inr (some (0, j, b)))), some (.inr (.inr (some (0, k, b))))], [], (wri (wri (wri M 0 j b 0 (M 0 k b 0)) 0 j b 1 (M 0 k b 1)) 0 j b 2 (M 0 k b 2))) _)
  refine ev_rt (r := none) rfl (?_)
  refine ⟨rfl, fun s s0 s1 => ?_, fun K2 j2 i2 s2 h => ?_⟩
  · rcases (by omega : s = 0 ∨ s = 1 ∨ s = 2) with rfl | rfl | rfl
    · exact (wri_nes (by decide)).trans ((wri_nes (by decide)).trans (wri_eq))
    · exact (wri_nes (by decide)).trans (wri_eq)
    · exact wri_eq
  · exact (wri_off h).trans ((wri_off h).trans (wri_off h))
theorem d_cpyHold {M : NM} {j k b : Int} (hne : k ≠ j) : HT X z_X3_copyFrom [.inr (.inr (some (3, j, b))), .inr (.inr (some (3, k, b)))] M (fun rr MM => rr = none ∧ CPY 3 j k b 5 M MM) := by
  refine ht_of (e := E_X3_copyFrom) rfl (?_ : EvI X E_X3_copyFrom (0, [some (.inr (.inr (some (3, j, b)))), some (.inr (.inr (some (3, k, b))))], [], M) _)
  refine seg_ok 7 (?_ : EvI X E_X3_copyFrom (13, [some (.inr (.inr (some (3, j, b)))), some (.inr (.inr (some (3, k, b))))], [.inl ((wri M 3 j b 0 (M 3 k b 0)) 3 k b 1), .inr (.inr (some (3, j, b)))], (wri M 3 j b 0 (M 3 k b 0))) _)
  rw [show ((wri M 3 j b 0 (M 3 k b 0)) 3 k b 1) = (M 3 k b 1) from wri_nej hne]
  refine seg_ok 4 (?_ : EvI X E_X3_copyFrom (21, [some (.inr (.inr (some (3, j, b)))), some (.inr (.inr (some (3, k, b))))], [.inl ((wri (wri M 3 j b 0 (M 3 k b 0)) 3 j b 1 (M 3 k b 1)) 3 k b 2), .inr (.inr (some (3, j, b)))], (wri (wri M 3 j b 0 (M 3 k b 0)) 3 j b 1 (M 3 k b 1))) _)
  rw [show ((wri (wri M 3 j b 0 (M 3 k b 0)) 3 j b 1 (M 3 k b 1)) 3 k b 2) = (M 3 k b 2) from (wri_nej hne).trans (wri_nej hne)]
  refine seg_ok 4 (?_ : EvI X E_X3_copyFrom (29, [some (.inr (.inr (some (3, j, b)))), some (.inr (.inr (some (3, k, b))))], [.inl ((wri (wri (wri M 3 j b 0 (M 3 k b 0)) 3 j b 1 (M 3 k b 1)) 3 j b 2 (M 3 k b 2)) 3 k b 3), .inr (.inr (some (3, j, b)))], (wri (wri (wri M 3 j b 0 (M 3 k b 0)) 3 j b 1 (M 3 k b 1)) 3 j b 2 (M 3 k b 2))) _)
  rw [show ((wri (wri (wri M 3 j b 0 (M 3 k b 0)) 3 j b 1 (M 3 k b 1)) 3 j b 2 (M 3 k b 2)) 3 k b 3) = (M 3 k b 3) from (wri_nej hne).trans ((wri_nej hne).trans (wri_nej hne))]
  refine seg_ok 4 (?_ : EvI X E_X3_copyFrom (37, [some (.inr (.inr (some (3, j, b)))), some (.inr (.inr (some (3, k, b))))], [.inl ((wri (wri (wri (wri M 3 j b 0 (M 3 k b 0)) 3 j b 1 (M 3 k b 1)) 3 j b 2 (M 3 k b 2)) 3 j b 3 (M 3 k b 3)) 3 k b 4), .inr (.inr (some (3, j, b)))], (wri (wri (wri (wri M 3 j b 0 (M 3 k b 0)) 3 j b 1 (M 3 k b 1)) 3 j b 2 (M 3 k b 2)) 3 j b 3 (M 3 k b 3))) _)
  rw [show ((wri (wri (wri (wri M 3 j b 0 (M 3 k b 0)) 3 j b 1 (M 3 k b 1)) 3 j b 2 (M 3 k b 2)) 3 j b 3 (M 3 k b 3)) 3 k b 4) = (M 3 k b 4) from (wri_nej hne).trans ((wri_nej hne).trans ((wri_nej hne).trans (wri_nej hne)))]
  refine seg_ok 1 (?_ : EvI X E_X3_copyFrom (40, [some (.inr (.inr (some (3, j, b)))), some (.inr (.inr (some (3, k, b))))], [], (wri (wri (wri (wri (wri M 3 j b 0 (M 3 k b 0)) 3 j b 1 (M 3 k b 1)) 3 j b 2 (M 3 k b 2)) 3 j b 3 (M 3 k b 3)) 3 j b 4 (M 3 k b 4))) _)
  refine ev_rt (r := none) rfl (?_)
  refine ⟨rfl, fun s s0 s1 => ?_, fun K2 j2 i2 s2 h => ?_⟩
  · rcases (by omega : s = 0 ∨ s = 1 ∨ s = 2 ∨ s = 3 ∨ s = 4) with rfl | rfl | rfl | rfl | rfl
    · exact (wri_nes (by decide)).trans ((wri_nes (by decide)).trans ((wri_nes (by decide)).trans ((wri_nes (by decide)).trans (wri_eq))))
    · exact (wri_nes (by decide)).trans ((wri_nes (by decide)).trans ((wri_nes (by decide)).trans (wri_eq)))
    · exact (wri_nes (by decide)).trans ((wri_nes (by decide)).trans (wri_eq))
    · exact (wri_nes (by decide)).trans (wri_eq)
    · exact wri_eq
  · exact (wri_off h).trans ((wri_off h).trans ((wri_off h).trans ((wri_off h).trans (wri_off h))))
theorem d_cpyTicket {M : NM} {j k b : Int} (hne : k ≠ j) : HT X z_X6_copyFrom [.inr (.inr (some (6, j, b))), .inr (.inr (some (6, k, b)))] M (fun rr MM => rr = none ∧ CPY 6 j k b 5 M MM) := by
  refine ht_of (e := E_X6_copyFrom) rfl (?_ : EvI X E_X6_copyFrom (0, [some (.inr (.inr (some (6, j, b)))), some (.inr (.inr (some (6, k, b))))], [], M) _)
  refine seg_ok 7 (?_ : EvI X E_X6_copyFrom (13, [some (.inr (.inr (some (6, j, b)))), some (.inr (.inr (some (6, k, b))))], [.inl ((wri M 6 j b 0 (M 6 k b 0)) 6 k b 1), .inr (.inr (some (6, j, b)))], (wri M 6 j b 0 (M 6 k b 0))) _)
  rw [show ((wri M 6 j b 0 (M 6 k b 0)) 6 k b 1) = (M 6 k b 1) from wri_nej hne]
  refine seg_ok 4 (?_ : EvI X E_X6_copyFrom (21, [some (.inr (.inr (some (6, j, b)))), some (.inr (.inr (some (6, k, b))))], [.inl ((wri (wri M 6 j b 0 (M 6 k b 0)) 6 j b 1 (M 6 k b 1)) 6 k b 2), .inr (.inr (some (6, j, b)))], (wri (wri M 6 j b 0 (M 6 k b 0)) 6 j b 1 (M 6 k b 1))) _)
  rw [show ((wri (wri M 6 j b 0 (M 6 k b 0)) 6 j b 1 (M 6 k b 1)) 6 k b 2) = (M 6 k b 2) from (wri_nej hne).trans (wri_nej hne)]
  refine seg_ok 4 (?_ : EvI X E_X6_copyFrom (29, [some (.inr (.inr (some (6, j, b)))), some (.inr (.inr (some (6, k, b))))], [.inl ((wri (wri (wri M 6 j b 0 (M 6 k b 0)) 6 j b 1 (M 6 k b 1)) 6 j b 2 (M 6 k b 2)) 6 k b 3), .inr (.inr (some (6, j, b)))], (wri (wri (wri M 6 j b 0 (M 6 k b 0)) 6 j b 1 (M 6 k b 1)) 6 j b 2 (M 6 k b 2))) _)
  rw [show ((wri (wri (wri M 6 j b 0 (M 6 k b 0)) 6 j b 1 (M 6 k b 1)) 6 j b 2 (M 6 k b 2)) 6 k b 3) = (M 6 k b 3) from (wri_nej hne).trans ((wri_nej hne).trans (wri_nej hne))]
  refine seg_ok 4 (?_ : EvI X E_X6_copyFrom (37, [some (.inr (.inr (some (6, j, b)))), some (.inr (.inr (some (6, k, b))))], [.inl ((wri (wri (wri (wri M 6 j b 0 (M 6 k b 0)) 6 j b 1 (M 6 k b 1)) 6 j b 2 (M 6 k b 2)) 6 j b 3 (M 6 k b 3)) 6 k b 4), .inr (.inr (some (6, j, b)))], (wri (wri (wri (wri M 6 j b 0 (M 6 k b 0)) 6 j b 1 (M 6 k b 1)) 6 j b 2 (M 6 k b 2)) 6 j b 3 (M 6 k b 3))) _)
  rw [show ((wri (wri (wri (wri M 6 j b 0 (M 6 k b 0)) 6 j b 1 (M 6 k b 1)) 6 j b 2 (M 6 k b 2)) 6 j b 3 (M 6 k b 3)) 6 k b 4) = (M 6 k b 4) from (wri_nej hne).trans ((wri_nej hne).trans ((wri_nej hne).trans (wri_nej hne)))]
  refine seg_ok 1 (?_ : EvI X E_X6_copyFrom (40, [some (.inr (.inr (some (6, j, b)))), some (.inr (.inr (some (6, k, b))))], [], (wri (wri (wri (wri (wri M 6 j b 0 (M 6 k b 0)) 6 j b 1 (M 6 k b 1)) 6 j b 2 (M 6 k b 2)) 6 j b 3 (M 6 k b 3)) 6 j b 4 (M 6 k b 4))) _)
  refine ev_rt (r := none) rfl (?_)
  refine ⟨rfl, fun s s0 s1 => ?_, fun K2 j2 i2 s2 h => ?_⟩
  · rcases (by omega : s = 0 ∨ s = 1 ∨ s = 2 ∨ s = 3 ∨ s = 4) with rfl | rfl | rfl | rfl | rfl
    · exact (wri_nes (by decide)).trans ((wri_nes (by decide)).trans ((wri_nes (by decide)).trans ((wri_nes (by decide)).trans (wri_eq))))
    · exact (wri_nes (by decide)).trans ((wri_nes (by decide)).trans ((wri_nes (by decide)).trans (wri_eq)))
    · exact (wri_nes (by decide)).trans ((wri_nes (by decide)).trans (wri_eq))
    · exact (wri_nes (by decide)).trans (wri_eq)
    · exact wri_eq
  · exact (wri_off h).trans ((wri_off h).trans ((wri_off h).trans ((wri_off h).trans (wri_off h))))
set_option maxRecDepth 1950 in
theorem d_cpyFloor {M : NM} {j k : Int} (hne : k ≠ j) : HT X z_X1_copyFrom [.inr (.inr (some (1, j, 0))), .inr (.inr (some (1, k, 0)))] M (fun rr MM => rr = none ∧ SEf (sl M k) (sl MM j) ∧ FR j M MM) := by
  refine ht_of (e := E_X1_copyFrom) rfl (?_ : EvI X E_X1_copyFrom (0, [some (.inr (.inr (some (1, j, 0)))), some (.inr (.inr (some (1, k, 0)))), none], [], M) _)
  refine seg_ok 2 (?_ : EvI X E_X1_copyFrom (2, [some (.inr (.inr (some (1, j, 0)))), some (.inr (.inr (some (1, k, 0)))), some (.inl 0)], [], M) _)
  have L2 : ∀ (m2 : Nat) (i : Int) (M1 : NM), 6 - i < (m2 : Int) → (0 ≤ i) → (i ≤ 6) → (∀ b w, 0 ≤ b → b < i → 0 ≤ w → w < 3 → M1 0 j b w = M 0 k b w) → (∀ K j' i s, ¬ (K = 0 ∧ j' = j) → M1 K j' i s = M K j' i s) → EvI X E_X1_copyFrom (2, [some (.inr (.inr (some (1, j, 0)))), some (.inr (.inr (some (1, k, 0)))), some (.inl i)], [], M1) (fun rr MM => rr = none ∧ SEf (sl M k) (sl MM j) ∧ FR j M MM) := by
    intro m2
    induction m2 with
    | zero => intro i M1 hm2 q1 q2 q3 q4; exact absurd hm2 (by omega)
    | succ m2 ih2 =>
      intro i M1 hm2 q1 q2 q3 q4
      refine seg_ok 3 (?_ : EvI X E_X1_copyFrom (if i < 6 then 8 else 29, [some (.inr (.inr (some (1, j, 0)))), some (.inr (.inr (some (1, k, 0)))), some (.inl i)], [], M1) _)
      refine ev_if (fun h5 => ?_) (fun h5 => ?_)
      · refine seg_ok 8 (⟨by omega, by omega, ?_⟩ : ((0 : Int) ≤ i ∧ i < 6) ∧ ((0 : Int) ≤ i ∧ i < 6) ∧ EvI X E_X1_copyFrom (20, [some (.inr (.inr (some (1, j, 0)))), some (.inr (.inr (some (1, k, 0)))), some (.inl i)], [.inr (.inr (some (0, k, i))), .inr (.inr (some (0, j, i)))], M1) _)
        refine ev_cl (z := z_X0_copyFrom) (as := [.inr (.inr (some (0, j, i))), .inr (.inr (some (0, k, i)))]) (rest := []) rfl (d_cpyBlock hne) ?_
        intro rr M1 hqM1
        obtain ⟨rfl, cM1⟩ := hqM1
        show EvI X E_X1_copyFrom (23, [some (.inr (.inr (some (1, j, 0)))), some (.inr (.inr (some (1, k, 0)))), some (.inl i)], [], M1) _
        refine seg_ok 2 (⟨by omega, ?_⟩ : ((-2147483648 : Int) ≤ (i + 1) ∧ (i + 1) < 2147483648) ∧ EvI X E_X1_copyFrom (2, [some (.inr (.inr (some (1, j, 0)))), some (.inr (.inr (some (1, k, 0)))), some (.inl (i + 1))], [], M1) _)
        refine ih2 (i + 1) M1 (by omega) (by omega) (by omega) (fun b w b0 b1 w0 w1 => by
            by_cases z : b = i
            · subst z; exact (cM1.1 w w0 w1).trans (q4 0 k b w (fun y => hne y.2))
            · exact (cM1.2 0 j b w (fun y => z y.2.2)).trans (q3 b w b0 (by omega) w0 w1)) (fun K j' i2 s h => (cM1.2 K j' i2 s (fun y => h ⟨y.1, y.2.1⟩)).trans (q4 K j' i2 s h))
      · refine seg_ok 23 (⟨by omega, by omega, ?_⟩ : (((0 : Int) ≤ 0 ∧ (0 : Int) ≤ 600 ∧ (0 : Int) + 600 ≤ 600) ∧ (0 : Int) ≤ 0 ∧ (0 : Int) + 600 ≤ 600) ∧ (((0 : Int) ≤ 0 ∧ (0 : Int) ≤ 600 ∧ (0 : Int) + 600 ≤ 600) ∧ (0 : Int) ≤ 0 ∧ (0 : Int) + 600 ≤ 600) ∧ EvI X E_X1_copyFrom (74, [some (.inr (.inr (some (1, j, 0)))), some (.inr (.inr (some (1, k, 0)))), some (.inl i)], [.inl ((wri (cpi (cpi M1 13 k 0 13 j 0 0 0 600) 14 k 0 14 j 0 0 0 600) 1 j 0 3 (M1 1 k 0 3)) 1 k 0 4), .inr (.inr (some (1, j, 0)))], (wri (cpi (cpi M1 13 k 0 13 j 0 0 0 600) 14 k 0 14 j 0 0 0 600) 1 j 0 3 (M1 1 k 0 3))) _)
        rw [show ((wri (cpi (cpi M1 13 k 0 13 j 0 0 0 600) 14 k 0 14 j 0 0 0 600) 1 j 0 3 (M1 1 k 0 3)) 1 k 0 4) = (M1 1 k 0 4) from wri_nej hne]
        refine seg_ok 4 (?_ : EvI X E_X1_copyFrom (82, [some (.inr (.inr (some (1, j, 0)))), some (.inr (.inr (some (1, k, 0)))), some (.inl i)], [.inl ((wri (wri (cpi (cpi M1 13 k 0 13 j 0 0 0 600) 14 k 0 14 j 0 0 0 600) 1 j 0 3 (M1 1 k 0 3)) 1 j 0 4 (M1 1 k 0 4)) 1 k 0 5), .inr (.inr (some (1, j, 0)))], (wri (wri (cpi (cpi M1 13 k 0 13 j 0 0 0 600) 14 k 0 14 j 0 0 0 600) 1 j 0 3 (M1 1 k 0 3)) 1 j 0 4 (M1 1 k 0 4))) _)
        rw [show ((wri (wri (cpi (cpi M1 13 k 0 13 j 0 0 0 600) 14 k 0 14 j 0 0 0 600) 1 j 0 3 (M1 1 k 0 3)) 1 j 0 4 (M1 1 k 0 4)) 1 k 0 5) = (M1 1 k 0 5) from (wri_nej hne).trans (wri_nej hne)]
        refine seg_ok 1 (?_ : EvI X E_X1_copyFrom (85, [some (.inr (.inr (some (1, j, 0)))), some (.inr (.inr (some (1, k, 0)))), some (.inl i)], [], (wri (wri (wri (cpi (cpi M1 13 k 0 13 j 0 0 0 600) 14 k 0 14 j 0 0 0 600) 1 j 0 3 (M1 1 k 0 3)) 1 j 0 4 (M1 1 k 0 4)) 1 j 0 5 (M1 1 k 0 5))) _)
        refine ev_rt (r := none) rfl (?_)
        refine ⟨rfl, ⟨fun b w b0 b1 w0 w1 => ?_, fun c c0 c1 => ?_, fun c c0 c1 => ?_, ?_, ?_, ?_⟩, ?_⟩
        · exact q3 b w b0 (by omega) w0 w1
        · have e : cpi M1 13 k 0 13 j 0 0 0 600 13 j 0 c = M1 13 k 0 (0 + (c - 0)) := if_pos ⟨rfl, rfl, rfl, by omega, by omega⟩
          rw [show (0 : Int) + (c - 0) = c by omega] at e
          exact e.trans (q4 13 k 0 c (fun z => by cases z.1))
        · have e : cpi (cpi M1 13 k 0 13 j 0 0 0 600) 14 k 0 14 j 0 0 0 600 14 j 0 c = M1 14 k 0 (0 + (c - 0)) := if_pos ⟨rfl, rfl, rfl, by omega, by omega⟩
          rw [show (0 : Int) + (c - 0) = c by omega] at e
          exact e.trans (q4 14 k 0 c (fun z => by cases z.1))
        · exact ((wri_nes (by decide)).trans ((wri_nes (by decide)).trans wri_eq)).trans (q4 1 k 0 3 (fun z => by cases z.1))
        · exact ((wri_nes (by decide)).trans wri_eq).trans (q4 1 k 0 4 (fun z => by cases z.1))
        · exact wri_eq.trans (q4 1 k 0 5 (fun z => by cases z.1))
        · exact FR_wri stK_1 (FR_wri stK_1 (FR_wri stK_1 (FR_cpi stK_14 (FR_cpi stK_13 (fun K j' i s q => q4 K j' i s (fun z => q.elim (fun y => y z.2) (fun y => y (by rw [z.1]; exact stK_0))))))))
  refine L2 ((6 - 0) + 1 : Int).toNat 0 M (by omega) (by omega) (by omega) (fun b w b0 b1 => by omega) (fun _ _ _ _ _ => rfl)
set_option maxRecDepth 2370 in
theorem d_cpyStadium {M : NM} {j k : Int} (hne : k ≠ j) (hcl : M 5 k 0 6 = 0 ∨ M 5 k 0 6 = 1) : HT X z_X5_copyFrom [.inr (.inr (some (5, j, 0))), .inr (.inr (some (5, k, 0)))] M (fun rr MM => rr = none ∧ SE (sl M k) (sl MM j) ∧ FR j M MM) := by
  refine ht_of (e := E_X5_copyFrom) rfl (?_ : EvI X E_X5_copyFrom (0, [some (.inr (.inr (some (5, j, 0)))), some (.inr (.inr (some (5, k, 0)))), none], [], M) _)
  refine seg_ok 4 (?_ : EvI X E_X5_copyFrom (8, [some (.inr (.inr (some (5, j, 0)))), some (.inr (.inr (some (5, k, 0)))), none], [.inr (.inr (some (1, k, 0))), .inr (.inr (some (1, j, 0)))], M) _)
  refine ev_cl (z := z_X1_copyFrom) (as := [.inr (.inr (some (1, j, 0))), .inr (.inr (some (1, k, 0)))]) (rest := []) rfl (d_cpyFloor hne) ?_
  intro rr M1 hqM1
  obtain ⟨rfl, eM1, fM1⟩ := hqM1
  show EvI X E_X5_copyFrom (11, [some (.inr (.inr (some (5, j, 0)))), some (.inr (.inr (some (5, k, 0)))), none], [], M1) _
  refine seg_ok 2 (?_ : EvI X E_X5_copyFrom (13, [some (.inr (.inr (some (5, j, 0)))), some (.inr (.inr (some (5, k, 0)))), some (.inl 0)], [], M1) _)
  have L13 : ∀ (m13 : Nat) (i : Int) (M2 : NM), 20 - i < (m13 : Int) → (0 ≤ i) → (i ≤ 20) → (∀ h w, 0 ≤ h → h < i → 0 ≤ w → w < 5 → M2 3 j h w = M 3 k h w ∧ M2 6 j h w = M 6 k h w) → (FR j M1 M2) → (∀ K i s, K ≠ 3 → K ≠ 6 → M2 K j i s = M1 K j i s) → EvI X E_X5_copyFrom (13, [some (.inr (.inr (some (5, j, 0)))), some (.inr (.inr (some (5, k, 0)))), some (.inl i)], [], M2) (fun rr MM => rr = none ∧ SE (sl M k) (sl MM j) ∧ FR j M MM) := by
    intro m13
    induction m13 with
    | zero => intro i M2 hm13 q1 q2 q3 q4 q5; exact absurd hm13 (by omega)
    | succ m13 ih13 =>
      intro i M2 hm13 q1 q2 q3 q4 q5
      refine seg_ok 3 (?_ : EvI X E_X5_copyFrom (if i < 20 then 19 else 55, [some (.inr (.inr (some (5, j, 0)))), some (.inr (.inr (some (5, k, 0)))), some (.inl i)], [], M2) _)
      refine ev_if (fun h16 => ?_) (fun h16 => ?_)
      · refine seg_ok 8 (⟨by omega, by omega, ?_⟩ : ((0 : Int) ≤ i ∧ i < 20) ∧ ((0 : Int) ≤ i ∧ i < 20) ∧ EvI X E_X5_copyFrom (31, [some (.inr (.inr (some (5, j, 0)))), some (.inr (.inr (some (5, k, 0)))), some (.inl i)], [.inr (.inr (some (3, k, i))), .inr (.inr (some (3, j, i)))], M2) _)
        refine ev_cl (z := z_X3_copyFrom) (as := [.inr (.inr (some (3, j, i))), .inr (.inr (some (3, k, i)))]) (rest := []) rfl (d_cpyHold hne) ?_
        intro rr M2 hqM2
        obtain ⟨rfl, cM2⟩ := hqM2
        show EvI X E_X5_copyFrom (34, [some (.inr (.inr (some (5, j, 0)))), some (.inr (.inr (some (5, k, 0)))), some (.inl i)], [], M2) _
        refine seg_ok 8 (⟨by omega, by omega, ?_⟩ : ((0 : Int) ≤ i ∧ i < 20) ∧ ((0 : Int) ≤ i ∧ i < 20) ∧ EvI X E_X5_copyFrom (46, [some (.inr (.inr (some (5, j, 0)))), some (.inr (.inr (some (5, k, 0)))), some (.inl i)], [.inr (.inr (some (6, k, i))), .inr (.inr (some (6, j, i)))], M2) _)
        refine ev_cl (z := z_X6_copyFrom) (as := [.inr (.inr (some (6, j, i))), .inr (.inr (some (6, k, i)))]) (rest := []) rfl (d_cpyTicket hne) ?_
        intro rr M3 hqM3
        obtain ⟨rfl, cM3⟩ := hqM3
        show EvI X E_X5_copyFrom (49, [some (.inr (.inr (some (5, j, 0)))), some (.inr (.inr (some (5, k, 0)))), some (.inl i)], [], M3) _
        refine seg_ok 2 (⟨by omega, ?_⟩ : ((-2147483648 : Int) ≤ (i + 1) ∧ (i + 1) < 2147483648) ∧ EvI X E_X5_copyFrom (13, [some (.inr (.inr (some (5, j, 0)))), some (.inr (.inr (some (5, k, 0)))), some (.inl (i + 1))], [], M3) _)
        refine ih13 (i + 1) M3 (by omega) (by omega) (by omega) (fun h w h0 h1 w0 w1 => by
            by_cases z : h = i
            · subst z
              exact ⟨((cM3.2 3 j h w (fun y => by cases y.1)).trans (cM2.1 w w0 w1)).trans ((q4 3 k h w (Or.inl hne)).trans (fM1 3 k h w (Or.inl hne))), (cM3.1 w w0 w1).trans ((cM2.2 6 k h w (fun y => by cases y.1)).trans ((q4 6 k h w (Or.inl hne)).trans (fM1 6 k h w (Or.inl hne))))⟩
            · have p := q3 h w h0 (by omega) w0 w1
              exact ⟨((cM3.2 3 j h w (fun y => z y.2.2)).trans (cM2.2 3 j h w (fun y => z y.2.2))).trans p.1, ((cM3.2 6 j h w (fun y => z y.2.2)).trans (cM2.2 6 j h w (fun y => z y.2.2))).trans p.2⟩) (fun K j' i2 s h => ((cM3.2 K j' i2 s (fun y => h.elim (fun u => u y.2.1) (fun u => u (by rw [y.1]; exact stK_6)))).trans (cM2.2 K j' i2 s (fun y => h.elim (fun u => u y.2.1) (fun u => u (by rw [y.1]; exact stK_3))))).trans (q4 K j' i2 s h)) (fun K i2 s h3 h6 => ((cM3.2 K j i2 s (fun y => h6 y.1)).trans (cM2.2 K j i2 s (fun y => h3 y.1))).trans (q5 K i2 s h3 h6))
      · refine seg_ok 7 (?_ : EvI X E_X5_copyFrom (68, [some (.inr (.inr (some (5, j, 0)))), some (.inr (.inr (some (5, k, 0)))), some (.inl i)], [.inl ((wri M2 5 j 0 3 (M2 5 k 0 3)) 5 k 0 4), .inr (.inr (some (5, j, 0)))], (wri M2 5 j 0 3 (M2 5 k 0 3))) _)
        rw [show ((wri M2 5 j 0 3 (M2 5 k 0 3)) 5 k 0 4) = (M2 5 k 0 4) from wri_nej hne]
        refine seg_ok 4 (?_ : EvI X E_X5_copyFrom (76, [some (.inr (.inr (some (5, j, 0)))), some (.inr (.inr (some (5, k, 0)))), some (.inl i)], [.inl ((wri (wri M2 5 j 0 3 (M2 5 k 0 3)) 5 j 0 4 (M2 5 k 0 4)) 5 k 0 5), .inr (.inr (some (5, j, 0)))], (wri (wri M2 5 j 0 3 (M2 5 k 0 3)) 5 j 0 4 (M2 5 k 0 4))) _)
        rw [show ((wri (wri M2 5 j 0 3 (M2 5 k 0 3)) 5 j 0 4 (M2 5 k 0 4)) 5 k 0 5) = (M2 5 k 0 5) from (wri_nej hne).trans (wri_nej hne)]
        refine seg_ok 4 (?_ : EvI X E_X5_copyFrom (84, [some (.inr (.inr (some (5, j, 0)))), some (.inr (.inr (some (5, k, 0)))), some (.inl i)], [.inl ((wri (wri (wri M2 5 j 0 3 (M2 5 k 0 3)) 5 j 0 4 (M2 5 k 0 4)) 5 j 0 5 (M2 5 k 0 5)) 5 k 0 6), .inr (.inr (some (5, j, 0)))], (wri (wri (wri M2 5 j 0 3 (M2 5 k 0 3)) 5 j 0 4 (M2 5 k 0 4)) 5 j 0 5 (M2 5 k 0 5))) _)
        rw [show ((wri (wri (wri M2 5 j 0 3 (M2 5 k 0 3)) 5 j 0 4 (M2 5 k 0 4)) 5 j 0 5 (M2 5 k 0 5)) 5 k 0 6) = (M2 5 k 0 6) from (wri_nej hne).trans ((wri_nej hne).trans (wri_nej hne))]
        refine seg_ok 4 (⟨by have e := (q4 5 k 0 6 (Or.inl hne)).trans (fM1 5 k 0 6 (Or.inl hne)); rw [e]; exact hcl, ?_⟩ : ((M2 5 k 0 6) = 0 ∨ (M2 5 k 0 6) = 1) ∧ EvI X E_X5_copyFrom (92, [some (.inr (.inr (some (5, j, 0)))), some (.inr (.inr (some (5, k, 0)))), some (.inl i)], [.inl ((wri (wri (wri (wri M2 5 j 0 3 (M2 5 k 0 3)) 5 j 0 4 (M2 5 k 0 4)) 5 j 0 5 (M2 5 k 0 5)) 5 j 0 6 (M2 5 k 0 6)) 5 k 0 7), .inr (.inr (some (5, j, 0)))], (wri (wri (wri (wri M2 5 j 0 3 (M2 5 k 0 3)) 5 j 0 4 (M2 5 k 0 4)) 5 j 0 5 (M2 5 k 0 5)) 5 j 0 6 (M2 5 k 0 6))) _)
        rw [show ((wri (wri (wri (wri M2 5 j 0 3 (M2 5 k 0 3)) 5 j 0 4 (M2 5 k 0 4)) 5 j 0 5 (M2 5 k 0 5)) 5 j 0 6 (M2 5 k 0 6)) 5 k 0 7) = (M2 5 k 0 7) from (wri_nej hne).trans ((wri_nej hne).trans ((wri_nej hne).trans (wri_nej hne)))]
        refine seg_ok 4 (?_ : EvI X E_X5_copyFrom (100, [some (.inr (.inr (some (5, j, 0)))), some (.inr (.inr (some (5, k, 0)))), some (.inl i)], [.inl ((wri (wri (wri (wri (wri M2 5 j 0 3 (M2 5 k 0 3)) 5 j 0 4 (M2 5 k 0 4)) 5 j 0 5 (M2 5 k 0 5)) 5 j 0 6 (M2 5 k 0 6)) 5 j 0 7 (M2 5 k 0 7)) 5 k 0 8), .inr (.inr (some (5, j, 0)))], (wri (wri (wri (wri (wri M2 5 j 0 3 (M2 5 k 0 3)) 5 j 0 4 (M2 5 k 0 4)) 5 j 0 5 (M2 5 k 0 5)) 5 j 0 6 (M2 5 k 0 6)) 5 j 0 7 (M2 5 k 0 7))) _)
        rw [show ((wri (wri (wri (wri (wri M2 5 j 0 3 (M2 5 k 0 3)) 5 j 0 4 (M2 5 k 0 4)) 5 j 0 5 (M2 5 k 0 5)) 5 j 0 6 (M2 5 k 0 6)) 5 j 0 7 (M2 5 k 0 7)) 5 k 0 8) = (M2 5 k 0 8) from (wri_nej hne).trans ((wri_nej hne).trans ((wri_nej hne).trans ((wri_nej hne).trans (wri_nej hne))))]
        refine seg_ok 4 (?_ : EvI X E_X5_copyFrom (108, [some (.inr (.inr (some (5, j, 0)))), some (.inr (.inr (some (5, k, 0)))), some (.inl i)], [.inl ((wri (wri (wri (wri (wri (wri M2 5 j 0 3 (M2 5 k 0 3)) 5 j 0 4 (M2 5 k 0 4)) 5 j 0 5 (M2 5 k 0 5)) 5 j 0 6 (M2 5 k 0 6)) 5 j 0 7 (M2 5 k 0 7)) 5 j 0 8 (M2 5 k 0 8)) 5 k 0 9), .inr (.inr (some (5, j, 0)))], (wri (wri (wri (wri (wri (wri M2 5 j 0 3 (M2 5 k 0 3)) 5 j 0 4 (M2 5 k 0 4)) 5 j 0 5 (M2 5 k 0 5)) 5 j 0 6 (M2 5 k 0 6)) 5 j 0 7 (M2 5 k 0 7)) 5 j 0 8 (M2 5 k 0 8))) _)
        rw [show ((wri (wri (wri (wri (wri (wri M2 5 j 0 3 (M2 5 k 0 3)) 5 j 0 4 (M2 5 k 0 4)) 5 j 0 5 (M2 5 k 0 5)) 5 j 0 6 (M2 5 k 0 6)) 5 j 0 7 (M2 5 k 0 7)) 5 j 0 8 (M2 5 k 0 8)) 5 k 0 9) = (M2 5 k 0 9) from (wri_nej hne).trans ((wri_nej hne).trans ((wri_nej hne).trans ((wri_nej hne).trans ((wri_nej hne).trans (wri_nej hne)))))]
        refine seg_ok 1 (?_ : EvI X E_X5_copyFrom (111, [some (.inr (.inr (some (5, j, 0)))), some (.inr (.inr (some (5, k, 0)))), some (.inl i)], [], (wri (wri (wri (wri (wri (wri (wri M2 5 j 0 3 (M2 5 k 0 3)) 5 j 0 4 (M2 5 k 0 4)) 5 j 0 5 (M2 5 k 0 5)) 5 j 0 6 (M2 5 k 0 6)) 5 j 0 7 (M2 5 k 0 7)) 5 j 0 8 (M2 5 k 0 8)) 5 j 0 9 (M2 5 k 0 9))) _)
        refine ev_rt (r := none) rfl (?_)
        have r5 : ∀ s, M2 5 k 0 s = M 5 k 0 s := fun s => (q4 5 k 0 s (Or.inl hne)).trans (fM1 5 k 0 s (Or.inl hne))
        refine ⟨rfl, ⟨?_, fun h w h0 h1 w0 w1 => (q3 h w h0 (by omega) w0 w1).1, fun h w h0 h1 w0 w1 => (q3 h w h0 (by omega) w0 w1).2, fun s s0 s1 => ?_⟩, ?_⟩
        · refine ⟨fun b w b0 b1 w0 w1 => (q5 0 b w (by decide) (by decide)).trans (eM1.1 b w b0 b1 w0 w1), fun c c0 c1 => (q5 13 0 c (by decide) (by decide)).trans (eM1.2.1 c c0 c1), fun c c0 c1 => (q5 14 0 c (by decide) (by decide)).trans (eM1.2.2.1 c c0 c1), (q5 1 0 3 (by decide) (by decide)).trans eM1.2.2.2.1, (q5 1 0 4 (by decide) (by decide)).trans eM1.2.2.2.2.1, (q5 1 0 5 (by decide) (by decide)).trans eM1.2.2.2.2.2⟩
        · rcases (by omega : s = 3 ∨ s = 4 ∨ s = 5 ∨ s = 6 ∨ s = 7 ∨ s = 8 ∨ s = 9) with rfl | rfl | rfl | rfl | rfl | rfl | rfl
          · exact ((wri_nes (by decide)).trans ((wri_nes (by decide)).trans ((wri_nes (by decide)).trans ((wri_nes (by decide)).trans ((wri_nes (by decide)).trans ((wri_nes (by decide)).trans (wri_eq))))))).trans (r5 3)
          · exact ((wri_nes (by decide)).trans ((wri_nes (by decide)).trans ((wri_nes (by decide)).trans ((wri_nes (by decide)).trans ((wri_nes (by decide)).trans (wri_eq)))))).trans (r5 4)
          · exact ((wri_nes (by decide)).trans ((wri_nes (by decide)).trans ((wri_nes (by decide)).trans ((wri_nes (by decide)).trans (wri_eq))))).trans (r5 5)
          · exact ((wri_nes (by decide)).trans ((wri_nes (by decide)).trans ((wri_nes (by decide)).trans (wri_eq)))).trans (r5 6)
          · exact ((wri_nes (by decide)).trans ((wri_nes (by decide)).trans (wri_eq))).trans (r5 7)
          · exact ((wri_nes (by decide)).trans (wri_eq)).trans (r5 8)
          · exact (wri_eq).trans (r5 9)
        · exact FR_wri stK_5 (FR_wri stK_5 (FR_wri stK_5 (FR_wri stK_5 (FR_wri stK_5 (FR_wri stK_5 (FR_wri stK_5 (FR_tr fM1 q4)))))))
  refine L13 ((20 - 0) + 1 : Int).toNat 0 M1 (by omega) (by omega) (by omega) (fun b w b0 b1 => by omega) FR_rf (fun _ _ _ _ _ => rfl)
end
