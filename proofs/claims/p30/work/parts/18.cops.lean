/-! 18: the class: what its orders do -/
section
variable {X : XI}
theorem d_mark {M : NM} {j f n w : Int} (hf : 0 ≤ f ∧ f ≤ 590) (hn : 0 ≤ n ∧ n ≤ 10) : HT X z_X1_mark [.inr (.inr (some (1, j, 0))), .inl f, .inl n, .inl w] M (fun rr MM => rr = none ∧ MM = bcM M j f n w) := by
  refine ht_of (e := E_X1_mark) rfl (?_ : EvI X E_X1_mark (0, [some (.inr (.inr (some (1, j, 0)))), some (.inl f), some (.inl n), some (.inl w), none], [], M) _)
  refine seg_ok 2 (?_ : EvI X E_X1_mark (if f < 0 then 17 else 4, [some (.inr (.inr (some (1, j, 0)))), some (.inl f), some (.inl n), some (.inl w), none], [], M) _)
  refine ev_if (fun h1 => ?_) (fun h1 => ?_)
  · exfalso
    omega
  · refine seg_ok 3 (?_ : EvI X E_X1_mark (if 10 < n then 17 else 10, [some (.inr (.inr (some (1, j, 0)))), some (.inl f), some (.inl n), some (.inl w), none], [], M) _)
    refine ev_if (fun h7 => ?_) (fun h7 => ?_)
    · exfalso
      omega
    · refine seg_ok 3 (?_ : EvI X E_X1_mark (if 590 < f then 17 else 18, [some (.inr (.inr (some (1, j, 0)))), some (.inl f), some (.inl n), some (.inl w), none], [], M) _)
      refine ev_if (fun h14 => ?_) (fun h14 => ?_)
      · exfalso
        omega
      · refine seg_ok 2 (?_ : EvI X E_X1_mark (21, [some (.inr (.inr (some (1, j, 0)))), some (.inl f), some (.inl n), some (.inl w), some (.inl 0)], [], M) _)
        have L21 : ∀ (m21 : Nat) (k : Int) (M1 : NM), n - k < (m21 : Int) → (0 ≤ k) → (k ≤ n) → (M1 = bcM M j f k w) → EvI X E_X1_mark (21, [some (.inr (.inr (some (1, j, 0)))), some (.inl f), some (.inl n), some (.inl w), some (.inl k)], [], M1) (fun rr MM => rr = none ∧ MM = bcM M j f n w) := by
          intro m21
          induction m21 with
          | zero => intro k M1 hm21 q1 q2 q3; exact absurd hm21 (by omega)
          | succ m21 ih21 =>
            intro k M1 hm21 q1 q2 q3
            refine seg_ok 3 (?_ : EvI X E_X1_mark (if k < n then 27 else 43, [some (.inr (.inr (some (1, j, 0)))), some (.inl f), some (.inl n), some (.inl w), some (.inl k)], [], M1) _)
            refine ev_if (fun h24 => ?_) (fun h24 => ?_)
            · refine seg_ok 9 (⟨by omega, by omega, by omega, ?_⟩ : ((-2147483648 : Int) ≤ (f + k) ∧ (f + k) < 2147483648) ∧ ((0 : Int) ≤ (f + k) ∧ (f + k) < 600) ∧ ((-2147483648 : Int) ≤ (k + 1) ∧ (k + 1) < 2147483648) ∧ EvI X E_X1_mark (21, [some (.inr (.inr (some (1, j, 0)))), some (.inl f), some (.inl n), some (.inl w), some (.inl (k + 1))], [], (wri M1 13 j 0 (f + k) w)) _)
              refine ih21 (k + 1) (wri M1 13 j 0 (f + k) w) (by omega) (by omega) (by omega) (by rw [q3]; exact bcM_s q1)
            · refine ev_rt (r := none) rfl (?_)
              exact ⟨rfl, by rw [q3, show k = n by omega]⟩
        refine L21 ((n - 0) + 1 : Int).toNat 0 M (by omega) (by omega) (by omega) bcM_0
set_option maxRecDepth 2220 in
theorem d_makeBlock {m : Int} {M : NM} {j : Int} (hI : Inv m (sl M j)) {x y z : Int} : HT X z_X1_makeBlock [.inr (.inr (some (1, j, 0))), .inl x, .inl y, .inl z] M (fun rr MM => rr = some (.inl (opBlock (sl M j) x y z).1) ∧ sl MM j = (opBlock (sl M j) x y z).2 ∧ FR j M MM) := by
  have hi := hI.1
  simp only [Iv0, sl] at hi
  refine ht_of (e := E_X1_makeBlock) rfl (?_ : EvI X E_X1_makeBlock (0, [some (.inr (.inr (some (1, j, 0)))), some (.inl x), some (.inl y), some (.inl z), none], [], M) _)
  refine seg_ok 3 (?_ : EvI X E_X1_makeBlock (if x < 1 then 22 else 5, [some (.inr (.inr (some (1, j, 0)))), some (.inl x), some (.inl y), some (.inl z), none], [], M) _)
  refine ev_if (fun h2 => ?_) (fun h2 => ?_)
  · refine seg_ok 1 (?_ : EvI X E_X1_makeBlock (23, [some (.inr (.inr (some (1, j, 0)))), some (.inl x), some (.inl y), some (.inl z), none], [.inl (-1)], M) _)
    refine ev_rt (r := some (.inl (-1))) rfl (?_)
    have e : opBlock (sl M j) x y z = (-1, sl M j) := cif_t (by first | omega | (simp only [sl]; omega))
    exact ⟨rint (by rw [e]), by rw [e], FR_rf⟩
  · refine seg_ok 3 (?_ : EvI X E_X1_makeBlock (if 6 < x then 22 else 11, [some (.inr (.inr (some (1, j, 0)))), some (.inl x), some (.inl y), some (.inl z), none], [], M) _)
    refine ev_if (fun h8 => ?_) (fun h8 => ?_)
    · refine seg_ok 1 (?_ : EvI X E_X1_makeBlock (23, [some (.inr (.inr (some (1, j, 0)))), some (.inl x), some (.inl y), some (.inl z), none], [.inl (-1)], M) _)
      refine ev_rt (r := some (.inl (-1))) rfl (?_)
      have e : opBlock (sl M j) x y z = (-1, sl M j) := cif_t (by first | omega | (simp only [sl]; omega))
      exact ⟨rint (by rw [e]), by rw [e], FR_rf⟩
    · refine seg_ok 3 (?_ : EvI X E_X1_makeBlock (if y < 1 then 22 else 16, [some (.inr (.inr (some (1, j, 0)))), some (.inl x), some (.inl y), some (.inl z), none], [], M) _)
      refine ev_if (fun h13 => ?_) (fun h13 => ?_)
      · refine seg_ok 1 (?_ : EvI X E_X1_makeBlock (23, [some (.inr (.inr (some (1, j, 0)))), some (.inl x), some (.inl y), some (.inl z), none], [.inl (-1)], M) _)
        refine ev_rt (r := some (.inl (-1))) rfl (?_)
        have e : opBlock (sl M j) x y z = (-1, sl M j) := cif_t (by first | omega | (simp only [sl]; omega))
        exact ⟨rint (by rw [e]), by rw [e], FR_rf⟩
      · refine seg_ok 3 (?_ : EvI X E_X1_makeBlock (if 10 < y then 22 else 24, [some (.inr (.inr (some (1, j, 0)))), some (.inl x), some (.inl y), some (.inl z), none], [], M) _)
        refine ev_if (fun h19 => ?_) (fun h19 => ?_)
        · refine seg_ok 1 (?_ : EvI X E_X1_makeBlock (23, [some (.inr (.inr (some (1, j, 0)))), some (.inl x), some (.inl y), some (.inl z), none], [.inl (-1)], M) _)
          refine ev_rt (r := some (.inl (-1))) rfl (?_)
          have e : opBlock (sl M j) x y z = (-1, sl M j) := cif_t (by first | omega | (simp only [sl]; omega))
          exact ⟨rint (by rw [e]), by rw [e], FR_rf⟩
        · refine seg_ok 3 (?_ : EvI X E_X1_makeBlock (if z < 1 then 36 else 29, [some (.inr (.inr (some (1, j, 0)))), some (.inl x), some (.inl y), some (.inl z), none], [], M) _)
          refine ev_if (fun h26 => ?_) (fun h26 => ?_)
          · refine seg_ok 1 (?_ : EvI X E_X1_makeBlock (37, [some (.inr (.inr (some (1, j, 0)))), some (.inl x), some (.inl y), some (.inl z), none], [.inl (-1)], M) _)
            refine ev_rt (r := some (.inl (-1))) rfl (?_)
            have e : opBlock (sl M j) x y z = (-1, sl M j) := cif_t (by first | omega | (simp only [sl]; omega))
            exact ⟨rint (by rw [e]), by rw [e], FR_rf⟩
          · refine seg_ok 3 (?_ : EvI X E_X1_makeBlock (if 500 < z then 36 else 38, [some (.inr (.inr (some (1, j, 0)))), some (.inl x), some (.inl y), some (.inl z), none], [], M) _)
            refine ev_if (fun h33 => ?_) (fun h33 => ?_)
            · refine seg_ok 1 (?_ : EvI X E_X1_makeBlock (37, [some (.inr (.inr (some (1, j, 0)))), some (.inl x), some (.inl y), some (.inl z), none], [.inl (-1)], M) _)
              refine ev_rt (r := some (.inl (-1))) rfl (?_)
              have e : opBlock (sl M j) x y z = (-1, sl M j) := cif_t (by first | omega | (simp only [sl]; omega))
              exact ⟨rint (by rw [e]), by rw [e], FR_rf⟩
            · refine seg_ok 4 (?_ : EvI X E_X1_makeBlock (if (M 1 j 0 3) < 6 then 50 else 47, [some (.inr (.inr (some (1, j, 0)))), some (.inl x), some (.inl y), some (.inl z), none], [], M) _)
              refine ev_if (fun h44 => ?_) (fun h44 => ?_)
              · refine seg_ok 23 (⟨by omega, by omega, ?_⟩ : ((0 : Int) ≤ (M 1 j 0 3) ∧ (M 1 j 0 3) < 6) ∧ ((-2147483648 : Int) ≤ ((M 1 j 0 3) + 1) ∧ ((M 1 j 0 3) + 1) < 2147483648) ∧ EvI X E_X1_makeBlock (93, [some (.inr (.inr (some (1, j, 0)))), some (.inl x), some (.inl y), some (.inl z), some (.inr (.inr (some (0, j, (M 1 j 0 3)))))], [.inl ((wri (wri (wri (wri M 0 j (M 1 j 0 3) 0 x) 0 j (M 1 j 0 3) 1 y) 0 j (M 1 j 0 3) 2 z) 1 j 0 3 ((M 1 j 0 3) + 1)) 1 j 0 3)], (wri (wri (wri (wri M 0 j (M 1 j 0 3) 0 x) 0 j (M 1 j 0 3) 1 y) 0 j (M 1 j 0 3) 2 z) 1 j 0 3 ((M 1 j 0 3) + 1))) _)
                rw [show ((wri (wri (wri (wri M 0 j (M 1 j 0 3) 0 x) 0 j (M 1 j 0 3) 1 y) 0 j (M 1 j 0 3) 2 z) 1 j 0 3 ((M 1 j 0 3) + 1)) 1 j 0 3) = ((M 1 j 0 3) + 1) from wri_eq]
                refine seg_ok 2 (⟨by omega, ?_⟩ : ((-2147483648 : Int) ≤ (((M 1 j 0 3) + 1) - 1) ∧ (((M 1 j 0 3) + 1) - 1) < 2147483648) ∧ EvI X E_X1_makeBlock (95, [some (.inr (.inr (some (1, j, 0)))), some (.inl x), some (.inl y), some (.inl z), some (.inr (.inr (some (0, j, (M 1 j 0 3)))))], [.inl (((M 1 j 0 3) + 1) - 1)], (wri (wri (wri (wri M 0 j (M 1 j 0 3) 0 x) 0 j (M 1 j 0 3) 1 y) 0 j (M 1 j 0 3) 2 z) 1 j 0 3 ((M 1 j 0 3) + 1))) _)
                refine ev_rt (r := some (.inl (((M 1 j 0 3) + 1) - 1))) rfl (?_)
                have e : opBlock (sl M j) x y z = (M 1 j 0 3, blkS (sl M j) x y z) := (cif_f (by first | omega | (simp only [sl]; omega))).trans (cif_f (by first | omega | (simp only [sl]; omega)))
                exact ⟨rint (by rw [e] <;> first | rfl | (dsimp only; omega)), by rw [e] <;> simp only [sl_wri, sl_bcM, blkS] <;> try rfl, FR_wri stK_1 (FR_wri stK_0 (FR_wri stK_0 (FR_wri stK_0 (FR_rf))))⟩
              · refine seg_ok 1 (?_ : EvI X E_X1_makeBlock (49, [some (.inr (.inr (some (1, j, 0)))), some (.inl x), some (.inl y), some (.inl z), none], [.inl (-3)], M) _)
                refine ev_rt (r := some (.inl (-3))) rfl (?_)
                have e : opBlock (sl M j) x y z = (-3, sl M j) := (cif_f (by first | omega | (simp only [sl]; omega))).trans (cif_t (by first | omega | (simp only [sl]; omega)))
                exact ⟨rint (by rw [e]), by rw [e], FR_rf⟩
theorem d_makeStage {m : Int} {M : NM} {j : Int} (hI : Inv m (sl M j))  : HT X z_X1_makeStage [.inr (.inr (some (1, j, 0)))] M (fun rr MM => rr = some (.inl (opStage (sl M j)).1) ∧ sl MM j = (opStage (sl M j)).2 ∧ FR j M MM) := by
  have hi := hI.1
  simp only [Iv0, sl] at hi
  refine ht_of (e := E_X1_makeStage) rfl (?_ : EvI X E_X1_makeStage (0, [some (.inr (.inr (some (1, j, 0))))], [], M) _)
  refine seg_ok 4 (?_ : EvI X E_X1_makeStage (if (M 1 j 0 4) < 4 then 11 else 8, [some (.inr (.inr (some (1, j, 0))))], [], M) _)
  refine ev_if (fun h5 => ?_) (fun h5 => ?_)
  · refine seg_ok 8 (⟨by omega, ?_⟩ : ((-2147483648 : Int) ≤ ((M 1 j 0 4) + 1) ∧ ((M 1 j 0 4) + 1) < 2147483648) ∧ EvI X E_X1_makeStage (25, [some (.inr (.inr (some (1, j, 0))))], [.inl ((wri M 1 j 0 4 ((M 1 j 0 4) + 1)) 1 j 0 4)], (wri M 1 j 0 4 ((M 1 j 0 4) + 1))) _)
    rw [show ((wri M 1 j 0 4 ((M 1 j 0 4) + 1)) 1 j 0 4) = ((M 1 j 0 4) + 1) from wri_eq]
    refine seg_ok 2 (⟨by omega, ?_⟩ : ((-2147483648 : Int) ≤ (((M 1 j 0 4) + 1) - 1) ∧ (((M 1 j 0 4) + 1) - 1) < 2147483648) ∧ EvI X E_X1_makeStage (27, [some (.inr (.inr (some (1, j, 0))))], [.inl (((M 1 j 0 4) + 1) - 1)], (wri M 1 j 0 4 ((M 1 j 0 4) + 1))) _)
    refine ev_rt (r := some (.inl (((M 1 j 0 4) + 1) - 1))) rfl (?_)
    have e : opStage (sl M j) = (M 1 j 0 4, st (sl M j) 1 0 4 (M 1 j 0 4 + 1)) := cif_f (by first | omega | (simp only [sl]; omega))
    exact ⟨rint (by rw [e] <;> first | rfl | (dsimp only; omega)), by rw [e] <;> simp only [sl_wri, sl_bcM, sl] <;> try rfl, FR_wri stK_1 (FR_rf)⟩
  · refine seg_ok 1 (?_ : EvI X E_X1_makeStage (10, [some (.inr (.inr (some (1, j, 0))))], [.inl (-3)], M) _)
    refine ev_rt (r := some (.inl (-3))) rfl (?_)
    have e : opStage (sl M j) = (-3, sl M j) := cif_t (by first | omega | (simp only [sl]; omega))
    exact ⟨rint (by rw [e]), by rw [e], FR_rf⟩
set_option maxRecDepth 2730 in
theorem d_makeHold {m : Int} {M : NM} {j : Int} (hI : Inv m (sl M j)) {b n w : Int} : HT X z_X5_makeHold [.inr (.inr (some (5, j, 0))), .inl b, .inl n, .inl w] M (fun rr MM => rr = some (.inl (opHold (sl M j) b n w).1) ∧ sl MM j = (opHold (sl M j) b n w).2 ∧ FR j M MM) := by
  have hi := hI.1
  simp only [Iv0, sl] at hi
  refine ht_of (e := E_X5_makeHold) rfl (?_ : EvI X E_X5_makeHold (0, [some (.inr (.inr (some (5, j, 0)))), some (.inl b), some (.inl n), some (.inl w), none, none], [], M) _)
  refine seg_ok 3 (?_ : EvI X E_X5_makeHold (5, [some (.inr (.inr (some (5, j, 0)))), some (.inl b), some (.inl n), some (.inl w), none, none], [.inl b, .inr (.inr (some (1, j, 0)))], M) _)
  by_cases hb : 0 ≤ b ∧ b < M 1 j 0 3
  · refine ev_clp (v := .inr (.inr (some (0, j, b)))) (z := z_X1_blockAt) (as := [.inr (.inr (some (1, j, 0))), .inl b]) (rest := []) rfl (d_blockAt_t hb (by omega)) (?_ : EvI X E_X5_makeHold (8, [some (.inr (.inr (some (5, j, 0)))), some (.inl b), some (.inl n), some (.inl w), none, none], [.inr (.inr (some (0, j, b)))], M) _)
    refine seg_ok 2 (?_ : EvI X E_X5_makeHold (12, [some (.inr (.inr (some (5, j, 0)))), some (.inl b), some (.inl n), some (.inl w), none, none], [.inl n], M) _)
    refine ev_clp (v := .inl (bi (1 ≤ n ∧ n ≤ 10))) (z := z_X1_isGroup) (as := [.inl n]) (rest := []) rfl d_isGroup (?_ : EvI X E_X5_makeHold (15, [some (.inr (.inr (some (5, j, 0)))), some (.inl b), some (.inl n), some (.inl w), none, none], [.inl (bi (1 ≤ n ∧ n ≤ 10))], M) _)
    refine seg_ok 1 (?_ : EvI X E_X5_makeHold (if (bi (1 ≤ n ∧ n ≤ 10)) = 0 then 25 else 18, [some (.inr (.inr (some (5, j, 0)))), some (.inl b), some (.inl n), some (.inl w), none, none], [], M) _)
    refine ev_ifb (fun h15 => ?_) (fun h15 => ?_)
    · refine seg_ok 1 (?_ : EvI X E_X5_makeHold (26, [some (.inr (.inr (some (5, j, 0)))), some (.inl b), some (.inl n), some (.inl w), none, none], [.inl (-1)], M) _)
      refine ev_rt (r := some (.inl (-1))) rfl (?_)
      have e : opHold (sl M j) b n w = (-1, sl M j) := cif_t (by first | omega | (simp only [sl]; omega))
      exact ⟨rint (by rw [e]), by rw [e], FR_rf⟩
    · refine seg_ok 1 (?_ : EvI X E_X5_makeHold (19, [some (.inr (.inr (some (5, j, 0)))), some (.inl b), some (.inl n), some (.inl w), none, none], [.inl w], M) _)
      refine ev_clp (v := .inl (bi (1 ≤ w ∧ w ≤ 999))) (z := z_X5_isWait) (as := [.inl w]) (rest := []) rfl d_isWait (?_ : EvI X E_X5_makeHold (22, [some (.inr (.inr (some (5, j, 0)))), some (.inl b), some (.inl n), some (.inl w), none, none], [.inl (bi (1 ≤ w ∧ w ≤ 999))], M) _)
      refine seg_ok 1 (?_ : EvI X E_X5_makeHold (if (bi (1 ≤ w ∧ w ≤ 999)) = 0 then 25 else 27, [some (.inr (.inr (some (5, j, 0)))), some (.inl b), some (.inl n), some (.inl w), none, none], [], M) _)
      refine ev_ifb (fun h22 => ?_) (fun h22 => ?_)
      · refine seg_ok 1 (?_ : EvI X E_X5_makeHold (26, [some (.inr (.inr (some (5, j, 0)))), some (.inl b), some (.inl n), some (.inl w), none, none], [.inl (-1)], M) _)
        refine ev_rt (r := some (.inl (-1))) rfl (?_)
        have e : opHold (sl M j) b n w = (-1, sl M j) := cif_t (by first | omega | (simp only [sl]; omega))
        exact ⟨rint (by rw [e]), by rw [e], FR_rf⟩
      · refine seg_ok 4 (?_ : EvI X E_X5_makeHold (33, [some (.inr (.inr (some (5, j, 0)))), some (.inl b), some (.inl n), some (.inl w), none, none], [.inl n, .inl b, .inr (.inr (some (1, j, 0)))], M) _)
        refine ev_clp (v := .inl (pl (sl M j) b n)) (z := z_X1_findPlace) (as := [.inr (.inr (some (1, j, 0))), .inl b, .inl n]) (rest := []) rfl (d_findPlace (Iw_of hI) (by omega) (by omega)) (?_ : EvI X E_X5_makeHold (36, [some (.inr (.inr (some (5, j, 0)))), some (.inl b), some (.inl n), some (.inl w), none, none], [.inl (pl (sl M j) b n)], M) _)
        refine seg_ok 4 (?_ : EvI X E_X5_makeHold (if (pl (sl M j) b n) = (-9) then 45 else 48, [some (.inr (.inr (some (5, j, 0)))), some (.inl b), some (.inl n), some (.inl w), some (.inl (pl (sl M j) b n)), none], [], M) _)
        refine ev_if (fun h42 => ?_) (fun h42 => ?_)
        · refine seg_ok 1 (?_ : EvI X E_X5_makeHold (47, [some (.inr (.inr (some (5, j, 0)))), some (.inl b), some (.inl n), some (.inl w), some (.inl (pl (sl M j) b n)), none], [.inl (-2)], M) _)
          refine ev_rt (r := some (.inl (-2))) rfl (?_)
          have e : opHold (sl M j) b n w = (-2, sl M j) := (cif_f (by first | omega | (simp only [sl]; omega))).trans (cif_t h42)
          exact ⟨rint (by rw [e]), by rw [e], FR_rf⟩
        · have hp := (HO_r hI (pl_HO hI hb (by omega) h42).1)
          refine seg_ok 4 (?_ : EvI X E_X5_makeHold (if (M 5 j 0 3) < 20 then 60 else 57, [some (.inr (.inr (some (5, j, 0)))), some (.inl b), some (.inl n), some (.inl w), some (.inl (pl (sl M j) b n)), none], [], M) _)
          refine ev_if (fun h54 => ?_) (fun h54 => ?_)
          · refine seg_ok 29 (⟨by omega, by omega, ?_⟩ : ((0 : Int) ≤ (M 5 j 0 3) ∧ (M 5 j 0 3) < 20) ∧ ((-2147483648 : Int) ≤ ((M 5 j 0 5) + w) ∧ ((M 5 j 0 5) + w) < 2147483648) ∧ EvI X E_X5_makeHold (116, [some (.inr (.inr (some (5, j, 0)))), some (.inl b), some (.inl n), some (.inl w), some (.inl (pl (sl M j) b n)), some (.inr (.inr (some (3, j, (M 5 j 0 3)))))], [.inl 1, .inl n, .inl (pl (sl M j) b n), .inr (.inr (some (1, j, 0)))], (wri (wri (wri (wri (wri M 3 j (M 5 j 0 3) 0 0) 3 j (M 5 j 0 3) 1 (pl (sl M j) b n)) 3 j (M 5 j 0 3) 2 n) 3 j (M 5 j 0 3) 3 ((M 5 j 0 5) + w)) 3 j (M 5 j 0 3) 4 (-9))) _)
            refine ev_cl (z := z_X1_mark) (as := [.inr (.inr (some (1, j, 0))), .inl (pl (sl M j) b n), .inl n, .inl 1]) (rest := []) rfl (d_mark (by omega) (by omega)) ?_
            intro rr M1 hqM1
            obtain ⟨rfl, hM1⟩ := hqM1
            subst hM1
            show EvI X E_X5_makeHold (119, [some (.inr (.inr (some (5, j, 0)))), some (.inl b), some (.inl n), some (.inl w), some (.inl (pl (sl M j) b n)), some (.inr (.inr (some (3, j, (M 5 j 0 3)))))], [], (bcM (wri (wri (wri (wri (wri M 3 j (M 5 j 0 3) 0 0) 3 j (M 5 j 0 3) 1 (pl (sl M j) b n)) 3 j (M 5 j 0 3) 2 n) 3 j (M 5 j 0 3) 3 ((M 5 j 0 5) + w)) 3 j (M 5 j 0 3) 4 (-9)) j (pl (sl M j) b n) n 1)) _
            refine seg_ok 8 (⟨by omega, ?_⟩ : ((-2147483648 : Int) ≤ ((M 5 j 0 3) + 1) ∧ ((M 5 j 0 3) + 1) < 2147483648) ∧ EvI X E_X5_makeHold (133, [some (.inr (.inr (some (5, j, 0)))), some (.inl b), some (.inl n), some (.inl w), some (.inl (pl (sl M j) b n)), some (.inr (.inr (some (3, j, (M 5 j 0 3)))))], [.inl ((wri (bcM (wri (wri (wri (wri (wri M 3 j (M 5 j 0 3) 0 0) 3 j (M 5 j 0 3) 1 (pl (sl M j) b n)) 3 j (M 5 j 0 3) 2 n) 3 j (M 5 j 0 3) 3 ((M 5 j 0 5) + w)) 3 j (M 5 j 0 3) 4 (-9)) j (pl (sl M j) b n) n 1) 5 j 0 3 ((M 5 j 0 3) + 1)) 5 j 0 3)], (wri (bcM (wri (wri (wri (wri (wri M 3 j (M 5 j 0 3) 0 0) 3 j (M 5 j 0 3) 1 (pl (sl M j) b n)) 3 j (M 5 j 0 3) 2 n) 3 j (M 5 j 0 3) 3 ((M 5 j 0 5) + w)) 3 j (M 5 j 0 3) 4 (-9)) j (pl (sl M j) b n) n 1) 5 j 0 3 ((M 5 j 0 3) + 1))) _)
            rw [show ((wri (bcM (wri (wri (wri (wri (wri M 3 j (M 5 j 0 3) 0 0) 3 j (M 5 j 0 3) 1 (pl (sl M j) b n)) 3 j (M 5 j 0 3) 2 n) 3 j (M 5 j 0 3) 3 ((M 5 j 0 5) + w)) 3 j (M 5 j 0 3) 4 (-9)) j (pl (sl M j) b n) n 1) 5 j 0 3 ((M 5 j 0 3) + 1)) 5 j 0 3) = ((M 5 j 0 3) + 1) from wri_eq]
            refine seg_ok 2 (⟨by omega, ?_⟩ : ((-2147483648 : Int) ≤ (((M 5 j 0 3) + 1) - 1) ∧ (((M 5 j 0 3) + 1) - 1) < 2147483648) ∧ EvI X E_X5_makeHold (135, [some (.inr (.inr (some (5, j, 0)))), some (.inl b), some (.inl n), some (.inl w), some (.inl (pl (sl M j) b n)), some (.inr (.inr (some (3, j, (M 5 j 0 3)))))], [.inl (((M 5 j 0 3) + 1) - 1)], (wri (bcM (wri (wri (wri (wri (wri M 3 j (M 5 j 0 3) 0 0) 3 j (M 5 j 0 3) 1 (pl (sl M j) b n)) 3 j (M 5 j 0 3) 2 n) 3 j (M 5 j 0 3) 3 ((M 5 j 0 5) + w)) 3 j (M 5 j 0 3) 4 (-9)) j (pl (sl M j) b n) n 1) 5 j 0 3 ((M 5 j 0 3) + 1))) _)
            refine ev_rt (r := some (.inl (((M 5 j 0 3) + 1) - 1))) rfl (?_)
            have e : opHold (sl M j) b n w = (M 5 j 0 3, holdS (sl M j) (pl (sl M j) b n) n w) := (cif_f (by first | omega | (simp only [sl]; omega))).trans ((cif_f h42).trans (cif_f (by first | omega | (simp only [sl]; omega))))
            exact ⟨rint (by rw [e] <;> first | rfl | (dsimp only; omega)), by rw [e] <;> simp only [sl_wri, sl_bcM, holdS] <;> try rfl, FR_wri stK_5 (FR_bc (FR_wri stK_3 (FR_wri stK_3 (FR_wri stK_3 (FR_wri stK_3 (FR_wri stK_3 (FR_rf)))))))⟩
          · refine seg_ok 1 (?_ : EvI X E_X5_makeHold (59, [some (.inr (.inr (some (5, j, 0)))), some (.inl b), some (.inl n), some (.inl w), some (.inl (pl (sl M j) b n)), none], [.inl (-3)], M) _)
            refine ev_rt (r := some (.inl (-3))) rfl (?_)
            have e : opHold (sl M j) b n w = (-3, sl M j) := (cif_f (by first | omega | (simp only [sl]; omega))).trans ((cif_f h42).trans (cif_t (by first | omega | (simp only [sl]; omega))))
            exact ⟨rint (by rw [e]), by rw [e], FR_rf⟩
  · refine ev_clp (v := .inr (.inr none)) (z := z_X1_blockAt) (as := [.inr (.inr (some (1, j, 0))), .inl b]) (rest := []) rfl (d_blockAt_f hb) (?_ : EvI X E_X5_makeHold (8, [some (.inr (.inr (some (5, j, 0)))), some (.inl b), some (.inl n), some (.inl w), none, none], [.inr (.inr none)], M) _)
    refine seg_ok 2 (?_ : EvI X E_X5_makeHold (26, [some (.inr (.inr (some (5, j, 0)))), some (.inl b), some (.inl n), some (.inl w), none, none], [.inl (-1)], M) _)
    refine ev_rt (r := some (.inl (-1))) rfl (?_)
    have e : opHold (sl M j) b n w = (-1, sl M j) := cif_t (by first | omega | (simp only [sl]; omega))
    exact ⟨rint (by rw [e]), by rw [e], FR_rf⟩
set_option maxRecDepth 3360 in
theorem d_buyHold {m : Int} {M : NM} {j : Int} (hI : Inv m (sl M j)) {x : Int} : HT X z_X5_buyHold [.inr (.inr (some (5, j, 0))), .inl x] M (fun rr MM => rr = some (.inl (opBuy (sl M j) x).1) ∧ sl MM j = (opBuy (sl M j) x).2 ∧ FR j M MM) := by
  have hi := hI.1
  simp only [Iv0, sl] at hi
  refine ht_of (e := E_X5_buyHold) rfl (?_ : EvI X E_X5_buyHold (0, [some (.inr (.inr (some (5, j, 0)))), some (.inl x), none, none], [], M) _)
  refine seg_ok 2 (?_ : EvI X E_X5_buyHold (2, [some (.inr (.inr (some (5, j, 0)))), some (.inl x), none, none], [.inl x, .inr (.inr (some (5, j, 0)))], M) _)
  by_cases hb : 0 ≤ x ∧ x < M 5 j 0 3
  · have hO := HO_h hI hb
    have hh := HO_r hI hO
    have hp := pr_r hI hO
    simp only [HO, sl] at hO hh hp
    refine ev_clp (v := .inr (.inr (some (3, j, x)))) (z := z_X5_holdAt) (as := [.inr (.inr (some (5, j, 0))), .inl x]) (rest := []) rfl (d_holdAt_t hb (by omega)) (?_ : EvI X E_X5_buyHold (5, [some (.inr (.inr (some (5, j, 0)))), some (.inl x), none, none], [.inr (.inr (some (3, j, x)))], M) _)
    refine seg_ok 6 (?_ : EvI X E_X5_buyHold (if (M 3 j x 0) = 0 then 19 else 28, [some (.inr (.inr (some (5, j, 0)))), some (.inl x), some (.inr (.inr (some (3, j, x)))), none], [], M) _)
    refine ev_if (fun h16 => ?_) (fun h16 => ?_)
    · have hk := nT_lt hI hb h16
      simp only [sl] at hk
      refine seg_ok 4 (?_ : EvI X E_X5_buyHold (if (M 5 j 0 4) < 20 then 31 else 28, [some (.inr (.inr (some (5, j, 0)))), some (.inl x), some (.inr (.inr (some (3, j, x)))), none], [], M) _)
      refine ev_if (fun h25 => ?_) (fun h25 => ?_)
      · refine seg_ok 10 (⟨by omega, ?_⟩ : ((0 : Int) ≤ (M 5 j 0 4) ∧ (M 5 j 0 4) < 20) ∧ EvI X E_X5_buyHold (if (M 5 j 0 6) = 0 then 53 else 49, [some (.inr (.inr (some (5, j, 0)))), some (.inl x), some (.inr (.inr (some (3, j, x)))), some (.inr (.inr (some (6, j, (M 5 j 0 4)))))], [.inr (.inr (some (6, j, (M 5 j 0 4))))], M) _)
        refine ev_if (fun h46 => ?_) (fun h46 => ?_)
        · refine seg_ok 19 (⟨by omega, ?_⟩ : ((0 : Int) ≤ (M 3 j x 1) ∧ (0 : Int) < 100) ∧ EvI X E_X5_buyHold (89, [some (.inr (.inr (some (5, j, 0)))), some (.inl x), some (.inr (.inr (some (3, j, x)))), some (.inr (.inr (some (6, j, (M 5 j 0 4)))))], [.inl ((M 3 j x 1) / 100), .inr (.inr (some (1, j, 0))), .inl (M 3 j x 2), .inr (.inr (some (6, j, (M 5 j 0 4))))], (wri (wri (wri M 6 j (M 5 j 0 4) 0 0) 6 j (M 5 j 0 4) 1 (M 3 j x 1)) 6 j (M 5 j 0 4) 2 (M 3 j x 2))) _)
          refine ev_clp (v := .inl (M 0 j ((M 3 j x 1) / 100) 2)) (z := z_X1_priceOf) (as := [.inr (.inr (some (1, j, 0))), .inl ((M 3 j x 1) / 100)]) (rest := [.inl (M 3 j x 2), .inr (.inr (some (6, j, (M 5 j 0 4))))]) rfl (d_priceOf (show 0 ≤ ((M 3 j x 1) / 100) ∧ ((M 3 j x 1) / 100) < M 1 j 0 3 from by omega) (show M 1 j 0 3 ≤ 6 from by omega)) (?_ : EvI X E_X5_buyHold (92, [some (.inr (.inr (some (5, j, 0)))), some (.inl x), some (.inr (.inr (some (3, j, x)))), some (.inr (.inr (some (6, j, (M 5 j 0 4)))))], [.inl (M 0 j ((M 3 j x 1) / 100) 2), .inl (M 3 j x 2), .inr (.inr (some (6, j, (M 5 j 0 4))))], (wri (wri (wri M 6 j (M 5 j 0 4) 0 0) 6 j (M 5 j 0 4) 1 (M 3 j x 1)) 6 j (M 5 j 0 4) 2 (M 3 j x 2))) _)
          refine seg_ok 10 (⟨by omega, ?_⟩ : ((-2147483648 : Int) ≤ ((M 3 j x 2) * (M 0 j ((M 3 j x 1) / 100) 2)) ∧ ((M 3 j x 2) * (M 0 j ((M 3 j x 1) / 100) 2)) < 2147483648) ∧ EvI X E_X5_buyHold (110, [some (.inr (.inr (some (5, j, 0)))), some (.inl x), some (.inr (.inr (some (3, j, x)))), some (.inr (.inr (some (6, j, (M 5 j 0 4)))))], [.inl ((wri (wri (wri (wri (wri M 6 j (M 5 j 0 4) 0 0) 6 j (M 5 j 0 4) 1 (M 3 j x 1)) 6 j (M 5 j 0 4) 2 (M 3 j x 2)) 6 j (M 5 j 0 4) 3 ((M 3 j x 2) * (M 0 j ((M 3 j x 1) / 100) 2))) 6 j (M 5 j 0 4) 4 0) 6 j (M 5 j 0 4) 3), .inl (M 5 j 0 7), .inr (.inr (some (5, j, 0)))], (wri (wri (wri (wri (wri M 6 j (M 5 j 0 4) 0 0) 6 j (M 5 j 0 4) 1 (M 3 j x 1)) 6 j (M 5 j 0 4) 2 (M 3 j x 2)) 6 j (M 5 j 0 4) 3 ((M 3 j x 2) * (M 0 j ((M 3 j x 1) / 100) 2))) 6 j (M 5 j 0 4) 4 0)) _)
          rw [show ((wri (wri (wri (wri (wri M 6 j (M 5 j 0 4) 0 0) 6 j (M 5 j 0 4) 1 (M 3 j x 1)) 6 j (M 5 j 0 4) 2 (M 3 j x 2)) 6 j (M 5 j 0 4) 3 ((M 3 j x 2) * (M 0 j ((M 3 j x 1) / 100) 2))) 6 j (M 5 j 0 4) 4 0) 6 j (M 5 j 0 4) 3) = ((M 3 j x 2) * (M 0 j ((M 3 j x 1) / 100) 2)) from (wri_nes (by decide)).trans (wri_eq)]
          refine seg_ok 6 (⟨by omega, ?_⟩ : ((-2147483648 : Int) ≤ ((M 5 j 0 7) + ((M 3 j x 2) * (M 0 j ((M 3 j x 1) / 100) 2))) ∧ ((M 5 j 0 7) + ((M 3 j x 2) * (M 0 j ((M 3 j x 1) / 100) 2))) < 2147483648) ∧ EvI X E_X5_buyHold (122, [some (.inr (.inr (some (5, j, 0)))), some (.inl x), some (.inr (.inr (some (3, j, x)))), some (.inr (.inr (some (6, j, (M 5 j 0 4)))))], [.inl ((wri (wri (wri (wri (wri M 6 j (M 5 j 0 4) 0 0) 6 j (M 5 j 0 4) 1 (M 3 j x 1)) 6 j (M 5 j 0 4) 2 (M 3 j x 2)) 6 j (M 5 j 0 4) 3 ((M 3 j x 2) * (M 0 j ((M 3 j x 1) / 100) 2))) 6 j (M 5 j 0 4) 4 0) 6 j (M 5 j 0 4) 1), .inr (.inr (some (1, j, 0)))], (wri (wri (wri (wri (wri (wri M 6 j (M 5 j 0 4) 0 0) 6 j (M 5 j 0 4) 1 (M 3 j x 1)) 6 j (M 5 j 0 4) 2 (M 3 j x 2)) 6 j (M 5 j 0 4) 3 ((M 3 j x 2) * (M 0 j ((M 3 j x 1) / 100) 2))) 6 j (M 5 j 0 4) 4 0) 5 j 0 7 ((M 5 j 0 7) + ((M 3 j x 2) * (M 0 j ((M 3 j x 1) / 100) 2))))) _)
          rw [show ((wri (wri (wri (wri (wri M 6 j (M 5 j 0 4) 0 0) 6 j (M 5 j 0 4) 1 (M 3 j x 1)) 6 j (M 5 j 0 4) 2 (M 3 j x 2)) 6 j (M 5 j 0 4) 3 ((M 3 j x 2) * (M 0 j ((M 3 j x 1) / 100) 2))) 6 j (M 5 j 0 4) 4 0) 6 j (M 5 j 0 4) 1) = (M 3 j x 1) from (wri_nes (by decide)).trans ((wri_nes (by decide)).trans ((wri_nes (by decide)).trans (wri_eq)))]
          refine seg_ok 2 (?_ : EvI X E_X5_buyHold (126, [some (.inr (.inr (some (5, j, 0)))), some (.inl x), some (.inr (.inr (some (3, j, x)))), some (.inr (.inr (some (6, j, (M 5 j 0 4)))))], [.inl ((wri (wri (wri (wri (wri M 6 j (M 5 j 0 4) 0 0) 6 j (M 5 j 0 4) 1 (M 3 j x 1)) 6 j (M 5 j 0 4) 2 (M 3 j x 2)) 6 j (M 5 j 0 4) 3 ((M 3 j x 2) * (M 0 j ((M 3 j x 1) / 100) 2))) 6 j (M 5 j 0 4) 4 0) 6 j (M 5 j 0 4) 2), .inl (M 3 j x 1), .inr (.inr (some (1, j, 0)))], (wri (wri (wri (wri (wri (wri M 6 j (M 5 j 0 4) 0 0) 6 j (M 5 j 0 4) 1 (M 3 j x 1)) 6 j (M 5 j 0 4) 2 (M 3 j x 2)) 6 j (M 5 j 0 4) 3 ((M 3 j x 2) * (M 0 j ((M 3 j x 1) / 100) 2))) 6 j (M 5 j 0 4) 4 0) 5 j 0 7 ((M 5 j 0 7) + ((M 3 j x 2) * (M 0 j ((M 3 j x 1) / 100) 2))))) _)
          rw [show ((wri (wri (wri (wri (wri M 6 j (M 5 j 0 4) 0 0) 6 j (M 5 j 0 4) 1 (M 3 j x 1)) 6 j (M 5 j 0 4) 2 (M 3 j x 2)) 6 j (M 5 j 0 4) 3 ((M 3 j x 2) * (M 0 j ((M 3 j x 1) / 100) 2))) 6 j (M 5 j 0 4) 4 0) 6 j (M 5 j 0 4) 2) = (M 3 j x 2) from (wri_nes (by decide)).trans ((wri_nes (by decide)).trans (wri_eq))]
          refine seg_ok 2 (?_ : EvI X E_X5_buyHold (130, [some (.inr (.inr (some (5, j, 0)))), some (.inl x), some (.inr (.inr (some (3, j, x)))), some (.inr (.inr (some (6, j, (M 5 j 0 4)))))], [.inl ((wri (wri (wri (wri (wri (wri M 6 j (M 5 j 0 4) 0 0) 6 j (M 5 j 0 4) 1 (M 3 j x 1)) 6 j (M 5 j 0 4) 2 (M 3 j x 2)) 6 j (M 5 j 0 4) 3 ((M 3 j x 2) * (M 0 j ((M 3 j x 1) / 100) 2))) 6 j (M 5 j 0 4) 4 0) 5 j 0 7 ((M 5 j 0 7) + ((M 3 j x 2) * (M 0 j ((M 3 j x 1) / 100) 2)))) 5 j 0 6), .inl (M 3 j x 2), .inl (M 3 j x 1), .inr (.inr (some (1, j, 0)))], (wri (wri (wri (wri (wri (wri M 6 j (M 5 j 0 4) 0 0) 6 j (M 5 j 0 4) 1 (M 3 j x 1)) 6 j (M 5 j 0 4) 2 (M 3 j x 2)) 6 j (M 5 j 0 4) 3 ((M 3 j x 2) * (M 0 j ((M 3 j x 1) / 100) 2))) 6 j (M 5 j 0 4) 4 0) 5 j 0 7 ((M 5 j 0 7) + ((M 3 j x 2) * (M 0 j ((M 3 j x 1) / 100) 2))))) _)
          rw [show ((wri (wri (wri (wri (wri (wri M 6 j (M 5 j 0 4) 0 0) 6 j (M 5 j 0 4) 1 (M 3 j x 1)) 6 j (M 5 j 0 4) 2 (M 3 j x 2)) 6 j (M 5 j 0 4) 3 ((M 3 j x 2) * (M 0 j ((M 3 j x 1) / 100) 2))) 6 j (M 5 j 0 4) 4 0) 5 j 0 7 ((M 5 j 0 7) + ((M 3 j x 2) * (M 0 j ((M 3 j x 1) / 100) 2)))) 5 j 0 6) = (M 5 j 0 6) from wri_nes (by decide)]
          refine seg_ok 1 (?_ : EvI X E_X5_buyHold (if (M 5 j 0 6) = 0 then 137 else 133, [some (.inr (.inr (some (5, j, 0)))), some (.inl x), some (.inr (.inr (some (3, j, x)))), some (.inr (.inr (some (6, j, (M 5 j 0 4)))))], [.inl (M 3 j x 2), .inl (M 3 j x 1), .inr (.inr (some (1, j, 0)))], (wri (wri (wri (wri (wri (wri M 6 j (M 5 j 0 4) 0 0) 6 j (M 5 j 0 4) 1 (M 3 j x 1)) 6 j (M 5 j 0 4) 2 (M 3 j x 2)) 6 j (M 5 j 0 4) 3 ((M 3 j x 2) * (M 0 j ((M 3 j x 1) / 100) 2))) 6 j (M 5 j 0 4) 4 0) 5 j 0 7 ((M 5 j 0 7) + ((M 3 j x 2) * (M 0 j ((M 3 j x 1) / 100) 2))))) _)
          refine ev_if (fun h130 => ?_) (fun h130 => ?_)
          · refine seg_ok 1 (?_ : EvI X E_X5_buyHold (138, [some (.inr (.inr (some (5, j, 0)))), some (.inl x), some (.inr (.inr (some (3, j, x)))), some (.inr (.inr (some (6, j, (M 5 j 0 4)))))], [.inl 2, .inl (M 3 j x 2), .inl (M 3 j x 1), .inr (.inr (some (1, j, 0)))], (wri (wri (wri (wri (wri (wri M 6 j (M 5 j 0 4) 0 0) 6 j (M 5 j 0 4) 1 (M 3 j x 1)) 6 j (M 5 j 0 4) 2 (M 3 j x 2)) 6 j (M 5 j 0 4) 3 ((M 3 j x 2) * (M 0 j ((M 3 j x 1) / 100) 2))) 6 j (M 5 j 0 4) 4 0) 5 j 0 7 ((M 5 j 0 7) + ((M 3 j x 2) * (M 0 j ((M 3 j x 1) / 100) 2))))) _)
            refine ev_cl (z := z_X1_mark) (as := [.inr (.inr (some (1, j, 0))), .inl (M 3 j x 1), .inl (M 3 j x 2), .inl 2]) (rest := []) rfl (d_mark (by omega) (by omega)) ?_
            intro rr M1 hqM1
            obtain ⟨rfl, hM1⟩ := hqM1
            subst hM1
            show EvI X E_X5_buyHold (141, [some (.inr (.inr (some (5, j, 0)))), some (.inl x), some (.inr (.inr (some (3, j, x)))), some (.inr (.inr (some (6, j, (M 5 j 0 4)))))], [], (bcM (wri (wri (wri (wri (wri (wri M 6 j (M 5 j 0 4) 0 0) 6 j (M 5 j 0 4) 1 (M 3 j x 1)) 6 j (M 5 j 0 4) 2 (M 3 j x 2)) 6 j (M 5 j 0 4) 3 ((M 3 j x 2) * (M 0 j ((M 3 j x 1) / 100) 2))) 6 j (M 5 j 0 4) 4 0) 5 j 0 7 ((M 5 j 0 7) + ((M 3 j x 2) * (M 0 j ((M 3 j x 1) / 100) 2)))) j (M 3 j x 1) (M 3 j x 2) 2)) _
            refine seg_ok 6 (?_ : EvI X E_X5_buyHold (151, [some (.inr (.inr (some (5, j, 0)))), some (.inl x), some (.inr (.inr (some (3, j, x)))), some (.inr (.inr (some (6, j, (M 5 j 0 4)))))], [.inl ((wri (wri (wri (wri (wri (wri M 6 j (M 5 j 0 4) 0 0) 6 j (M 5 j 0 4) 1 (M 3 j x 1)) 6 j (M 5 j 0 4) 2 (M 3 j x 2)) 6 j (M 5 j 0 4) 3 ((M 3 j x 2) * (M 0 j ((M 3 j x 1) / 100) 2))) 6 j (M 5 j 0 4) 4 0) 5 j 0 7 ((M 5 j 0 7) + ((M 3 j x 2) * (M 0 j ((M 3 j x 1) / 100) 2)))) 5 j 0 4), .inr (.inr (some (3, j, x)))], (wri (bcM (wri (wri (wri (wri (wri (wri M 6 j (M 5 j 0 4) 0 0) 6 j (M 5 j 0 4) 1 (M 3 j x 1)) 6 j (M 5 j 0 4) 2 (M 3 j x 2)) 6 j (M 5 j 0 4) 3 ((M 3 j x 2) * (M 0 j ((M 3 j x 1) / 100) 2))) 6 j (M 5 j 0 4) 4 0) 5 j 0 7 ((M 5 j 0 7) + ((M 3 j x 2) * (M 0 j ((M 3 j x 1) / 100) 2)))) j (M 3 j x 1) (M 3 j x 2) 2) 3 j x 0 1)) _)
            rw [show ((wri (wri (wri (wri (wri (wri M 6 j (M 5 j 0 4) 0 0) 6 j (M 5 j 0 4) 1 (M 3 j x 1)) 6 j (M 5 j 0 4) 2 (M 3 j x 2)) 6 j (M 5 j 0 4) 3 ((M 3 j x 2) * (M 0 j ((M 3 j x 1) / 100) 2))) 6 j (M 5 j 0 4) 4 0) 5 j 0 7 ((M 5 j 0 7) + ((M 3 j x 2) * (M 0 j ((M 3 j x 1) / 100) 2)))) 5 j 0 4) = (M 5 j 0 4) from wri_nes (by decide)]
            refine seg_ok 4 (?_ : EvI X E_X5_buyHold (159, [some (.inr (.inr (some (5, j, 0)))), some (.inl x), some (.inr (.inr (some (3, j, x)))), some (.inr (.inr (some (6, j, (M 5 j 0 4)))))], [.inl ((wri (wri (wri (wri (wri (wri M 6 j (M 5 j 0 4) 0 0) 6 j (M 5 j 0 4) 1 (M 3 j x 1)) 6 j (M 5 j 0 4) 2 (M 3 j x 2)) 6 j (M 5 j 0 4) 3 ((M 3 j x 2) * (M 0 j ((M 3 j x 1) / 100) 2))) 6 j (M 5 j 0 4) 4 0) 5 j 0 7 ((M 5 j 0 7) + ((M 3 j x 2) * (M 0 j ((M 3 j x 1) / 100) 2)))) 5 j 0 4), .inr (.inr (some (5, j, 0)))], (wri (wri (bcM (wri (wri (wri (wri (wri (wri M 6 j (M 5 j 0 4) 0 0) 6 j (M 5 j 0 4) 1 (M 3 j x 1)) 6 j (M 5 j 0 4) 2 (M 3 j x 2)) 6 j (M 5 j 0 4) 3 ((M 3 j x 2) * (M 0 j ((M 3 j x 1) / 100) 2))) 6 j (M 5 j 0 4) 4 0) 5 j 0 7 ((M 5 j 0 7) + ((M 3 j x 2) * (M 0 j ((M 3 j x 1) / 100) 2)))) j (M 3 j x 1) (M 3 j x 2) 2) 3 j x 0 1) 3 j x 4 (M 5 j 0 4))) _)
            rw [show ((wri (wri (wri (wri (wri (wri M 6 j (M 5 j 0 4) 0 0) 6 j (M 5 j 0 4) 1 (M 3 j x 1)) 6 j (M 5 j 0 4) 2 (M 3 j x 2)) 6 j (M 5 j 0 4) 3 ((M 3 j x 2) * (M 0 j ((M 3 j x 1) / 100) 2))) 6 j (M 5 j 0 4) 4 0) 5 j 0 7 ((M 5 j 0 7) + ((M 3 j x 2) * (M 0 j ((M 3 j x 1) / 100) 2)))) 5 j 0 4) = (M 5 j 0 4) from wri_nes (by decide)]
            refine seg_ok 5 (⟨by omega, ?_⟩ : ((-2147483648 : Int) ≤ ((M 5 j 0 4) + 1) ∧ ((M 5 j 0 4) + 1) < 2147483648) ∧ EvI X E_X5_buyHold (168, [some (.inr (.inr (some (5, j, 0)))), some (.inl x), some (.inr (.inr (some (3, j, x)))), some (.inr (.inr (some (6, j, (M 5 j 0 4)))))], [.inl ((wri (wri (wri (bcM (wri (wri (wri (wri (wri (wri M 6 j (M 5 j 0 4) 0 0) 6 j (M 5 j 0 4) 1 (M 3 j x 1)) 6 j (M 5 j 0 4) 2 (M 3 j x 2)) 6 j (M 5 j 0 4) 3 ((M 3 j x 2) * (M 0 j ((M 3 j x 1) / 100) 2))) 6 j (M 5 j 0 4) 4 0) 5 j 0 7 ((M 5 j 0 7) + ((M 3 j x 2) * (M 0 j ((M 3 j x 1) / 100) 2)))) j (M 3 j x 1) (M 3 j x 2) 2) 3 j x 0 1) 3 j x 4 (M 5 j 0 4)) 5 j 0 4 ((M 5 j 0 4) + 1)) 5 j 0 4)], (wri (wri (wri (bcM (wri (wri (wri (wri (wri (wri M 6 j (M 5 j 0 4) 0 0) 6 j (M 5 j 0 4) 1 (M 3 j x 1)) 6 j (M 5 j 0 4) 2 (M 3 j x 2)) 6 j (M 5 j 0 4) 3 ((M 3 j x 2) * (M 0 j ((M 3 j x 1) / 100) 2))) 6 j (M 5 j 0 4) 4 0) 5 j 0 7 ((M 5 j 0 7) + ((M 3 j x 2) * (M 0 j ((M 3 j x 1) / 100) 2)))) j (M 3 j x 1) (M 3 j x 2) 2) 3 j x 0 1) 3 j x 4 (M 5 j 0 4)) 5 j 0 4 ((M 5 j 0 4) + 1))) _)
            rw [show ((wri (wri (wri (bcM (wri (wri (wri (wri (wri (wri M 6 j (M 5 j 0 4) 0 0) 6 j (M 5 j 0 4) 1 (M 3 j x 1)) 6 j (M 5 j 0 4) 2 (M 3 j x 2)) 6 j (M 5 j 0 4) 3 ((M 3 j x 2) * (M 0 j ((M 3 j x 1) / 100) 2))) 6 j (M 5 j 0 4) 4 0) 5 j 0 7 ((M 5 j 0 7) + ((M 3 j x 2) * (M 0 j ((M 3 j x 1) / 100) 2)))) j (M 3 j x 1) (M 3 j x 2) 2) 3 j x 0 1) 3 j x 4 (M 5 j 0 4)) 5 j 0 4 ((M 5 j 0 4) + 1)) 5 j 0 4) = ((M 5 j 0 4) + 1) from wri_eq]
            refine seg_ok 2 (⟨by omega, ?_⟩ : ((-2147483648 : Int) ≤ (((M 5 j 0 4) + 1) - 1) ∧ (((M 5 j 0 4) + 1) - 1) < 2147483648) ∧ EvI X E_X5_buyHold (170, [some (.inr (.inr (some (5, j, 0)))), some (.inl x), some (.inr (.inr (some (3, j, x)))), some (.inr (.inr (some (6, j, (M 5 j 0 4)))))], [.inl (((M 5 j 0 4) + 1) - 1)], (wri (wri (wri (bcM (wri (wri (wri (wri (wri (wri M 6 j (M 5 j 0 4) 0 0) 6 j (M 5 j 0 4) 1 (M 3 j x 1)) 6 j (M 5 j 0 4) 2 (M 3 j x 2)) 6 j (M 5 j 0 4) 3 ((M 3 j x 2) * (M 0 j ((M 3 j x 1) / 100) 2))) 6 j (M 5 j 0 4) 4 0) 5 j 0 7 ((M 5 j 0 7) + ((M 3 j x 2) * (M 0 j ((M 3 j x 1) / 100) 2)))) j (M 3 j x 1) (M 3 j x 2) 2) 3 j x 0 1) 3 j x 4 (M 5 j 0 4)) 5 j 0 4 ((M 5 j 0 4) + 1))) _)
            refine ev_rt (r := some (.inl (((M 5 j 0 4) + 1) - 1))) rfl (?_)
            have e : opBuy (sl M j) x = (M 5 j 0 4, buyS (sl M j) x) := (cif_f (fun z => z hb)).trans (cif_f (fun z => z h16))
            exact ⟨rint (by rw [e] <;> first | rfl | (dsimp only; omega)), by rw [e] <;> simp only [sl_wri, sl_bcM, buyS, cif_t (show sl M j 5 0 6 = 0 from h46)] <;> try rfl, FR_wri stK_5 (FR_wri stK_3 (FR_wri stK_3 (FR_bc (FR_wri stK_5 (FR_wri stK_6 (FR_wri stK_6 (FR_wri stK_6 (FR_wri stK_6 (FR_wri stK_6 (FR_rf))))))))))⟩
          · exact absurd h46 h130
        · refine seg_ok 20 (⟨by omega, ?_⟩ : ((0 : Int) ≤ (M 3 j x 1) ∧ (0 : Int) < 100) ∧ EvI X E_X5_buyHold (89, [some (.inr (.inr (some (5, j, 0)))), some (.inl x), some (.inr (.inr (some (3, j, x)))), some (.inr (.inr (some (6, j, (M 5 j 0 4)))))], [.inl ((M 3 j x 1) / 100), .inr (.inr (some (1, j, 0))), .inl (M 3 j x 2), .inr (.inr (some (6, j, (M 5 j 0 4))))], (wri (wri (wri M 6 j (M 5 j 0 4) 0 2) 6 j (M 5 j 0 4) 1 (M 3 j x 1)) 6 j (M 5 j 0 4) 2 (M 3 j x 2))) _)
          refine ev_clp (v := .inl (M 0 j ((M 3 j x 1) / 100) 2)) (z := z_X1_priceOf) (as := [.inr (.inr (some (1, j, 0))), .inl ((M 3 j x 1) / 100)]) (rest := [.inl (M 3 j x 2), .inr (.inr (some (6, j, (M 5 j 0 4))))]) rfl (d_priceOf (show 0 ≤ ((M 3 j x 1) / 100) ∧ ((M 3 j x 1) / 100) < M 1 j 0 3 from by omega) (show M 1 j 0 3 ≤ 6 from by omega)) (?_ : EvI X E_X5_buyHold (92, [some (.inr (.inr (some (5, j, 0)))), some (.inl x), some (.inr (.inr (some (3, j, x)))), some (.inr (.inr (some (6, j, (M 5 j 0 4)))))], [.inl (M 0 j ((M 3 j x 1) / 100) 2), .inl (M 3 j x 2), .inr (.inr (some (6, j, (M 5 j 0 4))))], (wri (wri (wri M 6 j (M 5 j 0 4) 0 2) 6 j (M 5 j 0 4) 1 (M 3 j x 1)) 6 j (M 5 j 0 4) 2 (M 3 j x 2))) _)
          refine seg_ok 10 (⟨by omega, ?_⟩ : ((-2147483648 : Int) ≤ ((M 3 j x 2) * (M 0 j ((M 3 j x 1) / 100) 2)) ∧ ((M 3 j x 2) * (M 0 j ((M 3 j x 1) / 100) 2)) < 2147483648) ∧ EvI X E_X5_buyHold (110, [some (.inr (.inr (some (5, j, 0)))), some (.inl x), some (.inr (.inr (some (3, j, x)))), some (.inr (.inr (some (6, j, (M 5 j 0 4)))))], [.inl ((wri (wri (wri (wri (wri M 6 j (M 5 j 0 4) 0 2) 6 j (M 5 j 0 4) 1 (M 3 j x 1)) 6 j (M 5 j 0 4) 2 (M 3 j x 2)) 6 j (M 5 j 0 4) 3 ((M 3 j x 2) * (M 0 j ((M 3 j x 1) / 100) 2))) 6 j (M 5 j 0 4) 4 0) 6 j (M 5 j 0 4) 3), .inl (M 5 j 0 7), .inr (.inr (some (5, j, 0)))], (wri (wri (wri (wri (wri M 6 j (M 5 j 0 4) 0 2) 6 j (M 5 j 0 4) 1 (M 3 j x 1)) 6 j (M 5 j 0 4) 2 (M 3 j x 2)) 6 j (M 5 j 0 4) 3 ((M 3 j x 2) * (M 0 j ((M 3 j x 1) / 100) 2))) 6 j (M 5 j 0 4) 4 0)) _)
          rw [show ((wri (wri (wri (wri (wri M 6 j (M 5 j 0 4) 0 2) 6 j (M 5 j 0 4) 1 (M 3 j x 1)) 6 j (M 5 j 0 4) 2 (M 3 j x 2)) 6 j (M 5 j 0 4) 3 ((M 3 j x 2) * (M 0 j ((M 3 j x 1) / 100) 2))) 6 j (M 5 j 0 4) 4 0) 6 j (M 5 j 0 4) 3) = ((M 3 j x 2) * (M 0 j ((M 3 j x 1) / 100) 2)) from (wri_nes (by decide)).trans (wri_eq)]
          refine seg_ok 6 (⟨by omega, ?_⟩ : ((-2147483648 : Int) ≤ ((M 5 j 0 7) + ((M 3 j x 2) * (M 0 j ((M 3 j x 1) / 100) 2))) ∧ ((M 5 j 0 7) + ((M 3 j x 2) * (M 0 j ((M 3 j x 1) / 100) 2))) < 2147483648) ∧ EvI X E_X5_buyHold (122, [some (.inr (.inr (some (5, j, 0)))), some (.inl x), some (.inr (.inr (some (3, j, x)))), some (.inr (.inr (some (6, j, (M 5 j 0 4)))))], [.inl ((wri (wri (wri (wri (wri M 6 j (M 5 j 0 4) 0 2) 6 j (M 5 j 0 4) 1 (M 3 j x 1)) 6 j (M 5 j 0 4) 2 (M 3 j x 2)) 6 j (M 5 j 0 4) 3 ((M 3 j x 2) * (M 0 j ((M 3 j x 1) / 100) 2))) 6 j (M 5 j 0 4) 4 0) 6 j (M 5 j 0 4) 1), .inr (.inr (some (1, j, 0)))], (wri (wri (wri (wri (wri (wri M 6 j (M 5 j 0 4) 0 2) 6 j (M 5 j 0 4) 1 (M 3 j x 1)) 6 j (M 5 j 0 4) 2 (M 3 j x 2)) 6 j (M 5 j 0 4) 3 ((M 3 j x 2) * (M 0 j ((M 3 j x 1) / 100) 2))) 6 j (M 5 j 0 4) 4 0) 5 j 0 7 ((M 5 j 0 7) + ((M 3 j x 2) * (M 0 j ((M 3 j x 1) / 100) 2))))) _)
          rw [show ((wri (wri (wri (wri (wri M 6 j (M 5 j 0 4) 0 2) 6 j (M 5 j 0 4) 1 (M 3 j x 1)) 6 j (M 5 j 0 4) 2 (M 3 j x 2)) 6 j (M 5 j 0 4) 3 ((M 3 j x 2) * (M 0 j ((M 3 j x 1) / 100) 2))) 6 j (M 5 j 0 4) 4 0) 6 j (M 5 j 0 4) 1) = (M 3 j x 1) from (wri_nes (by decide)).trans ((wri_nes (by decide)).trans ((wri_nes (by decide)).trans (wri_eq)))]
          refine seg_ok 2 (?_ : EvI X E_X5_buyHold (126, [some (.inr (.inr (some (5, j, 0)))), some (.inl x), some (.inr (.inr (some (3, j, x)))), some (.inr (.inr (some (6, j, (M 5 j 0 4)))))], [.inl ((wri (wri (wri (wri (wri M 6 j (M 5 j 0 4) 0 2) 6 j (M 5 j 0 4) 1 (M 3 j x 1)) 6 j (M 5 j 0 4) 2 (M 3 j x 2)) 6 j (M 5 j 0 4) 3 ((M 3 j x 2) * (M 0 j ((M 3 j x 1) / 100) 2))) 6 j (M 5 j 0 4) 4 0) 6 j (M 5 j 0 4) 2), .inl (M 3 j x 1), .inr (.inr (some (1, j, 0)))], (wri (wri (wri (wri (wri (wri M 6 j (M 5 j 0 4) 0 2) 6 j (M 5 j 0 4) 1 (M 3 j x 1)) 6 j (M 5 j 0 4) 2 (M 3 j x 2)) 6 j (M 5 j 0 4) 3 ((M 3 j x 2) * (M 0 j ((M 3 j x 1) / 100) 2))) 6 j (M 5 j 0 4) 4 0) 5 j 0 7 ((M 5 j 0 7) + ((M 3 j x 2) * (M 0 j ((M 3 j x 1) / 100) 2))))) _)
          rw [show ((wri (wri (wri (wri (wri M 6 j (M 5 j 0 4) 0 2) 6 j (M 5 j 0 4) 1 (M 3 j x 1)) 6 j (M 5 j 0 4) 2 (M 3 j x 2)) 6 j (M 5 j 0 4) 3 ((M 3 j x 2) * (M 0 j ((M 3 j x 1) / 100) 2))) 6 j (M 5 j 0 4) 4 0) 6 j (M 5 j 0 4) 2) = (M 3 j x 2) from (wri_nes (by decide)).trans ((wri_nes (by decide)).trans (wri_eq))]
          refine seg_ok 2 (?_ : EvI X E_X5_buyHold (130, [some (.inr (.inr (some (5, j, 0)))), some (.inl x), some (.inr (.inr (some (3, j, x)))), some (.inr (.inr (some (6, j, (M 5 j 0 4)))))], [.inl ((wri (wri (wri (wri (wri (wri M 6 j (M 5 j 0 4) 0 2) 6 j (M 5 j 0 4) 1 (M 3 j x 1)) 6 j (M 5 j 0 4) 2 (M 3 j x 2)) 6 j (M 5 j 0 4) 3 ((M 3 j x 2) * (M 0 j ((M 3 j x 1) / 100) 2))) 6 j (M 5 j 0 4) 4 0) 5 j 0 7 ((M 5 j 0 7) + ((M 3 j x 2) * (M 0 j ((M 3 j x 1) / 100) 2)))) 5 j 0 6), .inl (M 3 j x 2), .inl (M 3 j x 1), .inr (.inr (some (1, j, 0)))], (wri (wri (wri (wri (wri (wri M 6 j (M 5 j 0 4) 0 2) 6 j (M 5 j 0 4) 1 (M 3 j x 1)) 6 j (M 5 j 0 4) 2 (M 3 j x 2)) 6 j (M 5 j 0 4) 3 ((M 3 j x 2) * (M 0 j ((M 3 j x 1) / 100) 2))) 6 j (M 5 j 0 4) 4 0) 5 j 0 7 ((M 5 j 0 7) + ((M 3 j x 2) * (M 0 j ((M 3 j x 1) / 100) 2))))) _)
          rw [show ((wri (wri (wri (wri (wri (wri M 6 j (M 5 j 0 4) 0 2) 6 j (M 5 j 0 4) 1 (M 3 j x 1)) 6 j (M 5 j 0 4) 2 (M 3 j x 2)) 6 j (M 5 j 0 4) 3 ((M 3 j x 2) * (M 0 j ((M 3 j x 1) / 100) 2))) 6 j (M 5 j 0 4) 4 0) 5 j 0 7 ((M 5 j 0 7) + ((M 3 j x 2) * (M 0 j ((M 3 j x 1) / 100) 2)))) 5 j 0 6) = (M 5 j 0 6) from wri_nes (by decide)]
          refine seg_ok 1 (?_ : EvI X E_X5_buyHold (if (M 5 j 0 6) = 0 then 137 else 133, [some (.inr (.inr (some (5, j, 0)))), some (.inl x), some (.inr (.inr (some (3, j, x)))), some (.inr (.inr (some (6, j, (M 5 j 0 4)))))], [.inl (M 3 j x 2), .inl (M 3 j x 1), .inr (.inr (some (1, j, 0)))], (wri (wri (wri (wri (wri (wri M 6 j (M 5 j 0 4) 0 2) 6 j (M 5 j 0 4) 1 (M 3 j x 1)) 6 j (M 5 j 0 4) 2 (M 3 j x 2)) 6 j (M 5 j 0 4) 3 ((M 3 j x 2) * (M 0 j ((M 3 j x 1) / 100) 2))) 6 j (M 5 j 0 4) 4 0) 5 j 0 7 ((M 5 j 0 7) + ((M 3 j x 2) * (M 0 j ((M 3 j x 1) / 100) 2))))) _)
          refine ev_if (fun h130 => ?_) (fun h130 => ?_)
          · exact absurd h130 h46
          · refine seg_ok 2 (?_ : EvI X E_X5_buyHold (138, [some (.inr (.inr (some (5, j, 0)))), some (.inl x), some (.inr (.inr (some (3, j, x)))), some (.inr (.inr (some (6, j, (M 5 j 0 4)))))], [.inl 3, .inl (M 3 j x 2), .inl (M 3 j x 1), .inr (.inr (some (1, j, 0)))], (wri (wri (wri (wri (wri (wri M 6 j (M 5 j 0 4) 0 2) 6 j (M 5 j 0 4) 1 (M 3 j x 1)) 6 j (M 5 j 0 4) 2 (M 3 j x 2)) 6 j (M 5 j 0 4) 3 ((M 3 j x 2) * (M 0 j ((M 3 j x 1) / 100) 2))) 6 j (M 5 j 0 4) 4 0) 5 j 0 7 ((M 5 j 0 7) + ((M 3 j x 2) * (M 0 j ((M 3 j x 1) / 100) 2))))) _)
            refine ev_cl (z := z_X1_mark) (as := [.inr (.inr (some (1, j, 0))), .inl (M 3 j x 1), .inl (M 3 j x 2), .inl 3]) (rest := []) rfl (d_mark (by omega) (by omega)) ?_
            intro rr M2 hqM2
            obtain ⟨rfl, hM2⟩ := hqM2
            subst hM2
            show EvI X E_X5_buyHold (141, [some (.inr (.inr (some (5, j, 0)))), some (.inl x), some (.inr (.inr (some (3, j, x)))), some (.inr (.inr (some (6, j, (M 5 j 0 4)))))], [], (bcM (wri (wri (wri (wri (wri (wri M 6 j (M 5 j 0 4) 0 2) 6 j (M 5 j 0 4) 1 (M 3 j x 1)) 6 j (M 5 j 0 4) 2 (M 3 j x 2)) 6 j (M 5 j 0 4) 3 ((M 3 j x 2) * (M 0 j ((M 3 j x 1) / 100) 2))) 6 j (M 5 j 0 4) 4 0) 5 j 0 7 ((M 5 j 0 7) + ((M 3 j x 2) * (M 0 j ((M 3 j x 1) / 100) 2)))) j (M 3 j x 1) (M 3 j x 2) 3)) _
            refine seg_ok 6 (?_ : EvI X E_X5_buyHold (151, [some (.inr (.inr (some (5, j, 0)))), some (.inl x), some (.inr (.inr (some (3, j, x)))), some (.inr (.inr (some (6, j, (M 5 j 0 4)))))], [.inl ((wri (wri (wri (wri (wri (wri M 6 j (M 5 j 0 4) 0 2) 6 j (M 5 j 0 4) 1 (M 3 j x 1)) 6 j (M 5 j 0 4) 2 (M 3 j x 2)) 6 j (M 5 j 0 4) 3 ((M 3 j x 2) * (M 0 j ((M 3 j x 1) / 100) 2))) 6 j (M 5 j 0 4) 4 0) 5 j 0 7 ((M 5 j 0 7) + ((M 3 j x 2) * (M 0 j ((M 3 j x 1) / 100) 2)))) 5 j 0 4), .inr (.inr (some (3, j, x)))], (wri (bcM (wri (wri (wri (wri (wri (wri M 6 j (M 5 j 0 4) 0 2) 6 j (M 5 j 0 4) 1 (M 3 j x 1)) 6 j (M 5 j 0 4) 2 (M 3 j x 2)) 6 j (M 5 j 0 4) 3 ((M 3 j x 2) * (M 0 j ((M 3 j x 1) / 100) 2))) 6 j (M 5 j 0 4) 4 0) 5 j 0 7 ((M 5 j 0 7) + ((M 3 j x 2) * (M 0 j ((M 3 j x 1) / 100) 2)))) j (M 3 j x 1) (M 3 j x 2) 3) 3 j x 0 1)) _)
            rw [show ((wri (wri (wri (wri (wri (wri M 6 j (M 5 j 0 4) 0 2) 6 j (M 5 j 0 4) 1 (M 3 j x 1)) 6 j (M 5 j 0 4) 2 (M 3 j x 2)) 6 j (M 5 j 0 4) 3 ((M 3 j x 2) * (M 0 j ((M 3 j x 1) / 100) 2))) 6 j (M 5 j 0 4) 4 0) 5 j 0 7 ((M 5 j 0 7) + ((M 3 j x 2) * (M 0 j ((M 3 j x 1) / 100) 2)))) 5 j 0 4) = (M 5 j 0 4) from wri_nes (by decide)]
            refine seg_ok 4 (?_ : EvI X E_X5_buyHold (159, [some (.inr (.inr (some (5, j, 0)))), some (.inl x), some (.inr (.inr (some (3, j, x)))), some (.inr (.inr (some (6, j, (M 5 j 0 4)))))], [.inl ((wri (wri (wri (wri (wri (wri M 6 j (M 5 j 0 4) 0 2) 6 j (M 5 j 0 4) 1 (M 3 j x 1)) 6 j (M 5 j 0 4) 2 (M 3 j x 2)) 6 j (M 5 j 0 4) 3 ((M 3 j x 2) * (M 0 j ((M 3 j x 1) / 100) 2))) 6 j (M 5 j 0 4) 4 0) 5 j 0 7 ((M 5 j 0 7) + ((M 3 j x 2) * (M 0 j ((M 3 j x 1) / 100) 2)))) 5 j 0 4), .inr (.inr (some (5, j, 0)))], (wri (wri (bcM (wri (wri (wri (wri (wri (wri M 6 j (M 5 j 0 4) 0 2) 6 j (M 5 j 0 4) 1 (M 3 j x 1)) 6 j (M 5 j 0 4) 2 (M 3 j x 2)) 6 j (M 5 j 0 4) 3 ((M 3 j x 2) * (M 0 j ((M 3 j x 1) / 100) 2))) 6 j (M 5 j 0 4) 4 0) 5 j 0 7 ((M 5 j 0 7) + ((M 3 j x 2) * (M 0 j ((M 3 j x 1) / 100) 2)))) j (M 3 j x 1) (M 3 j x 2) 3) 3 j x 0 1) 3 j x 4 (M 5 j 0 4))) _)
            rw [show ((wri (wri (wri (wri (wri (wri M 6 j (M 5 j 0 4) 0 2) 6 j (M 5 j 0 4) 1 (M 3 j x 1)) 6 j (M 5 j 0 4) 2 (M 3 j x 2)) 6 j (M 5 j 0 4) 3 ((M 3 j x 2) * (M 0 j ((M 3 j x 1) / 100) 2))) 6 j (M 5 j 0 4) 4 0) 5 j 0 7 ((M 5 j 0 7) + ((M 3 j x 2) * (M 0 j ((M 3 j x 1) / 100) 2)))) 5 j 0 4) = (M 5 j 0 4) from wri_nes (by decide)]
            refine seg_ok 5 (⟨by omega, ?_⟩ : ((-2147483648 : Int) ≤ ((M 5 j 0 4) + 1) ∧ ((M 5 j 0 4) + 1) < 2147483648) ∧ EvI X E_X5_buyHold (168, [some (.inr (.inr (some (5, j, 0)))), some (.inl x), some (.inr (.inr (some (3, j, x)))), some (.inr (.inr (some (6, j, (M 5 j 0 4)))))], [.inl ((wri (wri (wri (bcM (wri (wri (wri (wri (wri (wri M 6 j (M 5 j 0 4) 0 2) 6 j (M 5 j 0 4) 1 (M 3 j x 1)) 6 j (M 5 j 0 4) 2 (M 3 j x 2)) 6 j (M 5 j 0 4) 3 ((M 3 j x 2) * (M 0 j ((M 3 j x 1) / 100) 2))) 6 j (M 5 j 0 4) 4 0) 5 j 0 7 ((M 5 j 0 7) + ((M 3 j x 2) * (M 0 j ((M 3 j x 1) / 100) 2)))) j (M 3 j x 1) (M 3 j x 2) 3) 3 j x 0 1) 3 j x 4 (M 5 j 0 4)) 5 j 0 4 ((M 5 j 0 4) + 1)) 5 j 0 4)], (wri (wri (wri (bcM (wri (wri (wri (wri (wri (wri M 6 j (M 5 j 0 4) 0 2) 6 j (M 5 j 0 4) 1 (M 3 j x 1)) 6 j (M 5 j 0 4) 2 (M 3 j x 2)) 6 j (M 5 j 0 4) 3 ((M 3 j x 2) * (M 0 j ((M 3 j x 1) / 100) 2))) 6 j (M 5 j 0 4) 4 0) 5 j 0 7 ((M 5 j 0 7) + ((M 3 j x 2) * (M 0 j ((M 3 j x 1) / 100) 2)))) j (M 3 j x 1) (M 3 j x 2) 3) 3 j x 0 1) 3 j x 4 (M 5 j 0 4)) 5 j 0 4 ((M 5 j 0 4) + 1))) _)
            rw [show ((wri (wri (wri (bcM (wri (wri (wri (wri (wri (wri M 6 j (M 5 j 0 4) 0 2) 6 j (M 5 j 0 4) 1 (M 3 j x 1)) 6 j (M 5 j 0 4) 2 (M 3 j x 2)) 6 j (M 5 j 0 4) 3 ((M 3 j x 2) * (M 0 j ((M 3 j x 1) / 100) 2))) 6 j (M 5 j 0 4) 4 0) 5 j 0 7 ((M 5 j 0 7) + ((M 3 j x 2) * (M 0 j ((M 3 j x 1) / 100) 2)))) j (M 3 j x 1) (M 3 j x 2) 3) 3 j x 0 1) 3 j x 4 (M 5 j 0 4)) 5 j 0 4 ((M 5 j 0 4) + 1)) 5 j 0 4) = ((M 5 j 0 4) + 1) from wri_eq]
            refine seg_ok 2 (⟨by omega, ?_⟩ : ((-2147483648 : Int) ≤ (((M 5 j 0 4) + 1) - 1) ∧ (((M 5 j 0 4) + 1) - 1) < 2147483648) ∧ EvI X E_X5_buyHold (170, [some (.inr (.inr (some (5, j, 0)))), some (.inl x), some (.inr (.inr (some (3, j, x)))), some (.inr (.inr (some (6, j, (M 5 j 0 4)))))], [.inl (((M 5 j 0 4) + 1) - 1)], (wri (wri (wri (bcM (wri (wri (wri (wri (wri (wri M 6 j (M 5 j 0 4) 0 2) 6 j (M 5 j 0 4) 1 (M 3 j x 1)) 6 j (M 5 j 0 4) 2 (M 3 j x 2)) 6 j (M 5 j 0 4) 3 ((M 3 j x 2) * (M 0 j ((M 3 j x 1) / 100) 2))) 6 j (M 5 j 0 4) 4 0) 5 j 0 7 ((M 5 j 0 7) + ((M 3 j x 2) * (M 0 j ((M 3 j x 1) / 100) 2)))) j (M 3 j x 1) (M 3 j x 2) 3) 3 j x 0 1) 3 j x 4 (M 5 j 0 4)) 5 j 0 4 ((M 5 j 0 4) + 1))) _)
            refine ev_rt (r := some (.inl (((M 5 j 0 4) + 1) - 1))) rfl (?_)
            have e : opBuy (sl M j) x = (M 5 j 0 4, buyS (sl M j) x) := (cif_f (fun z => z hb)).trans (cif_f (fun z => z h16))
            exact ⟨rint (by rw [e] <;> first | rfl | (dsimp only; omega)), by rw [e] <;> simp only [sl_wri, sl_bcM, buyS, cif_f (show ¬ sl M j 5 0 6 = 0 from h46)] <;> try rfl, FR_wri stK_5 (FR_wri stK_3 (FR_wri stK_3 (FR_bc (FR_wri stK_5 (FR_wri stK_6 (FR_wri stK_6 (FR_wri stK_6 (FR_wri stK_6 (FR_wri stK_6 (FR_rf))))))))))⟩
      · exfalso
        omega
    · refine seg_ok 1 (?_ : EvI X E_X5_buyHold (30, [some (.inr (.inr (some (5, j, 0)))), some (.inl x), some (.inr (.inr (some (3, j, x)))), none], [.inl (-2)], M) _)
      refine ev_rt (r := some (.inl (-2))) rfl (?_)
      have e : opBuy (sl M j) x = (-2, sl M j) := (cif_f (fun z => z hb)).trans (cif_t h16)
      exact ⟨rint (by rw [e]), by rw [e], FR_rf⟩
  · refine ev_clp (v := .inr (.inr none)) (z := z_X5_holdAt) (as := [.inr (.inr (some (5, j, 0))), .inl x]) (rest := []) rfl (d_holdAt_f hb) (?_ : EvI X E_X5_buyHold (5, [some (.inr (.inr (some (5, j, 0)))), some (.inl x), none, none], [.inr (.inr none)], M) _)
    refine seg_ok 4 (?_ : EvI X E_X5_buyHold (11, [some (.inr (.inr (some (5, j, 0)))), some (.inl x), some (.inr (.inr none)), none], [.inl (-1)], M) _)
    refine ev_rt (r := some (.inl (-1))) rfl (?_)
    have e : opBuy (sl M j) x = (-1, sl M j) := cif_t hb
    exact ⟨rint (by rw [e]), by rw [e], FR_rf⟩
theorem d_dropHold {m : Int} {M : NM} {j : Int} (hI : Inv m (sl M j)) {x : Int} : HT X z_X5_dropHold [.inr (.inr (some (5, j, 0))), .inl x] M (fun rr MM => rr = some (.inl (opDrop (sl M j) x).1) ∧ sl MM j = (opDrop (sl M j) x).2 ∧ FR j M MM) := by
  have hi := hI.1
  simp only [Iv0, sl] at hi
  refine ht_of (e := E_X5_dropHold) rfl (?_ : EvI X E_X5_dropHold (0, [some (.inr (.inr (some (5, j, 0)))), some (.inl x), none], [], M) _)
  refine seg_ok 2 (?_ : EvI X E_X5_dropHold (2, [some (.inr (.inr (some (5, j, 0)))), some (.inl x), none], [.inl x, .inr (.inr (some (5, j, 0)))], M) _)
  by_cases hb : 0 ≤ x ∧ x < M 5 j 0 3
  · have hh := HO_r hI (HO_h hI hb)
    simp only [sl] at hh
    refine ev_clp (v := .inr (.inr (some (3, j, x)))) (z := z_X5_holdAt) (as := [.inr (.inr (some (5, j, 0))), .inl x]) (rest := []) rfl (d_holdAt_t hb (by omega)) (?_ : EvI X E_X5_dropHold (5, [some (.inr (.inr (some (5, j, 0)))), some (.inl x), none], [.inr (.inr (some (3, j, x)))], M) _)
    refine seg_ok 6 (?_ : EvI X E_X5_dropHold (if (M 3 j x 0) = 0 then 22 else 19, [some (.inr (.inr (some (5, j, 0)))), some (.inl x), some (.inr (.inr (some (3, j, x))))], [], M) _)
    refine ev_if (fun h16 => ?_) (fun h16 => ?_)
    · refine seg_ok 7 (?_ : EvI X E_X5_dropHold (35, [some (.inr (.inr (some (5, j, 0)))), some (.inl x), some (.inr (.inr (some (3, j, x))))], [.inl ((wri M 3 j x 0 2) 3 j x 1), .inr (.inr (some (1, j, 0)))], (wri M 3 j x 0 2)) _)
      rw [show ((wri M 3 j x 0 2) 3 j x 1) = (M 3 j x 1) from wri_nes (by decide)]
      refine seg_ok 2 (?_ : EvI X E_X5_dropHold (39, [some (.inr (.inr (some (5, j, 0)))), some (.inl x), some (.inr (.inr (some (3, j, x))))], [.inl ((wri M 3 j x 0 2) 3 j x 2), .inl (M 3 j x 1), .inr (.inr (some (1, j, 0)))], (wri M 3 j x 0 2)) _)
      rw [show ((wri M 3 j x 0 2) 3 j x 2) = (M 3 j x 2) from wri_nes (by decide)]
      refine seg_ok 1 (?_ : EvI X E_X5_dropHold (40, [some (.inr (.inr (some (5, j, 0)))), some (.inl x), some (.inr (.inr (some (3, j, x))))], [.inl 0, .inl (M 3 j x 2), .inl (M 3 j x 1), .inr (.inr (some (1, j, 0)))], (wri M 3 j x 0 2)) _)
      refine ev_cl (z := z_X1_mark) (as := [.inr (.inr (some (1, j, 0))), .inl (M 3 j x 1), .inl (M 3 j x 2), .inl 0]) (rest := []) rfl (d_mark (by omega) (by omega)) ?_
      intro rr M1 hqM1
      obtain ⟨rfl, hM1⟩ := hqM1
      subst hM1
      show EvI X E_X5_dropHold (43, [some (.inr (.inr (some (5, j, 0)))), some (.inl x), some (.inr (.inr (some (3, j, x))))], [], (bcM (wri M 3 j x 0 2) j (M 3 j x 1) (M 3 j x 2) 0)) _
      refine seg_ok 2 (?_ : EvI X E_X5_dropHold (47, [some (.inr (.inr (some (5, j, 0)))), some (.inl x), some (.inr (.inr (some (3, j, x))))], [.inl ((wri M 3 j x 0 2) 3 j x 2)], (bcM (wri M 3 j x 0 2) j (M 3 j x 1) (M 3 j x 2) 0)) _)
      rw [show ((wri M 3 j x 0 2) 3 j x 2) = (M 3 j x 2) from wri_nes (by decide)]
      refine ev_rt (r := some (.inl (M 3 j x 2))) rfl (?_)
      have e : opDrop (sl M j) x = (M 3 j x 2, bec (st (sl M j) 3 x 0 2) (M 3 j x 1) (M 3 j x 2) 0) := (cif_f (fun z => z hb)).trans (cif_f (fun z => z h16))
      exact ⟨rint (by rw [e] <;> first | rfl | (dsimp only; omega)), by rw [e] <;> simp only [sl_wri, sl_bcM, sl] <;> try rfl, FR_bc (FR_wri stK_3 (FR_rf))⟩
    · refine seg_ok 1 (?_ : EvI X E_X5_dropHold (21, [some (.inr (.inr (some (5, j, 0)))), some (.inl x), some (.inr (.inr (some (3, j, x))))], [.inl (-2)], M) _)
      refine ev_rt (r := some (.inl (-2))) rfl (?_)
      have e : opDrop (sl M j) x = (-2, sl M j) := (cif_f (fun z => z hb)).trans (cif_t h16)
      exact ⟨rint (by rw [e]), by rw [e], FR_rf⟩
  · refine ev_clp (v := .inr (.inr none)) (z := z_X5_holdAt) (as := [.inr (.inr (some (5, j, 0))), .inl x]) (rest := []) rfl (d_holdAt_f hb) (?_ : EvI X E_X5_dropHold (5, [some (.inr (.inr (some (5, j, 0)))), some (.inl x), none], [.inr (.inr none)], M) _)
    refine seg_ok 4 (?_ : EvI X E_X5_dropHold (11, [some (.inr (.inr (some (5, j, 0)))), some (.inl x), some (.inr (.inr none))], [.inl (-1)], M) _)
    refine ev_rt (r := some (.inl (-1))) rfl (?_)
    have e : opDrop (sl M j) x = (-1, sl M j) := cif_t hb
    exact ⟨rint (by rw [e]), by rw [e], FR_rf⟩
theorem d_returnTicket {m : Int} {M : NM} {j : Int} (hI : Inv m (sl M j)) {x : Int} : HT X z_X5_returnTicket [.inr (.inr (some (5, j, 0))), .inl x] M (fun rr MM => rr = some (.inl (opBack (sl M j) x).1) ∧ sl MM j = (opBack (sl M j) x).2 ∧ FR j M MM) := by
  have hi := hI.1
  simp only [Iv0, sl] at hi
  refine ht_of (e := E_X5_returnTicket) rfl (?_ : EvI X E_X5_returnTicket (0, [some (.inr (.inr (some (5, j, 0)))), some (.inl x), none, none], [], M) _)
  refine seg_ok 2 (?_ : EvI X E_X5_returnTicket (2, [some (.inr (.inr (some (5, j, 0)))), some (.inl x), none, none], [.inl x, .inr (.inr (some (5, j, 0)))], M) _)
  by_cases hb : 0 ≤ x ∧ x < M 5 j 0 4
  · have hh := HO_r hI (HO_t hI hb)
    have ht := (hI.2.2.2.2.1 x hb.1 hb.2).2
    simp only [sl] at hh ht
    refine ev_clp (v := .inr (.inr (some (6, j, x)))) (z := z_X5_ticketAt) (as := [.inr (.inr (some (5, j, 0))), .inl x]) (rest := []) rfl (d_ticketAt_t hb (by omega)) (?_ : EvI X E_X5_returnTicket (5, [some (.inr (.inr (some (5, j, 0)))), some (.inl x), none, none], [.inr (.inr (some (6, j, x)))], M) _)
    refine seg_ok 6 (?_ : EvI X E_X5_returnTicket (if (M 6 j x 0) = 0 then 22 else 19, [some (.inr (.inr (some (5, j, 0)))), some (.inl x), some (.inr (.inr (some (6, j, x)))), none], [], M) _)
    refine ev_if (fun h16 => ?_) (fun h16 => ?_)
    · refine seg_ok 20 (⟨by omega, by omega, by omega, ?_⟩ : ((-2147483648 : Int) ≤ ((M 6 j x 3) * 3) ∧ ((M 6 j x 3) * 3) < 2147483648) ∧ ((0 : Int) ≤ ((M 6 j x 3) * 3) ∧ (0 : Int) < 4) ∧ ((-2147483648 : Int) ≤ ((M 5 j 0 8) + (((M 6 j x 3) * 3) / 4)) ∧ ((M 5 j 0 8) + (((M 6 j x 3) * 3) / 4)) < 2147483648) ∧ EvI X E_X5_returnTicket (54, [some (.inr (.inr (some (5, j, 0)))), some (.inl x), some (.inr (.inr (some (6, j, x)))), some (.inl (((M 6 j x 3) * 3) / 4))], [.inl ((wri M 6 j x 0 1) 6 j x 1), .inr (.inr (some (1, j, 0)))], (wri (wri M 6 j x 0 1) 5 j 0 8 ((M 5 j 0 8) + (((M 6 j x 3) * 3) / 4)))) _)
      rw [show ((wri M 6 j x 0 1) 6 j x 1) = (M 6 j x 1) from wri_nes (by decide)]
      refine seg_ok 2 (?_ : EvI X E_X5_returnTicket (58, [some (.inr (.inr (some (5, j, 0)))), some (.inl x), some (.inr (.inr (some (6, j, x)))), some (.inl (((M 6 j x 3) * 3) / 4))], [.inl ((wri M 6 j x 0 1) 6 j x 2), .inl (M 6 j x 1), .inr (.inr (some (1, j, 0)))], (wri (wri M 6 j x 0 1) 5 j 0 8 ((M 5 j 0 8) + (((M 6 j x 3) * 3) / 4)))) _)
      rw [show ((wri M 6 j x 0 1) 6 j x 2) = (M 6 j x 2) from wri_nes (by decide)]
      refine seg_ok 1 (?_ : EvI X E_X5_returnTicket (59, [some (.inr (.inr (some (5, j, 0)))), some (.inl x), some (.inr (.inr (some (6, j, x)))), some (.inl (((M 6 j x 3) * 3) / 4))], [.inl 0, .inl (M 6 j x 2), .inl (M 6 j x 1), .inr (.inr (some (1, j, 0)))], (wri (wri M 6 j x 0 1) 5 j 0 8 ((M 5 j 0 8) + (((M 6 j x 3) * 3) / 4)))) _)
      refine ev_cl (z := z_X1_mark) (as := [.inr (.inr (some (1, j, 0))), .inl (M 6 j x 1), .inl (M 6 j x 2), .inl 0]) (rest := []) rfl (d_mark (by omega) (by omega)) ?_
      intro rr M1 hqM1
      obtain ⟨rfl, hM1⟩ := hqM1
      subst hM1
      show EvI X E_X5_returnTicket (62, [some (.inr (.inr (some (5, j, 0)))), some (.inl x), some (.inr (.inr (some (6, j, x)))), some (.inl (((M 6 j x 3) * 3) / 4))], [], (bcM (wri (wri M 6 j x 0 1) 5 j 0 8 ((M 5 j 0 8) + (((M 6 j x 3) * 3) / 4))) j (M 6 j x 1) (M 6 j x 2) 0)) _
      refine seg_ok 1 (?_ : EvI X E_X5_returnTicket (63, [some (.inr (.inr (some (5, j, 0)))), some (.inl x), some (.inr (.inr (some (6, j, x)))), some (.inl (((M 6 j x 3) * 3) / 4))], [.inl (((M 6 j x 3) * 3) / 4)], (bcM (wri (wri M 6 j x 0 1) 5 j 0 8 ((M 5 j 0 8) + (((M 6 j x 3) * 3) / 4))) j (M 6 j x 1) (M 6 j x 2) 0)) _)
      refine ev_rt (r := some (.inl (((M 6 j x 3) * 3) / 4))) rfl (?_)
      have e : opBack (sl M j) x = (M 6 j x 3 * 3 / 4, bec (st (st (sl M j) 6 x 0 1) 5 0 8 (M 5 j 0 8 + M 6 j x 3 * 3 / 4)) (M 6 j x 1) (M 6 j x 2) 0) := (cif_f (fun z => z hb)).trans (cif_f (fun z => z h16))
      exact ⟨rint (by rw [e] <;> first | rfl | (dsimp only; omega)), by rw [e] <;> simp only [sl_wri, sl_bcM, sl] <;> try rfl, FR_bc (FR_wri stK_5 (FR_wri stK_6 (FR_rf)))⟩
    · refine seg_ok 1 (?_ : EvI X E_X5_returnTicket (21, [some (.inr (.inr (some (5, j, 0)))), some (.inl x), some (.inr (.inr (some (6, j, x)))), none], [.inl (-2)], M) _)
      refine ev_rt (r := some (.inl (-2))) rfl (?_)
      have e : opBack (sl M j) x = (-2, sl M j) := (cif_f (fun z => z hb)).trans (cif_t h16)
      exact ⟨rint (by rw [e]), by rw [e], FR_rf⟩
  · refine ev_clp (v := .inr (.inr none)) (z := z_X5_ticketAt) (as := [.inr (.inr (some (5, j, 0))), .inl x]) (rest := []) rfl (d_ticketAt_f hb) (?_ : EvI X E_X5_returnTicket (5, [some (.inr (.inr (some (5, j, 0)))), some (.inl x), none, none], [.inr (.inr none)], M) _)
    refine seg_ok 4 (?_ : EvI X E_X5_returnTicket (11, [some (.inr (.inr (some (5, j, 0)))), some (.inl x), some (.inr (.inr none)), none], [.inl (-1)], M) _)
    refine ev_rt (r := some (.inl (-1))) rfl (?_)
    have e : opBack (sl M j) x = (-1, sl M j) := cif_t hb
    exact ⟨rint (by rw [e]), by rw [e], FR_rf⟩
theorem sm_mul {f : Int → Int} (n : Nat) : ∀ a : Nat, sm f (a * n) = sm (fun i => sm (fun k => f (n * i + k)) n) a := by
  intro a
  induction a with
  | zero => rw [Nat.zero_mul]; rfl
  | succ a ih =>
    rw [Nat.succ_mul, sm_app, ih, sm]
    congr 1
    exact sm_congr (fun k k0 k1 => by
      show f (((a * n : Nat) : Int) + k) = f ((n : Int) * (a : Int) + k)
      rw [Int.natCast_mul, Int.mul_comm])
theorem sm_trunc {f : Int → Int} {n N : Nat} (h : n ≤ N) (hz : ∀ k, (n : Int) ≤ k → k < (N : Int) → f k = 0) : sm f N = sm f n := by
  have e := sm_app (f := f) n (N - n)
  rw [show n + (N - n) = N by omega, sm_zero (f := fun k => f (n + k)) (fun k k0 k1 => hz _ (by omega) (by omega)), Int.add_zero] at e
  exact e
theorem S600 {m : Int} {S : Sl} (hI : Inv m S) {P : Int → Prop} (hP : ∀ c, 0 ≤ c → c < 600 → P c → isCh S c) : sm (fun c => bi (P c)) 600 = ctA S P := by
  have hi := hI.1.2.1
  have e1 := sm_mul (f := fun c => bi (P c)) 100 6
  rw [show 6 * 100 = 600 from rfl] at e1
  have no : ∀ c, 0 ≤ c → c < 600 → ¬ isCh S c → bi (P c) = 0 := fun c c0 c1 z => bi_f (fun y => z (hP c c0 c1 y))
  rw [e1, sm_trunc (n := (S 1 0 3).toNat) (by omega) (fun b b0 b1 => sm_zero (fun k k0 k1 => no _ (by omega) (by omega) (fun z => by
    have := z.2.1
    omega)))]
  refine sm_congr (fun b b0 b1 => ?_)
  have hb := hI.2.1 b b0 (by omega)
  have e2 := sm_mul (f := fun k => bi (P (((100 : Nat) : Int) * b + k))) 10 10
  rw [show 10 * 10 = 100 from rfl] at e2
  show sm (fun k => bi (P (((100 : Nat) : Int) * b + k))) 100 = ct S b P
  rw [e2, sm_trunc (n := (S 0 b 0).toNat) (by omega) (fun r r0 r1 => sm_zero (fun k k0 k1 => no _ (by omega) (by omega) (fun z => by
    have z2 := z.2.2.1
    rw [show (((100 : Nat) : Int) * b + (((10 : Nat) : Int) * r + k)) / 100 = b by omega] at z2
    omega)))]
  refine sm_congr (fun r r0 r1 => ?_)
  show sm (fun c => bi (P (((100 : Nat) : Int) * b + (((10 : Nat) : Int) * r + c)))) 10 = sm (fun c => bi (P (100 * b + 10 * r + c))) (S 0 b 1).toNat
  rw [sm_trunc (n := (S 0 b 1).toNat) (by omega) (fun c c0 c1 => no _ (by omega) (by omega) (fun z => by
    have z2 := z.2.2.2
    rw [show (((100 : Nat) : Int) * b + (((10 : Nat) : Int) * r + c)) / 100 = b by omega] at z2
    omega))]
  exact sm_congr (fun c c0 c1 => by rw [show ((100 : Nat) : Int) * b + (((10 : Nat) : Int) * r + c) = 100 * b + 10 * r + c by omega])
theorem chairsIn_eq {m : Int} {M : NM} {j : Int} (hI : Inv m (sl M j)) : sm (fun c => bi (M 13 j 0 c = 3)) 600 = ctA (sl M j) (fun c => M 13 j 0 c = 3) :=
  S600 hI (P := fun c => M 13 j 0 c = 3) (fun c c0 c1 z => by
    by_cases q : isCh (sl M j) c
    · exact q
    · have e := ((hI.2.2.1 c c0 c1).2.2.1 q).1
      simp only [sl] at e
      omega)
theorem d_chairsIn {m : Int} {M : NM} {j : Int} (hI : Inv m (sl M j))  : HT X z_X1_chairsIn [.inr (.inr (some (1, j, 0)))] M (fun rr MM => rr = some (.inl (ctA (sl M j) (fun c => M 13 j 0 c = 3))) ∧ MM = M) := by
  have hi := hI.1
  simp only [Iv0, sl] at hi
  refine ht_of (e := E_X1_chairsIn) rfl (?_ : EvI X E_X1_chairsIn (0, [some (.inr (.inr (some (1, j, 0)))), none, none], [], M) _)
  refine seg_ok 4 (?_ : EvI X E_X1_chairsIn (4, [some (.inr (.inr (some (1, j, 0)))), some (.inl 0), some (.inl 0)], [], M) _)
  have L4 : ∀ (m4 : Nat) (n c : Int), 600 - c < (m4 : Int) → (0 ≤ c) → (c ≤ 600) → (n = sm (fun c => bi (M 13 j 0 c = 3)) c.toNat) → EvI X E_X1_chairsIn (4, [some (.inr (.inr (some (1, j, 0)))), some (.inl n), some (.inl c)], [], M) (fun rr MM => rr = some (.inl (ctA (sl M j) (fun c => M 13 j 0 c = 3))) ∧ MM = M) := by
    intro m4
    induction m4 with
    | zero => intro n c hm4 q1 q2 q3; exact absurd hm4 (by omega)
    | succ m4 ih4 =>
      intro n c hm4 q1 q2 q3
      subst q3
      have q4 := smb_bnd (fun c => M 13 j 0 c = 3) c.toNat
      refine seg_ok 3 (?_ : EvI X E_X1_chairsIn (if c < 600 then 11 else 30, [some (.inr (.inr (some (1, j, 0)))), some (.inl (sm (fun c => bi (M 13 j 0 c = 3)) c.toNat)), some (.inl c)], [], M) _)
      refine ev_if (fun h8 => ?_) (fun h8 => ?_)
      · refine seg_ok 6 (⟨by omega, ?_⟩ : ((0 : Int) ≤ c ∧ c < 600) ∧ EvI X E_X1_chairsIn (if (M 13 j 0 c) = 3 then 21 else 24, [some (.inr (.inr (some (1, j, 0)))), some (.inl (sm (fun c => bi (M 13 j 0 c = 3)) c.toNat)), some (.inl c)], [], M) _)
        refine ev_if (fun h18 => ?_) (fun h18 => ?_)
        · refine seg_ok 3 (⟨by omega, by omega, ?_⟩ : ((-2147483648 : Int) ≤ ((sm (fun c => bi (M 13 j 0 c = 3)) c.toNat) + 1) ∧ ((sm (fun c => bi (M 13 j 0 c = 3)) c.toNat) + 1) < 2147483648) ∧ ((-2147483648 : Int) ≤ (c + 1) ∧ (c + 1) < 2147483648) ∧ EvI X E_X1_chairsIn (4, [some (.inr (.inr (some (1, j, 0)))), some (.inl ((sm (fun c => bi (M 13 j 0 c = 3)) c.toNat) + 1)), some (.inl (c + 1))], [], M) _)
          refine ih4 ((sm (fun c => bi (M 13 j 0 c = 3)) c.toNat) + 1) (c + 1) (by omega) (by omega) (by omega) (by rw [sm_step q1]; exact acc0 (is1 h18))
        · refine seg_ok 2 (⟨by omega, ?_⟩ : ((-2147483648 : Int) ≤ (c + 1) ∧ (c + 1) < 2147483648) ∧ EvI X E_X1_chairsIn (4, [some (.inr (.inr (some (1, j, 0)))), some (.inl (sm (fun c => bi (M 13 j 0 c = 3)) c.toNat)), some (.inl (c + 1))], [], M) _)
          refine ih4 (sm (fun c => bi (M 13 j 0 c = 3)) c.toNat) (c + 1) (by omega) (by omega) (by omega) (by rw [sm_step q1, bi_f h18, Int.add_zero])
      · refine seg_ok 1 (?_ : EvI X E_X1_chairsIn (31, [some (.inr (.inr (some (1, j, 0)))), some (.inl (sm (fun c => bi (M 13 j 0 c = 3)) c.toNat)), some (.inl c)], [.inl (sm (fun c => bi (M 13 j 0 c = 3)) c.toNat)], M) _)
        refine ev_rt (r := some (.inl (sm (fun c => bi (M 13 j 0 c = 3)) c.toNat))) rfl (?_)
        exact ⟨rint (by rw [show c = 600 by omega]; exact chairsIn_eq hI), rfl⟩
  refine L4 ((600 - 0) + 1 : Int).toNat 0 0 (by omega) (by omega) (by omega) rfl
theorem inS_eq {S : Sl} {t : Int} : inS S t = bec (st (st S 6 t 0 2) 5 0 8 (S 5 0 8 + 0)) (S 6 t 1) (S 6 t 2) 3 := by
  have e : st (st S 6 t 0 2) 5 0 8 (S 5 0 8 + 0) = st S 6 t 0 2 := by
    funext K i s
    by_cases h : K = 5 ∧ i = 0 ∧ s = 8
    · obtain ⟨rfl, rfl, rfl⟩ := h
      rw [st_eq, Int.add_zero]; rfl
    · exact if_neg h
  rw [e]; rfl
theorem Inv_in {m : Int} {S : Sl} (hI : Inv m S) (hm : m + 1 ≤ 62000) {t : Int} (ht : 0 ≤ t ∧ t < S 5 0 4) (ho : S 6 t 0 = 0) : Inv (m + 1) (inS S t) := by
  rw [inS_eq]; exact Inv_endT hI (by omega) hm ht ho (Or.inr (Or.inl rfl)) (Or.inr rfl) (by omega)
theorem sl_admit {M : NM} {j x : Int} : sl (bcM (wri M 6 j x 0 2) j (M 6 j x 1) (M 6 j x 2) 3) j = inS (sl M j) x := by rw [sl_bcM, sl_wri]; rfl
theorem d_admit {m : Int} {M : NM} {j : Int} (hI : Inv m (sl M j)) (hm : m + 1 ≤ 62000) {x : Int} : HT X z_X5_admit [.inr (.inr (some (5, j, 0))), .inl x] M (fun rr MM => rr = some (.inl (opIn (sl M j) x).1) ∧ sl MM j = (opIn (sl M j) x).2 ∧ FR j M MM) := by
  have hi := hI.1
  simp only [Iv0, sl] at hi
  refine ht_of (e := E_X5_admit) rfl (?_ : EvI X E_X5_admit (0, [some (.inr (.inr (some (5, j, 0)))), some (.inl x), none], [], M) _)
  refine seg_ok 2 (?_ : EvI X E_X5_admit (2, [some (.inr (.inr (some (5, j, 0)))), some (.inl x), none], [.inl x, .inr (.inr (some (5, j, 0)))], M) _)
  by_cases hb : 0 ≤ x ∧ x < M 5 j 0 4
  · have hh := HO_r hI (HO_t hI hb)
    simp only [sl] at hh
    refine ev_clp (v := .inr (.inr (some (6, j, x)))) (z := z_X5_ticketAt) (as := [.inr (.inr (some (5, j, 0))), .inl x]) (rest := []) rfl (d_ticketAt_t hb (by omega)) (?_ : EvI X E_X5_admit (5, [some (.inr (.inr (some (5, j, 0)))), some (.inl x), none], [.inr (.inr (some (6, j, x)))], M) _)
    refine seg_ok 6 (?_ : EvI X E_X5_admit (if (M 6 j x 0) = 0 then 22 else 19, [some (.inr (.inr (some (5, j, 0)))), some (.inl x), some (.inr (.inr (some (6, j, x))))], [], M) _)
    refine ev_if (fun h16 => ?_) (fun h16 => ?_)
    · refine seg_ok 7 (?_ : EvI X E_X5_admit (35, [some (.inr (.inr (some (5, j, 0)))), some (.inl x), some (.inr (.inr (some (6, j, x))))], [.inl ((wri M 6 j x 0 2) 6 j x 1), .inr (.inr (some (1, j, 0)))], (wri M 6 j x 0 2)) _)
      rw [show ((wri M 6 j x 0 2) 6 j x 1) = (M 6 j x 1) from wri_nes (by decide)]
      refine seg_ok 2 (?_ : EvI X E_X5_admit (39, [some (.inr (.inr (some (5, j, 0)))), some (.inl x), some (.inr (.inr (some (6, j, x))))], [.inl ((wri M 6 j x 0 2) 6 j x 2), .inl (M 6 j x 1), .inr (.inr (some (1, j, 0)))], (wri M 6 j x 0 2)) _)
      rw [show ((wri M 6 j x 0 2) 6 j x 2) = (M 6 j x 2) from wri_nes (by decide)]
      refine seg_ok 1 (?_ : EvI X E_X5_admit (40, [some (.inr (.inr (some (5, j, 0)))), some (.inl x), some (.inr (.inr (some (6, j, x))))], [.inl 3, .inl (M 6 j x 2), .inl (M 6 j x 1), .inr (.inr (some (1, j, 0)))], (wri M 6 j x 0 2)) _)
      refine ev_cl (z := z_X1_mark) (as := [.inr (.inr (some (1, j, 0))), .inl (M 6 j x 1), .inl (M 6 j x 2), .inl 3]) (rest := []) rfl (d_mark (by omega) (by omega)) ?_
      intro rr M1 hqM1
      obtain ⟨rfl, hM1⟩ := hqM1
      subst hM1
      show EvI X E_X5_admit (43, [some (.inr (.inr (some (5, j, 0)))), some (.inl x), some (.inr (.inr (some (6, j, x))))], [], (bcM (wri M 6 j x 0 2) j (M 6 j x 1) (M 6 j x 2) 3)) _
      refine seg_ok 2 (?_ : EvI X E_X5_admit (47, [some (.inr (.inr (some (5, j, 0)))), some (.inl x), some (.inr (.inr (some (6, j, x))))], [.inr (.inr (some (1, j, 0)))], (bcM (wri M 6 j x 0 2) j (M 6 j x 1) (M 6 j x 2) 3)) _)
      refine ev_clp (v := .inl (ctA (sl (bcM (wri M 6 j x 0 2) j (M 6 j x 1) (M 6 j x 2) 3) j) (fun c => (bcM (wri M 6 j x 0 2) j (M 6 j x 1) (M 6 j x 2) 3) 13 j 0 c = 3))) (z := z_X1_chairsIn) (as := [.inr (.inr (some (1, j, 0)))]) (rest := []) rfl (d_chairsIn (m := m + 1) (by rw [sl_bcM, sl_wri]; exact Inv_in hI hm hb h16)) (?_ : EvI X E_X5_admit (50, [some (.inr (.inr (some (5, j, 0)))), some (.inl x), some (.inr (.inr (some (6, j, x))))], [.inl (ctA (sl (bcM (wri M 6 j x 0 2) j (M 6 j x 1) (M 6 j x 2) 3) j) (fun c => (bcM (wri M 6 j x 0 2) j (M 6 j x 1) (M 6 j x 2) 3) 13 j 0 c = 3))], (bcM (wri M 6 j x 0 2) j (M 6 j x 1) (M 6 j x 2) 3)) _)
      refine ev_rt (r := some (.inl (ctA (sl (bcM (wri M 6 j x 0 2) j (M 6 j x 1) (M 6 j x 2) 3) j) (fun c => (bcM (wri M 6 j x 0 2) j (M 6 j x 1) (M 6 j x 2) 3) 13 j 0 c = 3)))) rfl (?_)
      have e : opIn (sl M j) x = (ctA (sl (bcM (wri M 6 j x 0 2) j (M 6 j x 1) (M 6 j x 2) 3) j) (fun c => sl (bcM (wri M 6 j x 0 2) j (M 6 j x 1) (M 6 j x 2) 3) j 13 0 c = 3), sl (bcM (wri M 6 j x 0 2) j (M 6 j x 1) (M 6 j x 2) 3) j) := ((cif_f (fun z => z hb)).trans (cif_f (fun z => z h16))).trans (by rw [sl_admit])
      exact ⟨rint (by rw [e] <;> first | rfl | (dsimp only; omega)), by rw [e] <;> simp only [sl_wri, sl_bcM, sl] <;> try rfl, FR_bc (FR_wri stK_6 (FR_rf))⟩
    · refine seg_ok 1 (?_ : EvI X E_X5_admit (21, [some (.inr (.inr (some (5, j, 0)))), some (.inl x), some (.inr (.inr (some (6, j, x))))], [.inl (-2)], M) _)
      refine ev_rt (r := some (.inl (-2))) rfl (?_)
      have e : opIn (sl M j) x = (-2, sl M j) := (cif_f (fun z => z hb)).trans (cif_t h16)
      exact ⟨rint (by rw [e]), by rw [e], FR_rf⟩
  · refine ev_clp (v := .inr (.inr none)) (z := z_X5_ticketAt) (as := [.inr (.inr (some (5, j, 0))), .inl x]) (rest := []) rfl (d_ticketAt_f hb) (?_ : EvI X E_X5_admit (5, [some (.inr (.inr (some (5, j, 0)))), some (.inl x), none], [.inr (.inr none)], M) _)
    refine seg_ok 4 (?_ : EvI X E_X5_admit (11, [some (.inr (.inr (some (5, j, 0)))), some (.inl x), some (.inr (.inr none))], [.inl (-1)], M) _)
    refine ev_rt (r := some (.inl (-1))) rfl (?_)
    have e : opIn (sl M j) x = (-1, sl M j) := cif_t hb
    exact ⟨rint (by rw [e]), by rw [e], FR_rf⟩
theorem d_raiseStage {m : Int} {M : NM} {j : Int} (hI : Inv m (sl M j)) {x : Int} : HT X z_X1_raiseStage [.inr (.inr (some (1, j, 0))), .inl x] M (fun rr MM => rr = some (.inl (opUp (sl M j) x).1) ∧ sl MM j = (opUp (sl M j) x).2 ∧ FR j M MM) := by
  have hi := hI.1
  simp only [Iv0, sl] at hi
  refine ht_of (e := E_X1_raiseStage) rfl (?_ : EvI X E_X1_raiseStage (0, [some (.inr (.inr (some (1, j, 0)))), some (.inl x)], [], M) _)
  refine seg_ok 2 (?_ : EvI X E_X1_raiseStage (2, [some (.inr (.inr (some (1, j, 0)))), some (.inl x)], [.inl x, .inr (.inr (some (1, j, 0)))], M) _)
  refine ev_clp (v := .inl (bi (0 ≤ x ∧ x < M 1 j 0 4))) (z := z_X1_isStage) (as := [.inr (.inr (some (1, j, 0))), .inl x]) (rest := []) rfl d_isStage (?_ : EvI X E_X1_raiseStage (5, [some (.inr (.inr (some (1, j, 0)))), some (.inl x)], [.inl (bi (0 ≤ x ∧ x < M 1 j 0 4))], M) _)
  refine seg_ok 1 (?_ : EvI X E_X1_raiseStage (if (bi (0 ≤ x ∧ x < M 1 j 0 4)) = 0 then 8 else 10, [some (.inr (.inr (some (1, j, 0)))), some (.inl x)], [], M) _)
  refine ev_ifb (fun h5 => ?_) (fun h5 => ?_)
  · refine seg_ok 1 (?_ : EvI X E_X1_raiseStage (9, [some (.inr (.inr (some (1, j, 0)))), some (.inl x)], [.inl (-1)], M) _)
    refine ev_rt (r := some (.inl (-1))) rfl (?_)
    have e : opUp (sl M j) x = (-1, sl M j) := cif_t h5
    exact ⟨rint (by rw [e]), by rw [e], FR_rf⟩
  · refine seg_ok 2 (?_ : EvI X E_X1_raiseStage (12, [some (.inr (.inr (some (1, j, 0)))), some (.inl x)], [.inl x, .inr (.inr (some (1, j, 0)))], M) _)
    refine ev_clp (v := .inl (bi (upP (sl M j) x))) (z := z_X1_isUp) (as := [.inr (.inr (some (1, j, 0))), .inl x]) (rest := []) rfl d_isUp (?_ : EvI X E_X1_raiseStage (15, [some (.inr (.inr (some (1, j, 0)))), some (.inl x)], [.inl (bi (upP (sl M j) x))], M) _)
    refine seg_ok 1 (?_ : EvI X E_X1_raiseStage (if (bi (upP (sl M j) x)) = 0 then 18 else 28, [some (.inr (.inr (some (1, j, 0)))), some (.inl x)], [], M) _)
    refine ev_ifb (fun h15 => ?_) (fun h15 => ?_)
    · refine seg_ok 4 (?_ : EvI X E_X1_raiseStage (22, [some (.inr (.inr (some (1, j, 0)))), some (.inl x)], [.inl (shlI 1 x), .inr (.inr (some (1, j, 0)))], M) _)
      refine ev_clp (v := .inl (bi (∃ c : Int, 0 ≤ c ∧ c < 600 ∧ andI (M 14 j 0 c) (shlI 1 x) ≠ 0 ∧ M 13 j 0 c ≠ 0))) (z := z_X1_hasTakenChairUnder) (as := [.inr (.inr (some (1, j, 0))), .inl (shlI 1 x)]) (rest := []) rfl d_hasTaken (?_ : EvI X E_X1_raiseStage (25, [some (.inr (.inr (some (1, j, 0)))), some (.inl x)], [.inl (bi (∃ c : Int, 0 ≤ c ∧ c < 600 ∧ andI (M 14 j 0 c) (shlI 1 x) ≠ 0 ∧ M 13 j 0 c ≠ 0))], M) _)
      refine seg_ok 1 (?_ : EvI X E_X1_raiseStage (if (bi (∃ c : Int, 0 ≤ c ∧ c < 600 ∧ andI (M 14 j 0 c) (shlI 1 x) ≠ 0 ∧ M 13 j 0 c ≠ 0)) = 0 then 31 else 28, [some (.inr (.inr (some (1, j, 0)))), some (.inl x)], [], M) _)
      refine ev_ifb (fun h25 => ?_) (fun h25 => ?_)
      · refine seg_ok 11 (?_ : EvI X E_X1_raiseStage (48, [some (.inr (.inr (some (1, j, 0)))), some (.inl x)], [.inl ((wri M 1 j 0 5 (orI (M 1 j 0 5) (shlI 1 x))) 1 j 0 5), .inr (.inr (some (1, j, 0)))], (wri M 1 j 0 5 (orI (M 1 j 0 5) (shlI 1 x)))) _)
        rw [show ((wri M 1 j 0 5 (orI (M 1 j 0 5) (shlI 1 x))) 1 j 0 5) = (orI (M 1 j 0 5) (shlI 1 x)) from wri_eq]
        refine ev_clp (v := .inl (sm (fun c => bi (andI ((wri M 1 j 0 5 (orI (M 1 j 0 5) (shlI 1 x))) 14 j 0 c) (orI (M 1 j 0 5) (shlI 1 x)) ≠ 0)) 600)) (z := z_X1_chairsUnder) (as := [.inr (.inr (some (1, j, 0))), .inl (orI (M 1 j 0 5) (shlI 1 x))]) (rest := []) rfl d_chairsUnder (?_ : EvI X E_X1_raiseStage (51, [some (.inr (.inr (some (1, j, 0)))), some (.inl x)], [.inl (sm (fun c => bi (andI ((wri M 1 j 0 5 (orI (M 1 j 0 5) (shlI 1 x))) 14 j 0 c) (orI (M 1 j 0 5) (shlI 1 x)) ≠ 0)) 600)], (wri M 1 j 0 5 (orI (M 1 j 0 5) (shlI 1 x)))) _)
        refine ev_rt (r := some (.inl (sm (fun c => bi (andI ((wri M 1 j 0 5 (orI (M 1 j 0 5) (shlI 1 x))) 14 j 0 c) (orI (M 1 j 0 5) (shlI 1 x)) ≠ 0)) 600))) rfl (?_)
        have e : opUp (sl M j) x = (sm (fun c => bi (andI (M 14 j 0 c) (orI (M 1 j 0 5) (shlI 1 x)) ≠ 0)) 600, upS (sl M j) x) := (cif_f (fun z => z h5)).trans (cif_f (fun z => z.elim h15 h25))
        exact ⟨rint (by rw [e] <;> first | rfl | (dsimp only; omega)), by rw [e] <;> simp only [sl_wri, sl_bcM, upS] <;> try rfl, FR_wri stK_1 (FR_rf)⟩
      · refine seg_ok 1 (?_ : EvI X E_X1_raiseStage (30, [some (.inr (.inr (some (1, j, 0)))), some (.inl x)], [.inl (-2)], M) _)
        refine ev_rt (r := some (.inl (-2))) rfl (?_)
        have e : opUp (sl M j) x = (-2, sl M j) := (cif_f (fun z => z h5)).trans (cif_t (Or.inr h25))
        exact ⟨rint (by rw [e]), by rw [e], FR_rf⟩
    · refine seg_ok 1 (?_ : EvI X E_X1_raiseStage (30, [some (.inr (.inr (some (1, j, 0)))), some (.inl x)], [.inl (-2)], M) _)
      refine ev_rt (r := some (.inl (-2))) rfl (?_)
      have e : opUp (sl M j) x = (-2, sl M j) := (cif_f (fun z => z h5)).trans (cif_t (Or.inl h15))
      exact ⟨rint (by rw [e]), by rw [e], FR_rf⟩
theorem d_lowerStage {m : Int} {M : NM} {j : Int} (hI : Inv m (sl M j)) {x : Int} : HT X z_X1_lowerStage [.inr (.inr (some (1, j, 0))), .inl x] M (fun rr MM => rr = some (.inl (opDown (sl M j) x).1) ∧ sl MM j = (opDown (sl M j) x).2 ∧ FR j M MM) := by
  have hi := hI.1
  simp only [Iv0, sl] at hi
  refine ht_of (e := E_X1_lowerStage) rfl (?_ : EvI X E_X1_lowerStage (0, [some (.inr (.inr (some (1, j, 0)))), some (.inl x)], [], M) _)
  refine seg_ok 2 (?_ : EvI X E_X1_lowerStage (2, [some (.inr (.inr (some (1, j, 0)))), some (.inl x)], [.inl x, .inr (.inr (some (1, j, 0)))], M) _)
  refine ev_clp (v := .inl (bi (0 ≤ x ∧ x < M 1 j 0 4))) (z := z_X1_isStage) (as := [.inr (.inr (some (1, j, 0))), .inl x]) (rest := []) rfl d_isStage (?_ : EvI X E_X1_lowerStage (5, [some (.inr (.inr (some (1, j, 0)))), some (.inl x)], [.inl (bi (0 ≤ x ∧ x < M 1 j 0 4))], M) _)
  refine seg_ok 1 (?_ : EvI X E_X1_lowerStage (if (bi (0 ≤ x ∧ x < M 1 j 0 4)) = 0 then 8 else 10, [some (.inr (.inr (some (1, j, 0)))), some (.inl x)], [], M) _)
  refine ev_ifb (fun h5 => ?_) (fun h5 => ?_)
  · refine seg_ok 1 (?_ : EvI X E_X1_lowerStage (9, [some (.inr (.inr (some (1, j, 0)))), some (.inl x)], [.inl (-1)], M) _)
    refine ev_rt (r := some (.inl (-1))) rfl (?_)
    have e : opDown (sl M j) x = (-1, sl M j) := cif_t h5
    exact ⟨rint (by rw [e]), by rw [e], FR_rf⟩
  · refine seg_ok 2 (?_ : EvI X E_X1_lowerStage (12, [some (.inr (.inr (some (1, j, 0)))), some (.inl x)], [.inl x, .inr (.inr (some (1, j, 0)))], M) _)
    refine ev_clp (v := .inl (bi (upP (sl M j) x))) (z := z_X1_isUp) (as := [.inr (.inr (some (1, j, 0))), .inl x]) (rest := []) rfl d_isUp (?_ : EvI X E_X1_lowerStage (15, [some (.inr (.inr (some (1, j, 0)))), some (.inl x)], [.inl (bi (upP (sl M j) x))], M) _)
    refine seg_ok 1 (?_ : EvI X E_X1_lowerStage (if (bi (upP (sl M j) x)) = 0 then 18 else 21, [some (.inr (.inr (some (1, j, 0)))), some (.inl x)], [], M) _)
    refine ev_ifb (fun h15 => ?_) (fun h15 => ?_)
    · refine seg_ok 1 (?_ : EvI X E_X1_lowerStage (20, [some (.inr (.inr (some (1, j, 0)))), some (.inl x)], [.inl (-2)], M) _)
      refine ev_rt (r := some (.inl (-2))) rfl (?_)
      have e : opDown (sl M j) x = (-2, sl M j) := (cif_f (fun z => z h5)).trans (cif_t h15)
      exact ⟨rint (by rw [e]), by rw [e], FR_rf⟩
    · refine seg_ok 13 (?_ : EvI X E_X1_lowerStage (40, [some (.inr (.inr (some (1, j, 0)))), some (.inl x)], [.inl ((wri M 1 j 0 5 (andI (M 1 j 0 5) (xorI (shlI 1 x) (-1)))) 1 j 0 5), .inr (.inr (some (1, j, 0)))], (wri M 1 j 0 5 (andI (M 1 j 0 5) (xorI (shlI 1 x) (-1))))) _)
      rw [show ((wri M 1 j 0 5 (andI (M 1 j 0 5) (xorI (shlI 1 x) (-1)))) 1 j 0 5) = (andI (M 1 j 0 5) (xorI (shlI 1 x) (-1))) from wri_eq]
      refine ev_clp (v := .inl (sm (fun c => bi (andI ((wri M 1 j 0 5 (andI (M 1 j 0 5) (xorI (shlI 1 x) (-1)))) 14 j 0 c) (andI (M 1 j 0 5) (xorI (shlI 1 x) (-1))) ≠ 0)) 600)) (z := z_X1_chairsUnder) (as := [.inr (.inr (some (1, j, 0))), .inl (andI (M 1 j 0 5) (xorI (shlI 1 x) (-1)))]) (rest := []) rfl d_chairsUnder (?_ : EvI X E_X1_lowerStage (43, [some (.inr (.inr (some (1, j, 0)))), some (.inl x)], [.inl (sm (fun c => bi (andI ((wri M 1 j 0 5 (andI (M 1 j 0 5) (xorI (shlI 1 x) (-1)))) 14 j 0 c) (andI (M 1 j 0 5) (xorI (shlI 1 x) (-1))) ≠ 0)) 600)], (wri M 1 j 0 5 (andI (M 1 j 0 5) (xorI (shlI 1 x) (-1))))) _)
      refine ev_rt (r := some (.inl (sm (fun c => bi (andI ((wri M 1 j 0 5 (andI (M 1 j 0 5) (xorI (shlI 1 x) (-1)))) 14 j 0 c) (andI (M 1 j 0 5) (xorI (shlI 1 x) (-1))) ≠ 0)) 600))) rfl (?_)
      have e : opDown (sl M j) x = (sm (fun c => bi (andI (M 14 j 0 c) (andI (M 1 j 0 5) (xorI (shlI 1 x) (-1))) ≠ 0)) 600, dnS (sl M j) x) := (cif_f (fun z => z h5)).trans (cif_f (fun z => z h15))
      exact ⟨rint (by rw [e] <;> first | rfl | (dsimp only; omega)), by rw [e] <;> simp only [sl_wri, sl_bcM, dnS] <;> try rfl, FR_wri stK_1 (FR_rf)⟩
end
