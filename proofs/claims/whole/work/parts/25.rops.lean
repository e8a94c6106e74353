/-! 25: the reference: what its orders do -/
section
variable {X : XI}
theorem c_become {M : NM} {S : Sl} (hR : RR (M 17 0 0) S) {f n w : Int} (hC : BC S f n) (hn : 0 ≤ n ∧ n ≤ 10) (hf : 0 ≤ f ∧ f ≤ 590) (hw : 0 ≤ w ∧ w ≤ 3) : HT X z_X8_become [.inr (.inr (some (8, 0, 0))), .inl f, .inl n, .inl w] M (fun rr MM => rr = none ∧ RR (MM 17 0 0) (bec S f n w) ∧ MM 17 0 0 4 = M 17 0 0 4 ∧ F17 M MM) := by
  refine ht_of (e := E_X8_become) rfl (?_ : EvI X E_X8_become (0, [some (.inr (.inr (some (8, 0, 0)))), some (.inl f), some (.inl n), some (.inl w), none, none], [], M) _)
  refine seg_ok 2 (?_ : EvI X E_X8_become (3, [some (.inr (.inr (some (8, 0, 0)))), some (.inl f), some (.inl n), some (.inl w), some (.inl 0), none], [], M) _)
  have L3 : ∀ (m3 : Nat) (k : Int) (M1 : NM) (d3_5 : Option U), n - k < (m3 : Int) → (0 ≤ k) → (k ≤ n) → (RR (M1 17 0 0) (bec S f k w)) → (M1 17 0 0 4 = M 17 0 0 4) → (F17 M M1) → EvI X E_X8_become (3, [some (.inr (.inr (some (8, 0, 0)))), some (.inl f), some (.inl n), some (.inl w), some (.inl k), d3_5], [], M1) (fun rr MM => rr = none ∧ RR (MM 17 0 0) (bec S f n w) ∧ MM 17 0 0 4 = M 17 0 0 4 ∧ F17 M MM) := by
    intro m3
    induction m3 with
    | zero => intro k M1 d3_5 hm3 q1 q2 q3 q4 q5; exact absurd hm3 (by omega)
    | succ m3 ih3 =>
      intro k M1 d3_5 hm3 q1 q2 q3 q4 q5
      refine seg_ok 3 (?_ : EvI X E_X8_become (if k < n then 9 else 43, [some (.inr (.inr (some (8, 0, 0)))), some (.inl f), some (.inl n), some (.inl w), some (.inl k), d3_5], [], M1) _)
      refine ev_if (fun h6 => ?_) (fun h6 => ?_)
      · have hc := hC (f + k) (by omega) (by omega)
        have e1 : M1 17 0 0 (29 + 60 * ((f + k) / 100) + (f + k) % 100) = S 13 0 (f + k) + 4 * S 14 0 (f + k) := by
          rw [q3.2.2.1 (f + k) hc.1.1 hc.1.2.1 hc.1.2.2, bec_out (by omega)]; rfl
        refine seg_ok 3 (⟨by omega, ?_⟩ : ((-2147483648 : Int) ≤ (f + k) ∧ (f + k) < 2147483648) ∧ EvI X E_X8_become (13, [some (.inr (.inr (some (8, 0, 0)))), some (.inl f), some (.inl n), some (.inl w), some (.inl k), d3_5], [.inl (f + k)], M1) _)
        refine ev_clp (v := .inl (29 + 60 * ((f + k) / 100) + (f + k) % 100)) (z := z_X8_atChair) (as := [.inl (f + k)]) (rest := []) rfl (c_atChair (by omega)) (?_ : EvI X E_X8_become (16, [some (.inr (.inr (some (8, 0, 0)))), some (.inl f), some (.inl n), some (.inl w), some (.inl k), d3_5], [.inl (29 + 60 * ((f + k) / 100) + (f + k) % 100)], M1) _)
        refine seg_ok 15 (⟨by omega, by omega, by omega, ?_⟩ : ((0 : Int) ≤ (29 + 60 * ((f + k) / 100) + (f + k) % 100) ∧ (29 + 60 * ((f + k) / 100) + (f + k) % 100) < 589) ∧ ((0 : Int) ≤ (29 + 60 * ((f + k) / 100) + (f + k) % 100) ∧ (29 + 60 * ((f + k) / 100) + (f + k) % 100) < 589) ∧ ((-2147483648 : Int) ≤ (k + 1) ∧ (k + 1) < 2147483648) ∧ EvI X E_X8_become (3, [some (.inr (.inr (some (8, 0, 0)))), some (.inl f), some (.inl n), some (.inl w), some (.inl (k + 1)), some (.inl (29 + 60 * ((f + k) / 100) + (f + k) % 100))], [], (wri M1 17 0 0 (29 + 60 * ((f + k) / 100) + (f + k) % 100) (orI (andI (M1 17 0 0 (29 + 60 * ((f + k) / 100) + (f + k) % 100)) (-4)) w))) _)
        refine ih3 (k + 1) (wri M1 17 0 0 (29 + 60 * ((f + k) / 100) + (f + k) % 100) (orI (andI (M1 17 0 0 (29 + 60 * ((f + k) / 100) + (f + k) % 100)) (-4)) w)) (some (.inl (29 + 60 * ((f + k) / 100) + (f + k) % 100))) (by omega) (by omega) (by omega) (by rw [e1, b_bc4 hc.2.1 hc.2.2 hw, bec_s q1]; exact RR_ch q3 hc.1) (u4_wri q4 (by omega)) (F17_wri q5)
      · refine ev_rt (r := none) rfl (?_)
        obtain rfl : k = n := by omega
        exact ⟨rfl, q3, q4, q5⟩
  refine L3 ((n - 0) + 1 : Int).toNat 0 M none (by omega) (by omega) (by omega) (by rw [bec_0]; exact hR) rfl F17_rf
set_option maxRecDepth 3630 in
theorem c_holds {m : Int} {M : NM} {S : Sl} (hW : RW m M S) {b n w : Int} : HT X z_X8_holds [.inr (.inr (some (8, 0, 0))), .inl b, .inl n, .inl w] M (fun rr MM => rr = some (.inl (opHold S b n w).1) ∧ RR (MM 17 0 0) (opHold S b n w).2 ∧ MM 17 0 0 4 = M 17 0 0 4 ∧ F17 M MM) := by
  have hs := hW.1.1
  have hi := hW.2.1
  unfold Iv0 at hi
  refine ht_of (e := E_X8_holds) rfl (?_ : EvI X E_X8_holds (0, [some (.inr (.inr (some (8, 0, 0)))), some (.inl b), some (.inl n), some (.inl w), none, none], [], M) _)
  refine seg_ok 2 (?_ : EvI X E_X8_holds (2, [some (.inr (.inr (some (8, 0, 0)))), some (.inl b), some (.inl n), some (.inl w), none, none], [.inl b, .inr (.inr (some (8, 0, 0)))], M) _)
  refine ev_clp (v := .inl (bi (0 ≤ b ∧ b < S 1 0 3))) (z := z_X8_isBlock) (as := [.inr (.inr (some (8, 0, 0))), .inl b]) (rest := []) rfl (c_isBlock hW) (?_ : EvI X E_X8_holds (5, [some (.inr (.inr (some (8, 0, 0)))), some (.inl b), some (.inl n), some (.inl w), none, none], [.inl (bi (0 ≤ b ∧ b < S 1 0 3))], M) _)
  refine seg_ok 1 (?_ : EvI X E_X8_holds (if (bi (0 ≤ b ∧ b < S 1 0 3)) = 0 then 29 else 8, [some (.inr (.inr (some (8, 0, 0)))), some (.inl b), some (.inl n), some (.inl w), none, none], [], M) _)
  refine ev_ifb (fun h5 => ?_) (fun h5 => ?_)
  · refine seg_ok 1 (?_ : EvI X E_X8_holds (30, [some (.inr (.inr (some (8, 0, 0)))), some (.inl b), some (.inl n), some (.inl w), none, none], [.inl (-1)], M) _)
    refine ev_rt (r := some (.inl (-1))) rfl (?_)
    have e : opHold S b n w = (-1, S) := cif_t (by omega)
    show _ ∧ RR (M 17 0 0) _ ∧ M 17 0 0 4 = M 17 0 0 4 ∧ F17 M M
    exact ⟨rint (by rw [e] <;> first | rfl | (dsimp only; omega)), (RR_eq (hW.1) (by rw [e])), rfl, F17_rf⟩
  · refine seg_ok 3 (?_ : EvI X E_X8_holds (12, [some (.inr (.inr (some (8, 0, 0)))), some (.inl b), some (.inl n), some (.inl w), none, none], [.inl 10, .inl 1, .inl n], M) _)
    refine ev_clp (v := .inl (bi (1 ≤ n ∧ n ≤ 10))) (z := z_X8_in) (as := [.inl n, .inl 1, .inl 10]) (rest := []) rfl c_in (?_ : EvI X E_X8_holds (15, [some (.inr (.inr (some (8, 0, 0)))), some (.inl b), some (.inl n), some (.inl w), none, none], [.inl (bi (1 ≤ n ∧ n ≤ 10))], M) _)
    refine seg_ok 1 (?_ : EvI X E_X8_holds (if (bi (1 ≤ n ∧ n ≤ 10)) = 0 then 29 else 18, [some (.inr (.inr (some (8, 0, 0)))), some (.inl b), some (.inl n), some (.inl w), none, none], [], M) _)
    refine ev_ifb (fun h15 => ?_) (fun h15 => ?_)
    · refine seg_ok 1 (?_ : EvI X E_X8_holds (30, [some (.inr (.inr (some (8, 0, 0)))), some (.inl b), some (.inl n), some (.inl w), none, none], [.inl (-1)], M) _)
      refine ev_rt (r := some (.inl (-1))) rfl (?_)
      have e : opHold S b n w = (-1, S) := cif_t (by omega)
      show _ ∧ RR (M 17 0 0) _ ∧ M 17 0 0 4 = M 17 0 0 4 ∧ F17 M M
      exact ⟨rint (by rw [e] <;> first | rfl | (dsimp only; omega)), (RR_eq (hW.1) (by rw [e])), rfl, F17_rf⟩
    · refine seg_ok 3 (?_ : EvI X E_X8_holds (23, [some (.inr (.inr (some (8, 0, 0)))), some (.inl b), some (.inl n), some (.inl w), none, none], [.inl 999, .inl 1, .inl w], M) _)
      refine ev_clp (v := .inl (bi (1 ≤ w ∧ w ≤ 999))) (z := z_X8_in) (as := [.inl w, .inl 1, .inl 999]) (rest := []) rfl c_in (?_ : EvI X E_X8_holds (26, [some (.inr (.inr (some (8, 0, 0)))), some (.inl b), some (.inl n), some (.inl w), none, none], [.inl (bi (1 ≤ w ∧ w ≤ 999))], M) _)
      refine seg_ok 1 (?_ : EvI X E_X8_holds (if (bi (1 ≤ w ∧ w ≤ 999)) = 0 then 29 else 31, [some (.inr (.inr (some (8, 0, 0)))), some (.inl b), some (.inl n), some (.inl w), none, none], [], M) _)
      refine ev_ifb (fun h26 => ?_) (fun h26 => ?_)
      · refine seg_ok 1 (?_ : EvI X E_X8_holds (30, [some (.inr (.inr (some (8, 0, 0)))), some (.inl b), some (.inl n), some (.inl w), none, none], [.inl (-1)], M) _)
        refine ev_rt (r := some (.inl (-1))) rfl (?_)
        have e : opHold S b n w = (-1, S) := cif_t (by omega)
        show _ ∧ RR (M 17 0 0) _ ∧ M 17 0 0 4 = M 17 0 0 4 ∧ F17 M M
        exact ⟨rint (by rw [e] <;> first | rfl | (dsimp only; omega)), (RR_eq (hW.1) (by rw [e])), rfl, F17_rf⟩
      · refine seg_ok 3 (?_ : EvI X E_X8_holds (34, [some (.inr (.inr (some (8, 0, 0)))), some (.inl b), some (.inl n), some (.inl w), none, none], [.inl n, .inl b, .inr (.inr (some (8, 0, 0)))], M) _)
        refine ev_clp (v := .inl (pl S b n)) (z := z_X8_placeIn) (as := [.inr (.inr (some (8, 0, 0))), .inl b, .inl n]) (rest := []) rfl (c_placeIn hW (by omega) (by omega)) (?_ : EvI X E_X8_holds (37, [some (.inr (.inr (some (8, 0, 0)))), some (.inl b), some (.inl n), some (.inl w), none, none], [.inl (pl S b n)], M) _)
        refine seg_ok 4 (?_ : EvI X E_X8_holds (if (pl S b n) = (-9) then 46 else 49, [some (.inr (.inr (some (8, 0, 0)))), some (.inl b), some (.inl n), some (.inl w), some (.inl (pl S b n)), none], [], M) _)
        refine ev_if (fun h43 => ?_) (fun h43 => ?_)
        · refine seg_ok 1 (?_ : EvI X E_X8_holds (48, [some (.inr (.inr (some (8, 0, 0)))), some (.inl b), some (.inl n), some (.inl w), some (.inl (pl S b n)), none], [.inl (-2)], M) _)
          refine ev_rt (r := some (.inl (-2))) rfl (?_)
          have e : opHold S b n w = (-2, S) := (cif_f (by omega)).trans (cif_t h43)
          show _ ∧ RR (M 17 0 0) _ ∧ M 17 0 0 4 = M 17 0 0 4 ∧ F17 M M
          exact ⟨rint (by rw [e] <;> first | rfl | (dsimp only; omega)), (RR_eq (hW.1) (by rw [e])), rfl, F17_rf⟩
        · have hp := (HO_r hW.2 (pl_HO hW.2 h5 h15 h43).1)
          refine seg_ok 4 (⟨by omega, ?_⟩ : ((0 : Int) ≤ 8 ∧ (8 : Int) < 589) ∧ EvI X E_X8_holds (56, [some (.inr (.inr (some (8, 0, 0)))), some (.inl b), some (.inl n), some (.inl w), some (.inl (pl S b n)), none], [.inl (M 17 0 0 8)], M) _)
          rw [show (M 17 0 0 8) = (S 5 0 3) from sc8 (hW.1)]
          refine seg_ok 2 (?_ : EvI X E_X8_holds (if (S 5 0 3) = 20 then 61 else 64, [some (.inr (.inr (some (8, 0, 0)))), some (.inl b), some (.inl n), some (.inl w), some (.inl (pl S b n)), none], [], M) _)
          refine ev_if (fun h58 => ?_) (fun h58 => ?_)
          · refine seg_ok 1 (?_ : EvI X E_X8_holds (63, [some (.inr (.inr (some (8, 0, 0)))), some (.inl b), some (.inl n), some (.inl w), some (.inl (pl S b n)), none], [.inl (-3)], M) _)
            refine ev_rt (r := some (.inl (-3))) rfl (?_)
            have e : opHold S b n w = (-3, S) := (cif_f (by omega)).trans ((cif_f h43).trans (cif_t h58))
            show _ ∧ RR (M 17 0 0) _ ∧ M 17 0 0 4 = M 17 0 0 4 ∧ F17 M M
            exact ⟨rint (by rw [e] <;> first | rfl | (dsimp only; omega)), (RR_eq (hW.1) (by rw [e])), rfl, F17_rf⟩
          · refine seg_ok 6 (⟨by omega, ?_⟩ : ((0 : Int) ≤ 8 ∧ (8 : Int) < 589) ∧ EvI X E_X8_holds (75, [some (.inr (.inr (some (8, 0, 0)))), some (.inl b), some (.inl n), some (.inl w), some (.inl (pl S b n)), none], [.inl (M 17 0 0 8), .inl 5, .inl 389], M) _)
            rw [show (M 17 0 0 8) = (S 5 0 3) from sc8 (hW.1)]
            refine seg_ok 31 (⟨by omega, by omega, by omega, by omega, by omega, by omega, by omega, by omega, by omega, ?_⟩ : ((-2147483648 : Int) ≤ (5 * (S 5 0 3)) ∧ (5 * (S 5 0 3)) < 2147483648) ∧ ((-2147483648 : Int) ≤ (389 + (5 * (S 5 0 3))) ∧ (389 + (5 * (S 5 0 3))) < 2147483648) ∧ ((0 : Int) ≤ (389 + (5 * (S 5 0 3))) ∧ (389 + (5 * (S 5 0 3))) < 589) ∧ ((-2147483648 : Int) ≤ ((389 + (5 * (S 5 0 3))) + 1) ∧ ((389 + (5 * (S 5 0 3))) + 1) < 2147483648) ∧ ((0 : Int) ≤ ((389 + (5 * (S 5 0 3))) + 1) ∧ ((389 + (5 * (S 5 0 3))) + 1) < 589) ∧ ((-2147483648 : Int) ≤ ((389 + (5 * (S 5 0 3))) + 2) ∧ ((389 + (5 * (S 5 0 3))) + 2) < 2147483648) ∧ ((0 : Int) ≤ ((389 + (5 * (S 5 0 3))) + 2) ∧ ((389 + (5 * (S 5 0 3))) + 2) < 589) ∧ ((-2147483648 : Int) ≤ ((389 + (5 * (S 5 0 3))) + 3) ∧ ((389 + (5 * (S 5 0 3))) + 3) < 2147483648) ∧ ((0 : Int) ≤ 0 ∧ (0 : Int) < 589) ∧ EvI X E_X8_holds (122, [some (.inr (.inr (some (8, 0, 0)))), some (.inl b), some (.inl n), some (.inl w), some (.inl (pl S b n)), some (.inl (389 + (5 * (S 5 0 3))))], [.inl ((wri (wri (wri M 17 0 0 (389 + (5 * (S 5 0 3))) 0) 17 0 0 ((389 + (5 * (S 5 0 3))) + 1) (pl S b n)) 17 0 0 ((389 + (5 * (S 5 0 3))) + 2) n) 17 0 0 0), .inl ((389 + (5 * (S 5 0 3))) + 3), .inr (.inr (some (17, 0, 0)))], (wri (wri (wri M 17 0 0 (389 + (5 * (S 5 0 3))) 0) 17 0 0 ((389 + (5 * (S 5 0 3))) + 1) (pl S b n)) 17 0 0 ((389 + (5 * (S 5 0 3))) + 2) n)) _)
            rw [show ((wri (wri (wri M 17 0 0 (389 + (5 * (S 5 0 3))) 0) 17 0 0 ((389 + (5 * (S 5 0 3))) + 1) (pl S b n)) 17 0 0 ((389 + (5 * (S 5 0 3))) + 2) n) 17 0 0 0) = (S 5 0 5) from (wri_nes (by omega)).trans ((wri_nes (by omega)).trans ((wri_nes (by omega)).trans (sc0 (hW.1))))]
            refine seg_ok 14 (⟨by omega, by omega, by omega, by omega, ?_⟩ : ((-2147483648 : Int) ≤ ((S 5 0 5) + w) ∧ ((S 5 0 5) + w) < 2147483648) ∧ ((0 : Int) ≤ ((389 + (5 * (S 5 0 3))) + 3) ∧ ((389 + (5 * (S 5 0 3))) + 3) < 589) ∧ ((-2147483648 : Int) ≤ ((389 + (5 * (S 5 0 3))) + 4) ∧ ((389 + (5 * (S 5 0 3))) + 4) < 2147483648) ∧ ((0 : Int) ≤ ((389 + (5 * (S 5 0 3))) + 4) ∧ ((389 + (5 * (S 5 0 3))) + 4) < 589) ∧ EvI X E_X8_holds (141, [some (.inr (.inr (some (8, 0, 0)))), some (.inl b), some (.inl n), some (.inl w), some (.inl (pl S b n)), some (.inl (389 + (5 * (S 5 0 3))))], [.inl 1, .inl n, .inl (pl S b n), .inr (.inr (some (8, 0, 0)))], (wri (wri (wri (wri (wri M 17 0 0 (389 + (5 * (S 5 0 3))) 0) 17 0 0 ((389 + (5 * (S 5 0 3))) + 1) (pl S b n)) 17 0 0 ((389 + (5 * (S 5 0 3))) + 2) n) 17 0 0 ((389 + (5 * (S 5 0 3))) + 3) ((S 5 0 5) + w)) 17 0 0 ((389 + (5 * (S 5 0 3))) + 4) (-9))) _)
            refine ev_cl (z := z_X8_become) (as := [.inr (.inr (some (8, 0, 0))), .inl (pl S b n), .inl n, .inl 1]) (rest := []) rfl (c_become (RR_hold (RR_hold (RR_hold (RR_hold (RR_hold0 (hW.1) (by omega)) (by omega) (by omega)) (by omega) (by omega)) (by omega) (by omega)) (by omega) (by omega)) (BC_of hW.2 (pl_HO hW.2 h5 h15 h43).1) (by omega) (by omega) (by omega)) ?_
            intro rr M1 hqM1
            obtain ⟨rfl, rM1, uM1, gM1⟩ := hqM1
            show EvI X E_X8_holds (144, [some (.inr (.inr (some (8, 0, 0)))), some (.inl b), some (.inl n), some (.inl w), some (.inl (pl S b n)), some (.inl (389 + (5 * (S 5 0 3))))], [], M1) _
            refine seg_ok 5 (⟨by omega, ?_⟩ : ((0 : Int) ≤ 8 ∧ (8 : Int) < 589) ∧ EvI X E_X8_holds (152, [some (.inr (.inr (some (8, 0, 0)))), some (.inl b), some (.inl n), some (.inl w), some (.inl (pl S b n)), some (.inl (389 + (5 * (S 5 0 3))))], [.inl (M1 17 0 0 8), .inl 8, .inr (.inr (some (17, 0, 0)))], M1) _)
            rw [show (M1 17 0 0 8) = (S 5 0 3) from (sc8 (rM1)).trans rfl]
            refine seg_ok 7 (⟨by omega, by omega, by omega, ?_⟩ : ((-2147483648 : Int) ≤ ((S 5 0 3) + 1) ∧ ((S 5 0 3) + 1) < 2147483648) ∧ ((0 : Int) ≤ 8 ∧ (8 : Int) < 589) ∧ ((0 : Int) ≤ 8 ∧ (8 : Int) < 589) ∧ EvI X E_X8_holds (162, [some (.inr (.inr (some (8, 0, 0)))), some (.inl b), some (.inl n), some (.inl w), some (.inl (pl S b n)), some (.inl (389 + (5 * (S 5 0 3))))], [.inl ((wri M1 17 0 0 8 ((S 5 0 3) + 1)) 17 0 0 8)], (wri M1 17 0 0 8 ((S 5 0 3) + 1))) _)
            rw [show ((wri M1 17 0 0 8 ((S 5 0 3) + 1)) 17 0 0 8) = ((S 5 0 3) + 1) from wri_eq]
            refine seg_ok 2 (⟨by omega, ?_⟩ : ((-2147483648 : Int) ≤ (((S 5 0 3) + 1) - 1) ∧ (((S 5 0 3) + 1) - 1) < 2147483648) ∧ EvI X E_X8_holds (164, [some (.inr (.inr (some (8, 0, 0)))), some (.inl b), some (.inl n), some (.inl w), some (.inl (pl S b n)), some (.inl (389 + (5 * (S 5 0 3))))], [.inl (((S 5 0 3) + 1) - 1)], (wri M1 17 0 0 8 ((S 5 0 3) + 1))) _)
            refine ev_rt (r := some (.inl (((S 5 0 3) + 1) - 1))) rfl (?_)
            have e : opHold S b n w = (S 5 0 3, holdS S (pl S b n) n w) := (cif_f (by omega)).trans ((cif_f h43).trans (cif_f h58))
            show _ ∧ RR ((wri M1 17 0 0 8 ((S 5 0 3) + 1)) 17 0 0) _ ∧ (wri M1 17 0 0 8 ((S 5 0 3) + 1)) 17 0 0 4 = M 17 0 0 4 ∧ F17 M (wri M1 17 0 0 8 ((S 5 0 3) + 1))
            exact ⟨rint (by rw [e] <;> first | rfl | (dsimp only; omega)), (RR_eq (RR_s8 (rM1)) (by rw [e]; rfl)), u4_wri (u4_tr uM1 (u4_wri (u4_wri (u4_wri (u4_wri (u4_wri (rfl) (by omega)) (by omega)) (by omega)) (by omega)) (by omega))) (by omega), F17_wri (F17_tr (F17_wri (F17_wri (F17_wri (F17_wri (F17_wri (F17_rf)))))) gM1)⟩
theorem c_drops {m : Int} {M : NM} {S : Sl} (hW : RW m M S) {x : Int} : HT X z_X8_drops [.inr (.inr (some (8, 0, 0))), .inl x] M (fun rr MM => rr = some (.inl (opDrop S x).1) ∧ RR (MM 17 0 0) (opDrop S x).2 ∧ MM 17 0 0 4 = M 17 0 0 4 ∧ F17 M MM) := by
  have hs := hW.1.1
  have hi := hW.2.1
  unfold Iv0 at hi
  refine ht_of (e := E_X8_drops) rfl (?_ : EvI X E_X8_drops (0, [some (.inr (.inr (some (8, 0, 0)))), some (.inl x)], [], M) _)
  refine seg_ok 2 (?_ : EvI X E_X8_drops (2, [some (.inr (.inr (some (8, 0, 0)))), some (.inl x)], [.inl x, .inr (.inr (some (8, 0, 0)))], M) _)
  refine ev_clp (v := .inl (bi (0 ≤ x ∧ x < S 5 0 3))) (z := z_X8_isHold) (as := [.inr (.inr (some (8, 0, 0))), .inl x]) (rest := []) rfl (c_isHold hW) (?_ : EvI X E_X8_drops (5, [some (.inr (.inr (some (8, 0, 0)))), some (.inl x)], [.inl (bi (0 ≤ x ∧ x < S 5 0 3))], M) _)
  refine seg_ok 1 (?_ : EvI X E_X8_drops (if (bi (0 ≤ x ∧ x < S 5 0 3)) = 0 then 8 else 10, [some (.inr (.inr (some (8, 0, 0)))), some (.inl x)], [], M) _)
  refine ev_ifb (fun h5 => ?_) (fun h5 => ?_)
  · refine seg_ok 1 (?_ : EvI X E_X8_drops (9, [some (.inr (.inr (some (8, 0, 0)))), some (.inl x)], [.inl (-1)], M) _)
    refine ev_rt (r := some (.inl (-1))) rfl (?_)
    have e : opDrop S x = (-1, S) := cif_t h5
    show _ ∧ RR (M 17 0 0) _ ∧ M 17 0 0 4 = M 17 0 0 4 ∧ F17 M M
    exact ⟨rint (by rw [e] <;> first | rfl | (dsimp only; omega)), (RR_eq (hW.1) (by rw [e])), rfl, F17_rf⟩
  · have hh := HO_r hW.2 (HO_h hW.2 h5)
    refine seg_ok 3 (?_ : EvI X E_X8_drops (13, [some (.inr (.inr (some (8, 0, 0)))), some (.inl x)], [.inl 0, .inl x, .inr (.inr (some (8, 0, 0)))], M) _)
    refine ev_clp (v := .inl (S 3 x 0)) (z := z_X8_ofHold) (as := [.inr (.inr (some (8, 0, 0))), .inl x, .inl 0]) (rest := []) rfl (c_ofHold hW.1 (by omega) (by omega)) (?_ : EvI X E_X8_drops (16, [some (.inr (.inr (some (8, 0, 0)))), some (.inl x)], [.inl (S 3 x 0)], M) _)
    refine seg_ok 1 (?_ : EvI X E_X8_drops (if (S 3 x 0) = 0 then 22 else 19, [some (.inr (.inr (some (8, 0, 0)))), some (.inl x)], [], M) _)
    refine ev_if (fun h16 => ?_) (fun h16 => ?_)
    · refine seg_ok 13 (⟨by omega, by omega, by omega, ?_⟩ : ((-2147483648 : Int) ≤ (5 * x) ∧ (5 * x) < 2147483648) ∧ ((-2147483648 : Int) ≤ (389 + (5 * x)) ∧ (389 + (5 * x)) < 2147483648) ∧ ((0 : Int) ≤ (389 + (5 * x)) ∧ (389 + (5 * x)) < 589) ∧ EvI X E_X8_drops (39, [some (.inr (.inr (some (8, 0, 0)))), some (.inl x)], [.inl 1, .inl x, .inr (.inr (some (8, 0, 0))), .inr (.inr (some (8, 0, 0)))], (wri M 17 0 0 (389 + (5 * x)) 2)) _)
      refine ev_clp (v := .inl ((st S 3 x 0 2) 3 x 1)) (z := z_X8_ofHold) (as := [.inr (.inr (some (8, 0, 0))), .inl x, .inl 1]) (rest := [.inr (.inr (some (8, 0, 0)))]) rfl (c_ofHold (RR_hold0 (hW.1) (by omega)) (by omega) (by omega)) (?_ : EvI X E_X8_drops (42, [some (.inr (.inr (some (8, 0, 0)))), some (.inl x)], [.inl ((st S 3 x 0 2) 3 x 1), .inr (.inr (some (8, 0, 0)))], (wri M 17 0 0 (389 + (5 * x)) 2)) _)
      rw [show ((st S 3 x 0 2) 3 x 1) = (S 3 x 1) from st_nes (by decide)]
      refine seg_ok 3 (?_ : EvI X E_X8_drops (45, [some (.inr (.inr (some (8, 0, 0)))), some (.inl x)], [.inl 2, .inl x, .inr (.inr (some (8, 0, 0))), .inl (S 3 x 1), .inr (.inr (some (8, 0, 0)))], (wri M 17 0 0 (389 + (5 * x)) 2)) _)
      refine ev_clp (v := .inl ((st S 3 x 0 2) 3 x 2)) (z := z_X8_ofHold) (as := [.inr (.inr (some (8, 0, 0))), .inl x, .inl 2]) (rest := [.inl (S 3 x 1), .inr (.inr (some (8, 0, 0)))]) rfl (c_ofHold (RR_hold0 (hW.1) (by omega)) (by omega) (by omega)) (?_ : EvI X E_X8_drops (48, [some (.inr (.inr (some (8, 0, 0)))), some (.inl x)], [.inl ((st S 3 x 0 2) 3 x 2), .inl (S 3 x 1), .inr (.inr (some (8, 0, 0)))], (wri M 17 0 0 (389 + (5 * x)) 2)) _)
      rw [show ((st S 3 x 0 2) 3 x 2) = (S 3 x 2) from st_nes (by decide)]
      refine seg_ok 1 (?_ : EvI X E_X8_drops (49, [some (.inr (.inr (some (8, 0, 0)))), some (.inl x)], [.inl 0, .inl (S 3 x 2), .inl (S 3 x 1), .inr (.inr (some (8, 0, 0)))], (wri M 17 0 0 (389 + (5 * x)) 2)) _)
      refine ev_cl (z := z_X8_become) (as := [.inr (.inr (some (8, 0, 0))), .inl (S 3 x 1), .inl (S 3 x 2), .inl 0]) (rest := []) rfl (c_become (RR_hold0 (hW.1) (by omega)) (BC_of hW.2 (HO_h hW.2 h5)) (by omega) (by omega) (by omega)) ?_
      intro rr M1 hqM1
      obtain ⟨rfl, rM1, uM1, gM1⟩ := hqM1
      show EvI X E_X8_drops (52, [some (.inr (.inr (some (8, 0, 0)))), some (.inl x)], [], M1) _
      refine seg_ok 3 (?_ : EvI X E_X8_drops (55, [some (.inr (.inr (some (8, 0, 0)))), some (.inl x)], [.inl 2, .inl x, .inr (.inr (some (8, 0, 0)))], M1) _)
      refine ev_clp (v := .inl ((bec (st S 3 x 0 2) (S 3 x 1) (S 3 x 2) 0) 3 x 2)) (z := z_X8_ofHold) (as := [.inr (.inr (some (8, 0, 0))), .inl x, .inl 2]) (rest := []) rfl (c_ofHold rM1 (by omega) (by omega)) (?_ : EvI X E_X8_drops (58, [some (.inr (.inr (some (8, 0, 0)))), some (.inl x)], [.inl ((bec (st S 3 x 0 2) (S 3 x 1) (S 3 x 2) 0) 3 x 2)], M1) _)
      rw [show ((bec (st S 3 x 0 2) (S 3 x 1) (S 3 x 2) 0) 3 x 2) = (S 3 x 2) from st_nes (by decide)]
      refine ev_rt (r := some (.inl (S 3 x 2))) rfl (?_)
      have e : opDrop S x = (S 3 x 2, bec (st S 3 x 0 2) (S 3 x 1) (S 3 x 2) 0) := (cif_f (fun z => z h5)).trans (cif_f (fun z => z h16))
      show _ ∧ RR (M1 17 0 0) _ ∧ M1 17 0 0 4 = M 17 0 0 4 ∧ F17 M M1
      exact ⟨rint (by rw [e] <;> first | rfl | (dsimp only; omega)), (RR_eq (rM1) (by rw [e])), u4_tr uM1 (u4_wri (rfl) (by omega)), F17_tr (F17_wri (F17_rf)) gM1⟩
    · refine seg_ok 1 (?_ : EvI X E_X8_drops (21, [some (.inr (.inr (some (8, 0, 0)))), some (.inl x)], [.inl (-2)], M) _)
      refine ev_rt (r := some (.inl (-2))) rfl (?_)
      have e : opDrop S x = (-2, S) := (cif_f (fun z => z h5)).trans (cif_t h16)
      show _ ∧ RR (M 17 0 0) _ ∧ M 17 0 0 4 = M 17 0 0 4 ∧ F17 M M
      exact ⟨rint (by rw [e] <;> first | rfl | (dsimp only; omega)), (RR_eq (hW.1) (by rw [e])), rfl, F17_rf⟩
theorem buyS_eq {S : Sl} {h c d : Int} (hc : c = cif (S 5 0 6 = 0) 0 2) (hd : d = cif (S 5 0 6 = 0) 2 3) : buyS S h = st (st (bec (st (st (st (st (st (st (st S 6 (S 5 0 4) 0 c) 6 (S 5 0 4) 1 (S 3 h 1)) 6 (S 5 0 4) 2 (S 3 h 2)) 6 (S 5 0 4) 3 (S 3 h 2 * S 0 (S 3 h 1 / 100) 2)) 6 (S 5 0 4) 4 0) 5 0 7 (S 5 0 7 + S 3 h 2 * S 0 (S 3 h 1 / 100) 2)) 5 0 4 (S 5 0 4 + 1)) (S 3 h 1) (S 3 h 2) d) 3 h 0 1) 3 h 4 (S 5 0 4) := by
  unfold buyS
  rw [← hc, ← hd, st_bec (K := 5) (s := 4) (by decide), st_comm (K := 5) (s := 4) (K' := 3) (by omega), st_comm (K := 5) (s := 4) (K' := 3) (by omega)]
set_option maxRecDepth 4740 in
theorem c_buys {m : Int} {M : NM} {S : Sl} (hW : RW m M S) {x : Int} : HT X z_X8_buys [.inr (.inr (some (8, 0, 0))), .inl x] M (fun rr MM => rr = some (.inl (opBuy S x).1) ∧ RR (MM 17 0 0) (opBuy S x).2 ∧ MM 17 0 0 4 = M 17 0 0 4 ∧ F17 M MM) := by
  have hs := hW.1.1
  have hi := hW.2.1
  unfold Iv0 at hi
  refine ht_of (e := E_X8_buys) rfl (?_ : EvI X E_X8_buys (0, [some (.inr (.inr (some (8, 0, 0)))), some (.inl x), none, none, none, none], [], M) _)
  refine seg_ok 2 (?_ : EvI X E_X8_buys (2, [some (.inr (.inr (some (8, 0, 0)))), some (.inl x), none, none, none, none], [.inl x, .inr (.inr (some (8, 0, 0)))], M) _)
  refine ev_clp (v := .inl (bi (0 ≤ x ∧ x < S 5 0 3))) (z := z_X8_isHold) (as := [.inr (.inr (some (8, 0, 0))), .inl x]) (rest := []) rfl (c_isHold hW) (?_ : EvI X E_X8_buys (5, [some (.inr (.inr (some (8, 0, 0)))), some (.inl x), none, none, none, none], [.inl (bi (0 ≤ x ∧ x < S 5 0 3))], M) _)
  refine seg_ok 1 (?_ : EvI X E_X8_buys (if (bi (0 ≤ x ∧ x < S 5 0 3)) = 0 then 8 else 10, [some (.inr (.inr (some (8, 0, 0)))), some (.inl x), none, none, none, none], [], M) _)
  refine ev_ifb (fun h5 => ?_) (fun h5 => ?_)
  · refine seg_ok 1 (?_ : EvI X E_X8_buys (9, [some (.inr (.inr (some (8, 0, 0)))), some (.inl x), none, none, none, none], [.inl (-1)], M) _)
    refine ev_rt (r := some (.inl (-1))) rfl (?_)
    have e : opBuy S x = (-1, S) := cif_t h5
    show _ ∧ RR (M 17 0 0) _ ∧ M 17 0 0 4 = M 17 0 0 4 ∧ F17 M M
    exact ⟨rint (by rw [e] <;> first | rfl | (dsimp only; omega)), (RR_eq (hW.1) (by rw [e])), rfl, F17_rf⟩
  · have hO := HO_h hW.2 h5
    have hh := HO_r hW.2 hO
    have hp := pr_r hW.2 hO
    obtain ⟨hO0, hO1, hO2, hO3, -, -⟩ := hO
    refine seg_ok 3 (?_ : EvI X E_X8_buys (13, [some (.inr (.inr (some (8, 0, 0)))), some (.inl x), none, none, none, none], [.inl 0, .inl x, .inr (.inr (some (8, 0, 0)))], M) _)
    refine ev_clp (v := .inl (S 3 x 0)) (z := z_X8_ofHold) (as := [.inr (.inr (some (8, 0, 0))), .inl x, .inl 0]) (rest := []) rfl (c_ofHold hW.1 (by omega) (by omega)) (?_ : EvI X E_X8_buys (16, [some (.inr (.inr (some (8, 0, 0)))), some (.inl x), none, none, none, none], [.inl (S 3 x 0)], M) _)
    refine seg_ok 1 (?_ : EvI X E_X8_buys (if (S 3 x 0) = 0 then 22 else 19, [some (.inr (.inr (some (8, 0, 0)))), some (.inl x), none, none, none, none], [], M) _)
    refine ev_if (fun h16 => ?_) (fun h16 => ?_)
    · have hk := nT_lt hW.2 h5 h16
      refine seg_ok 4 (⟨by omega, ?_⟩ : ((0 : Int) ≤ 9 ∧ (9 : Int) < 589) ∧ EvI X E_X8_buys (29, [some (.inr (.inr (some (8, 0, 0)))), some (.inl x), none, none, none, none], [.inl (M 17 0 0 9)], M) _)
      rw [show (M 17 0 0 9) = (S 5 0 4) from sc9 (hW.1)]
      refine seg_ok 10 (⟨by omega, by omega, ?_⟩ : ((-2147483648 : Int) ≤ (5 * (S 5 0 4)) ∧ (5 * (S 5 0 4)) < 2147483648) ∧ ((-2147483648 : Int) ≤ (489 + (5 * (S 5 0 4))) ∧ (489 + (5 * (S 5 0 4))) < 2147483648) ∧ EvI X E_X8_buys (41, [some (.inr (.inr (some (8, 0, 0)))), some (.inl x), some (.inl (S 5 0 4)), some (.inl (489 + (5 * (S 5 0 4)))), none, none], [.inl 1, .inl x, .inr (.inr (some (8, 0, 0)))], M) _)
      refine ev_clp (v := .inl (S 3 x 1)) (z := z_X8_ofHold) (as := [.inr (.inr (some (8, 0, 0))), .inl x, .inl 1]) (rest := []) rfl (c_ofHold hW.1 (by omega) (by omega)) (?_ : EvI X E_X8_buys (44, [some (.inr (.inr (some (8, 0, 0)))), some (.inl x), some (.inl (S 5 0 4)), some (.inl (489 + (5 * (S 5 0 4)))), none, none], [.inl (S 3 x 1)], M) _)
      refine seg_ok 4 (?_ : EvI X E_X8_buys (49, [some (.inr (.inr (some (8, 0, 0)))), some (.inl x), some (.inl (S 5 0 4)), some (.inl (489 + (5 * (S 5 0 4)))), some (.inl (S 3 x 1)), none], [.inl 2, .inl x, .inr (.inr (some (8, 0, 0)))], M) _)
      refine ev_clp (v := .inl (S 3 x 2)) (z := z_X8_ofHold) (as := [.inr (.inr (some (8, 0, 0))), .inl x, .inl 2]) (rest := []) rfl (c_ofHold hW.1 (by omega) (by omega)) (?_ : EvI X E_X8_buys (52, [some (.inr (.inr (some (8, 0, 0)))), some (.inl x), some (.inl (S 5 0 4)), some (.inl (489 + (5 * (S 5 0 4)))), some (.inl (S 3 x 1)), none], [.inl (S 3 x 2)], M) _)
      refine seg_ok 8 (⟨by omega, ?_⟩ : ((0 : Int) ≤ 1 ∧ (1 : Int) < 589) ∧ EvI X E_X8_buys (65, [some (.inr (.inr (some (8, 0, 0)))), some (.inl x), some (.inl (S 5 0 4)), some (.inl (489 + (5 * (S 5 0 4)))), some (.inl (S 3 x 1)), some (.inl (S 3 x 2))], [.inl (M 17 0 0 1), .inl (489 + (5 * (S 5 0 4))), .inr (.inr (some (17, 0, 0)))], M) _)
      rw [show (M 17 0 0 1) = (S 5 0 6) from sc1 (hW.1)]
      refine seg_ok 2 (?_ : EvI X E_X8_buys (if (S 5 0 6) = 1 then 69 else 73, [some (.inr (.inr (some (8, 0, 0)))), some (.inl x), some (.inl (S 5 0 4)), some (.inl (489 + (5 * (S 5 0 4)))), some (.inl (S 3 x 1)), some (.inl (S 3 x 2))], [.inl (489 + (5 * (S 5 0 4))), .inr (.inr (some (17, 0, 0)))], M) _)
      refine ev_if (fun h66 => ?_) (fun h66 => ?_)
      · refine seg_ok 28 (⟨by omega, by omega, by omega, by omega, by omega, by omega, by omega, ?_⟩ : ((0 : Int) ≤ (489 + (5 * (S 5 0 4))) ∧ (489 + (5 * (S 5 0 4))) < 589) ∧ ((-2147483648 : Int) ≤ ((489 + (5 * (S 5 0 4))) + 1) ∧ ((489 + (5 * (S 5 0 4))) + 1) < 2147483648) ∧ ((0 : Int) ≤ ((489 + (5 * (S 5 0 4))) + 1) ∧ ((489 + (5 * (S 5 0 4))) + 1) < 589) ∧ ((-2147483648 : Int) ≤ ((489 + (5 * (S 5 0 4))) + 2) ∧ ((489 + (5 * (S 5 0 4))) + 2) < 2147483648) ∧ ((0 : Int) ≤ ((489 + (5 * (S 5 0 4))) + 2) ∧ ((489 + (5 * (S 5 0 4))) + 2) < 589) ∧ ((-2147483648 : Int) ≤ ((489 + (5 * (S 5 0 4))) + 3) ∧ ((489 + (5 * (S 5 0 4))) + 3) < 2147483648) ∧ ((0 : Int) ≤ (S 3 x 1) ∧ (0 : Int) < 100) ∧ EvI X E_X8_buys (111, [some (.inr (.inr (some (8, 0, 0)))), some (.inl x), some (.inl (S 5 0 4)), some (.inl (489 + (5 * (S 5 0 4)))), some (.inl (S 3 x 1)), some (.inl (S 3 x 2))], [.inl 2, .inl ((S 3 x 1) / 100), .inr (.inr (some (8, 0, 0))), .inl (S 3 x 2), .inl ((489 + (5 * (S 5 0 4))) + 3), .inr (.inr (some (17, 0, 0)))], (wri (wri (wri M 17 0 0 (489 + (5 * (S 5 0 4))) 2) 17 0 0 ((489 + (5 * (S 5 0 4))) + 1) (S 3 x 1)) 17 0 0 ((489 + (5 * (S 5 0 4))) + 2) (S 3 x 2))) _)
        refine ev_clp (v := .inl (S 0 ((S 3 x 1) / 100) 2)) (z := z_X8_of) (as := [.inr (.inr (some (8, 0, 0))), .inl ((S 3 x 1) / 100), .inl 2]) (rest := [.inl (S 3 x 2), .inl ((489 + (5 * (S 5 0 4))) + 3), .inr (.inr (some (17, 0, 0)))]) rfl (c_of (RR_tick (RR_tick (RR_tick0 (hW.1) (by omega)) (by omega) (by omega)) (by omega) (by omega)) (by omega) (by omega)) (?_ : EvI X E_X8_buys (114, [some (.inr (.inr (some (8, 0, 0)))), some (.inl x), some (.inl (S 5 0 4)), some (.inl (489 + (5 * (S 5 0 4)))), some (.inl (S 3 x 1)), some (.inl (S 3 x 2))], [.inl (S 0 ((S 3 x 1) / 100) 2), .inl (S 3 x 2), .inl ((489 + (5 * (S 5 0 4))) + 3), .inr (.inr (some (17, 0, 0)))], (wri (wri (wri M 17 0 0 (489 + (5 * (S 5 0 4))) 2) 17 0 0 ((489 + (5 * (S 5 0 4))) + 1) (S 3 x 1)) 17 0 0 ((489 + (5 * (S 5 0 4))) + 2) (S 3 x 2))) _)
        refine seg_ok 14 (⟨by omega, by omega, by omega, by omega, by omega, ?_⟩ : ((-2147483648 : Int) ≤ ((S 3 x 2) * (S 0 ((S 3 x 1) / 100) 2)) ∧ ((S 3 x 2) * (S 0 ((S 3 x 1) / 100) 2)) < 2147483648) ∧ ((0 : Int) ≤ ((489 + (5 * (S 5 0 4))) + 3) ∧ ((489 + (5 * (S 5 0 4))) + 3) < 589) ∧ ((-2147483648 : Int) ≤ ((489 + (5 * (S 5 0 4))) + 4) ∧ ((489 + (5 * (S 5 0 4))) + 4) < 2147483648) ∧ ((0 : Int) ≤ ((489 + (5 * (S 5 0 4))) + 4) ∧ ((489 + (5 * (S 5 0 4))) + 4) < 589) ∧ ((0 : Int) ≤ 2 ∧ (2 : Int) < 589) ∧ EvI X E_X8_buys (132, [some (.inr (.inr (some (8, 0, 0)))), some (.inl x), some (.inl (S 5 0 4)), some (.inl (489 + (5 * (S 5 0 4)))), some (.inl (S 3 x 1)), some (.inl (S 3 x 2))], [.inl ((wri (wri (wri (wri (wri M 17 0 0 (489 + (5 * (S 5 0 4))) 2) 17 0 0 ((489 + (5 * (S 5 0 4))) + 1) (S 3 x 1)) 17 0 0 ((489 + (5 * (S 5 0 4))) + 2) (S 3 x 2)) 17 0 0 ((489 + (5 * (S 5 0 4))) + 3) ((S 3 x 2) * (S 0 ((S 3 x 1) / 100) 2))) 17 0 0 ((489 + (5 * (S 5 0 4))) + 4) 0) 17 0 0 2), .inl 2, .inr (.inr (some (17, 0, 0)))], (wri (wri (wri (wri (wri M 17 0 0 (489 + (5 * (S 5 0 4))) 2) 17 0 0 ((489 + (5 * (S 5 0 4))) + 1) (S 3 x 1)) 17 0 0 ((489 + (5 * (S 5 0 4))) + 2) (S 3 x 2)) 17 0 0 ((489 + (5 * (S 5 0 4))) + 3) ((S 3 x 2) * (S 0 ((S 3 x 1) / 100) 2))) 17 0 0 ((489 + (5 * (S 5 0 4))) + 4) 0)) _)
        rw [show ((wri (wri (wri (wri (wri M 17 0 0 (489 + (5 * (S 5 0 4))) 2) 17 0 0 ((489 + (5 * (S 5 0 4))) + 1) (S 3 x 1)) 17 0 0 ((489 + (5 * (S 5 0 4))) + 2) (S 3 x 2)) 17 0 0 ((489 + (5 * (S 5 0 4))) + 3) ((S 3 x 2) * (S 0 ((S 3 x 1) / 100) 2))) 17 0 0 ((489 + (5 * (S 5 0 4))) + 4) 0) 17 0 0 2) = (S 5 0 7) from (wri_nes (by omega)).trans ((wri_nes (by omega)).trans ((wri_nes (by omega)).trans ((wri_nes (by omega)).trans ((wri_nes (by omega)).trans (sc2 (hW.1))))))]
        refine seg_ok 6 (⟨by omega, by omega, ?_⟩ : ((-2147483648 : Int) ≤ ((489 + (5 * (S 5 0 4))) + 3) ∧ ((489 + (5 * (S 5 0 4))) + 3) < 2147483648) ∧ ((0 : Int) ≤ ((489 + (5 * (S 5 0 4))) + 3) ∧ ((489 + (5 * (S 5 0 4))) + 3) < 589) ∧ EvI X E_X8_buys (140, [some (.inr (.inr (some (8, 0, 0)))), some (.inl x), some (.inl (S 5 0 4)), some (.inl (489 + (5 * (S 5 0 4)))), some (.inl (S 3 x 1)), some (.inl (S 3 x 2))], [.inl ((wri (wri (wri (wri (wri M 17 0 0 (489 + (5 * (S 5 0 4))) 2) 17 0 0 ((489 + (5 * (S 5 0 4))) + 1) (S 3 x 1)) 17 0 0 ((489 + (5 * (S 5 0 4))) + 2) (S 3 x 2)) 17 0 0 ((489 + (5 * (S 5 0 4))) + 3) ((S 3 x 2) * (S 0 ((S 3 x 1) / 100) 2))) 17 0 0 ((489 + (5 * (S 5 0 4))) + 4) 0) 17 0 0 ((489 + (5 * (S 5 0 4))) + 3)), .inl (S 5 0 7), .inl 2, .inr (.inr (some (17, 0, 0)))], (wri (wri (wri (wri (wri M 17 0 0 (489 + (5 * (S 5 0 4))) 2) 17 0 0 ((489 + (5 * (S 5 0 4))) + 1) (S 3 x 1)) 17 0 0 ((489 + (5 * (S 5 0 4))) + 2) (S 3 x 2)) 17 0 0 ((489 + (5 * (S 5 0 4))) + 3) ((S 3 x 2) * (S 0 ((S 3 x 1) / 100) 2))) 17 0 0 ((489 + (5 * (S 5 0 4))) + 4) 0)) _)
        rw [show ((wri (wri (wri (wri (wri M 17 0 0 (489 + (5 * (S 5 0 4))) 2) 17 0 0 ((489 + (5 * (S 5 0 4))) + 1) (S 3 x 1)) 17 0 0 ((489 + (5 * (S 5 0 4))) + 2) (S 3 x 2)) 17 0 0 ((489 + (5 * (S 5 0 4))) + 3) ((S 3 x 2) * (S 0 ((S 3 x 1) / 100) 2))) 17 0 0 ((489 + (5 * (S 5 0 4))) + 4) 0) 17 0 0 ((489 + (5 * (S 5 0 4))) + 3)) = ((S 3 x 2) * (S 0 ((S 3 x 1) / 100) 2)) from (wri_nes (by omega)).trans (wri_eq)]
        refine seg_ok 7 (⟨by omega, by omega, by omega, ?_⟩ : ((-2147483648 : Int) ≤ ((S 5 0 7) + ((S 3 x 2) * (S 0 ((S 3 x 1) / 100) 2))) ∧ ((S 5 0 7) + ((S 3 x 2) * (S 0 ((S 3 x 1) / 100) 2))) < 2147483648) ∧ ((0 : Int) ≤ 2 ∧ (2 : Int) < 589) ∧ ((0 : Int) ≤ 9 ∧ (9 : Int) < 589) ∧ EvI X E_X8_buys (150, [some (.inr (.inr (some (8, 0, 0)))), some (.inl x), some (.inl (S 5 0 4)), some (.inl (489 + (5 * (S 5 0 4)))), some (.inl (S 3 x 1)), some (.inl (S 3 x 2))], [.inl ((wri (wri (wri (wri (wri (wri M 17 0 0 (489 + (5 * (S 5 0 4))) 2) 17 0 0 ((489 + (5 * (S 5 0 4))) + 1) (S 3 x 1)) 17 0 0 ((489 + (5 * (S 5 0 4))) + 2) (S 3 x 2)) 17 0 0 ((489 + (5 * (S 5 0 4))) + 3) ((S 3 x 2) * (S 0 ((S 3 x 1) / 100) 2))) 17 0 0 ((489 + (5 * (S 5 0 4))) + 4) 0) 17 0 0 2 ((S 5 0 7) + ((S 3 x 2) * (S 0 ((S 3 x 1) / 100) 2)))) 17 0 0 9), .inl 9, .inr (.inr (some (17, 0, 0)))], (wri (wri (wri (wri (wri (wri M 17 0 0 (489 + (5 * (S 5 0 4))) 2) 17 0 0 ((489 + (5 * (S 5 0 4))) + 1) (S 3 x 1)) 17 0 0 ((489 + (5 * (S 5 0 4))) + 2) (S 3 x 2)) 17 0 0 ((489 + (5 * (S 5 0 4))) + 3) ((S 3 x 2) * (S 0 ((S 3 x 1) / 100) 2))) 17 0 0 ((489 + (5 * (S 5 0 4))) + 4) 0) 17 0 0 2 ((S 5 0 7) + ((S 3 x 2) * (S 0 ((S 3 x 1) / 100) 2))))) _)
        rw [show ((wri (wri (wri (wri (wri (wri M 17 0 0 (489 + (5 * (S 5 0 4))) 2) 17 0 0 ((489 + (5 * (S 5 0 4))) + 1) (S 3 x 1)) 17 0 0 ((489 + (5 * (S 5 0 4))) + 2) (S 3 x 2)) 17 0 0 ((489 + (5 * (S 5 0 4))) + 3) ((S 3 x 2) * (S 0 ((S 3 x 1) / 100) 2))) 17 0 0 ((489 + (5 * (S 5 0 4))) + 4) 0) 17 0 0 2 ((S 5 0 7) + ((S 3 x 2) * (S 0 ((S 3 x 1) / 100) 2)))) 17 0 0 9) = (S 5 0 4) from (wri_nes (by omega)).trans ((wri_nes (by omega)).trans ((wri_nes (by omega)).trans ((wri_nes (by omega)).trans ((wri_nes (by omega)).trans ((wri_nes (by omega)).trans (sc9 (hW.1)))))))]
        refine seg_ok 10 (⟨by omega, by omega, by omega, ?_⟩ : ((-2147483648 : Int) ≤ ((S 5 0 4) + 1) ∧ ((S 5 0 4) + 1) < 2147483648) ∧ ((0 : Int) ≤ 9 ∧ (9 : Int) < 589) ∧ ((0 : Int) ≤ 1 ∧ (1 : Int) < 589) ∧ EvI X E_X8_buys (164, [some (.inr (.inr (some (8, 0, 0)))), some (.inl x), some (.inl (S 5 0 4)), some (.inl (489 + (5 * (S 5 0 4)))), some (.inl (S 3 x 1)), some (.inl (S 3 x 2))], [.inl ((wri (wri (wri (wri (wri (wri (wri M 17 0 0 (489 + (5 * (S 5 0 4))) 2) 17 0 0 ((489 + (5 * (S 5 0 4))) + 1) (S 3 x 1)) 17 0 0 ((489 + (5 * (S 5 0 4))) + 2) (S 3 x 2)) 17 0 0 ((489 + (5 * (S 5 0 4))) + 3) ((S 3 x 2) * (S 0 ((S 3 x 1) / 100) 2))) 17 0 0 ((489 + (5 * (S 5 0 4))) + 4) 0) 17 0 0 2 ((S 5 0 7) + ((S 3 x 2) * (S 0 ((S 3 x 1) / 100) 2)))) 17 0 0 9 ((S 5 0 4) + 1)) 17 0 0 1), .inl (S 3 x 2), .inl (S 3 x 1), .inr (.inr (some (8, 0, 0)))], (wri (wri (wri (wri (wri (wri (wri M 17 0 0 (489 + (5 * (S 5 0 4))) 2) 17 0 0 ((489 + (5 * (S 5 0 4))) + 1) (S 3 x 1)) 17 0 0 ((489 + (5 * (S 5 0 4))) + 2) (S 3 x 2)) 17 0 0 ((489 + (5 * (S 5 0 4))) + 3) ((S 3 x 2) * (S 0 ((S 3 x 1) / 100) 2))) 17 0 0 ((489 + (5 * (S 5 0 4))) + 4) 0) 17 0 0 2 ((S 5 0 7) + ((S 3 x 2) * (S 0 ((S 3 x 1) / 100) 2)))) 17 0 0 9 ((S 5 0 4) + 1))) _)
        rw [show ((wri (wri (wri (wri (wri (wri (wri M 17 0 0 (489 + (5 * (S 5 0 4))) 2) 17 0 0 ((489 + (5 * (S 5 0 4))) + 1) (S 3 x 1)) 17 0 0 ((489 + (5 * (S 5 0 4))) + 2) (S 3 x 2)) 17 0 0 ((489 + (5 * (S 5 0 4))) + 3) ((S 3 x 2) * (S 0 ((S 3 x 1) / 100) 2))) 17 0 0 ((489 + (5 * (S 5 0 4))) + 4) 0) 17 0 0 2 ((S 5 0 7) + ((S 3 x 2) * (S 0 ((S 3 x 1) / 100) 2)))) 17 0 0 9 ((S 5 0 4) + 1)) 17 0 0 1) = (S 5 0 6) from (wri_nes (by omega)).trans ((wri_nes (by omega)).trans ((wri_nes (by omega)).trans ((wri_nes (by omega)).trans ((wri_nes (by omega)).trans ((wri_nes (by omega)).trans ((wri_nes (by omega)).trans (sc1 (hW.1))))))))]
        refine seg_ok 2 (?_ : EvI X E_X8_buys (if (S 5 0 6) = 1 then 168 else 172, [some (.inr (.inr (some (8, 0, 0)))), some (.inl x), some (.inl (S 5 0 4)), some (.inl (489 + (5 * (S 5 0 4)))), some (.inl (S 3 x 1)), some (.inl (S 3 x 2))], [.inl (S 3 x 2), .inl (S 3 x 1), .inr (.inr (some (8, 0, 0)))], (wri (wri (wri (wri (wri (wri (wri M 17 0 0 (489 + (5 * (S 5 0 4))) 2) 17 0 0 ((489 + (5 * (S 5 0 4))) + 1) (S 3 x 1)) 17 0 0 ((489 + (5 * (S 5 0 4))) + 2) (S 3 x 2)) 17 0 0 ((489 + (5 * (S 5 0 4))) + 3) ((S 3 x 2) * (S 0 ((S 3 x 1) / 100) 2))) 17 0 0 ((489 + (5 * (S 5 0 4))) + 4) 0) 17 0 0 2 ((S 5 0 7) + ((S 3 x 2) * (S 0 ((S 3 x 1) / 100) 2)))) 17 0 0 9 ((S 5 0 4) + 1))) _)
        refine ev_if (fun h165 => ?_) (fun h165 => ?_)
        · refine seg_ok 2 (?_ : EvI X E_X8_buys (173, [some (.inr (.inr (some (8, 0, 0)))), some (.inl x), some (.inl (S 5 0 4)), some (.inl (489 + (5 * (S 5 0 4)))), some (.inl (S 3 x 1)), some (.inl (S 3 x 2))], [.inl 3, .inl (S 3 x 2), .inl (S 3 x 1), .inr (.inr (some (8, 0, 0)))], (wri (wri (wri (wri (wri (wri (wri M 17 0 0 (489 + (5 * (S 5 0 4))) 2) 17 0 0 ((489 + (5 * (S 5 0 4))) + 1) (S 3 x 1)) 17 0 0 ((489 + (5 * (S 5 0 4))) + 2) (S 3 x 2)) 17 0 0 ((489 + (5 * (S 5 0 4))) + 3) ((S 3 x 2) * (S 0 ((S 3 x 1) / 100) 2))) 17 0 0 ((489 + (5 * (S 5 0 4))) + 4) 0) 17 0 0 2 ((S 5 0 7) + ((S 3 x 2) * (S 0 ((S 3 x 1) / 100) 2)))) 17 0 0 9 ((S 5 0 4) + 1))) _)
          refine ev_cl (z := z_X8_become) (as := [.inr (.inr (some (8, 0, 0))), .inl (S 3 x 1), .inl (S 3 x 2), .inl 3]) (rest := []) rfl (c_become (RR_s9 (RR_s2 (RR_tick (RR_tick (RR_tick (RR_tick (RR_tick0 (hW.1) (by omega)) (by omega) (by omega)) (by omega) (by omega)) (by omega) (by omega)) (by omega) (by omega)))) (BC_of hW.2 (HO_h hW.2 h5)) (by omega) (by omega) (by omega)) ?_
          intro rr M1 hqM1
          obtain ⟨rfl, rM1, uM1, gM1⟩ := hqM1
          show EvI X E_X8_buys (176, [some (.inr (.inr (some (8, 0, 0)))), some (.inl x), some (.inl (S 5 0 4)), some (.inl (489 + (5 * (S 5 0 4)))), some (.inl (S 3 x 1)), some (.inl (S 3 x 2))], [], M1) _
          refine seg_ok 21 (⟨by omega, by omega, by omega, by omega, by omega, by omega, by omega, ?_⟩ : ((-2147483648 : Int) ≤ (5 * x) ∧ (5 * x) < 2147483648) ∧ ((-2147483648 : Int) ≤ (389 + (5 * x)) ∧ (389 + (5 * x)) < 2147483648) ∧ ((0 : Int) ≤ (389 + (5 * x)) ∧ (389 + (5 * x)) < 589) ∧ ((-2147483648 : Int) ≤ (5 * x) ∧ (5 * x) < 2147483648) ∧ ((-2147483648 : Int) ≤ (389 + (5 * x)) ∧ (389 + (5 * x)) < 2147483648) ∧ ((-2147483648 : Int) ≤ ((389 + (5 * x)) + 4) ∧ ((389 + (5 * x)) + 4) < 2147483648) ∧ ((0 : Int) ≤ ((389 + (5 * x)) + 4) ∧ ((389 + (5 * x)) + 4) < 589) ∧ EvI X E_X8_buys (205, [some (.inr (.inr (some (8, 0, 0)))), some (.inl x), some (.inl (S 5 0 4)), some (.inl (489 + (5 * (S 5 0 4)))), some (.inl (S 3 x 1)), some (.inl (S 3 x 2))], [.inl (S 5 0 4)], (wri (wri M1 17 0 0 (389 + (5 * x)) 1) 17 0 0 ((389 + (5 * x)) + 4) (S 5 0 4))) _)
          refine ev_rt (r := some (.inl (S 5 0 4))) rfl (?_)
          have e : opBuy S x = (S 5 0 4, buyS S x) := (cif_f (fun z => z h5)).trans (cif_f (fun z => z h16))
          show _ ∧ RR ((wri (wri M1 17 0 0 (389 + (5 * x)) 1) 17 0 0 ((389 + (5 * x)) + 4) (S 5 0 4)) 17 0 0) _ ∧ (wri (wri M1 17 0 0 (389 + (5 * x)) 1) 17 0 0 ((389 + (5 * x)) + 4) (S 5 0 4)) 17 0 0 4 = M 17 0 0 4 ∧ F17 M (wri (wri M1 17 0 0 (389 + (5 * x)) 1) 17 0 0 ((389 + (5 * x)) + 4) (S 5 0 4))
          exact ⟨rint (by rw [e] <;> first | rfl | (dsimp only; omega)), (RR_eq (RR_hold (RR_hold0 (rM1) (by omega)) (by omega) (by omega)) (by rw [e]; exact buyS_eq (cif_f (by omega)).symm (cif_f (by omega)).symm)), u4_wri (u4_wri (u4_tr uM1 (u4_wri (u4_wri (u4_wri (u4_wri (u4_wri (u4_wri (u4_wri (rfl) (by omega)) (by omega)) (by omega)) (by omega)) (by omega)) (by omega)) (by omega))) (by omega)) (by omega), F17_wri (F17_wri (F17_tr (F17_wri (F17_wri (F17_wri (F17_wri (F17_wri (F17_wri (F17_wri (F17_rf)))))))) gM1))⟩
        · exact absurd h66 h165
      · refine seg_ok 27 (⟨by omega, by omega, by omega, by omega, by omega, by omega, by omega, ?_⟩ : ((0 : Int) ≤ (489 + (5 * (S 5 0 4))) ∧ (489 + (5 * (S 5 0 4))) < 589) ∧ ((-2147483648 : Int) ≤ ((489 + (5 * (S 5 0 4))) + 1) ∧ ((489 + (5 * (S 5 0 4))) + 1) < 2147483648) ∧ ((0 : Int) ≤ ((489 + (5 * (S 5 0 4))) + 1) ∧ ((489 + (5 * (S 5 0 4))) + 1) < 589) ∧ ((-2147483648 : Int) ≤ ((489 + (5 * (S 5 0 4))) + 2) ∧ ((489 + (5 * (S 5 0 4))) + 2) < 2147483648) ∧ ((0 : Int) ≤ ((489 + (5 * (S 5 0 4))) + 2) ∧ ((489 + (5 * (S 5 0 4))) + 2) < 589) ∧ ((-2147483648 : Int) ≤ ((489 + (5 * (S 5 0 4))) + 3) ∧ ((489 + (5 * (S 5 0 4))) + 3) < 2147483648) ∧ ((0 : Int) ≤ (S 3 x 1) ∧ (0 : Int) < 100) ∧ EvI X E_X8_buys (111, [some (.inr (.inr (some (8, 0, 0)))), some (.inl x), some (.inl (S 5 0 4)), some (.inl (489 + (5 * (S 5 0 4)))), some (.inl (S 3 x 1)), some (.inl (S 3 x 2))], [.inl 2, .inl ((S 3 x 1) / 100), .inr (.inr (some (8, 0, 0))), .inl (S 3 x 2), .inl ((489 + (5 * (S 5 0 4))) + 3), .inr (.inr (some (17, 0, 0)))], (wri (wri (wri M 17 0 0 (489 + (5 * (S 5 0 4))) 0) 17 0 0 ((489 + (5 * (S 5 0 4))) + 1) (S 3 x 1)) 17 0 0 ((489 + (5 * (S 5 0 4))) + 2) (S 3 x 2))) _)
        refine ev_clp (v := .inl (S 0 ((S 3 x 1) / 100) 2)) (z := z_X8_of) (as := [.inr (.inr (some (8, 0, 0))), .inl ((S 3 x 1) / 100), .inl 2]) (rest := [.inl (S 3 x 2), .inl ((489 + (5 * (S 5 0 4))) + 3), .inr (.inr (some (17, 0, 0)))]) rfl (c_of (RR_tick (RR_tick (RR_tick0 (hW.1) (by omega)) (by omega) (by omega)) (by omega) (by omega)) (by omega) (by omega)) (?_ : EvI X E_X8_buys (114, [some (.inr (.inr (some (8, 0, 0)))), some (.inl x), some (.inl (S 5 0 4)), some (.inl (489 + (5 * (S 5 0 4)))), some (.inl (S 3 x 1)), some (.inl (S 3 x 2))], [.inl (S 0 ((S 3 x 1) / 100) 2), .inl (S 3 x 2), .inl ((489 + (5 * (S 5 0 4))) + 3), .inr (.inr (some (17, 0, 0)))], (wri (wri (wri M 17 0 0 (489 + (5 * (S 5 0 4))) 0) 17 0 0 ((489 + (5 * (S 5 0 4))) + 1) (S 3 x 1)) 17 0 0 ((489 + (5 * (S 5 0 4))) + 2) (S 3 x 2))) _)
        refine seg_ok 14 (⟨by omega, by omega, by omega, by omega, by omega, ?_⟩ : ((-2147483648 : Int) ≤ ((S 3 x 2) * (S 0 ((S 3 x 1) / 100) 2)) ∧ ((S 3 x 2) * (S 0 ((S 3 x 1) / 100) 2)) < 2147483648) ∧ ((0 : Int) ≤ ((489 + (5 * (S 5 0 4))) + 3) ∧ ((489 + (5 * (S 5 0 4))) + 3) < 589) ∧ ((-2147483648 : Int) ≤ ((489 + (5 * (S 5 0 4))) + 4) ∧ ((489 + (5 * (S 5 0 4))) + 4) < 2147483648) ∧ ((0 : Int) ≤ ((489 + (5 * (S 5 0 4))) + 4) ∧ ((489 + (5 * (S 5 0 4))) + 4) < 589) ∧ ((0 : Int) ≤ 2 ∧ (2 : Int) < 589) ∧ EvI X E_X8_buys (132, [some (.inr (.inr (some (8, 0, 0)))), some (.inl x), some (.inl (S 5 0 4)), some (.inl (489 + (5 * (S 5 0 4)))), some (.inl (S 3 x 1)), some (.inl (S 3 x 2))], [.inl ((wri (wri (wri (wri (wri M 17 0 0 (489 + (5 * (S 5 0 4))) 0) 17 0 0 ((489 + (5 * (S 5 0 4))) + 1) (S 3 x 1)) 17 0 0 ((489 + (5 * (S 5 0 4))) + 2) (S 3 x 2)) 17 0 0 ((489 + (5 * (S 5 0 4))) + 3) ((S 3 x 2) * (S 0 ((S 3 x 1) / 100) 2))) 17 0 0 ((489 + (5 * (S 5 0 4))) + 4) 0) 17 0 0 2), .inl 2, .inr (.inr (some (17, 0, 0)))], (wri (wri (wri (wri (wri M 17 0 0 (489 + (5 * (S 5 0 4))) 0) 17 0 0 ((489 + (5 * (S 5 0 4))) + 1) (S 3 x 1)) 17 0 0 ((489 + (5 * (S 5 0 4))) + 2) (S 3 x 2)) 17 0 0 ((489 + (5 * (S 5 0 4))) + 3) ((S 3 x 2) * (S 0 ((S 3 x 1) / 100) 2))) 17 0 0 ((489 + (5 * (S 5 0 4))) + 4) 0)) _)
        rw [show ((wri (wri (wri (wri (wri M 17 0 0 (489 + (5 * (S 5 0 4))) 0) 17 0 0 ((489 + (5 * (S 5 0 4))) + 1) (S 3 x 1)) 17 0 0 ((489 + (5 * (S 5 0 4))) + 2) (S 3 x 2)) 17 0 0 ((489 + (5 * (S 5 0 4))) + 3) ((S 3 x 2) * (S 0 ((S 3 x 1) / 100) 2))) 17 0 0 ((489 + (5 * (S 5 0 4))) + 4) 0) 17 0 0 2) = (S 5 0 7) from (wri_nes (by omega)).trans ((wri_nes (by omega)).trans ((wri_nes (by omega)).trans ((wri_nes (by omega)).trans ((wri_nes (by omega)).trans (sc2 (hW.1))))))]
        refine seg_ok 6 (⟨by omega, by omega, ?_⟩ : ((-2147483648 : Int) ≤ ((489 + (5 * (S 5 0 4))) + 3) ∧ ((489 + (5 * (S 5 0 4))) + 3) < 2147483648) ∧ ((0 : Int) ≤ ((489 + (5 * (S 5 0 4))) + 3) ∧ ((489 + (5 * (S 5 0 4))) + 3) < 589) ∧ EvI X E_X8_buys (140, [some (.inr (.inr (some (8, 0, 0)))), some (.inl x), some (.inl (S 5 0 4)), some (.inl (489 + (5 * (S 5 0 4)))), some (.inl (S 3 x 1)), some (.inl (S 3 x 2))], [.inl ((wri (wri (wri (wri (wri M 17 0 0 (489 + (5 * (S 5 0 4))) 0) 17 0 0 ((489 + (5 * (S 5 0 4))) + 1) (S 3 x 1)) 17 0 0 ((489 + (5 * (S 5 0 4))) + 2) (S 3 x 2)) 17 0 0 ((489 + (5 * (S 5 0 4))) + 3) ((S 3 x 2) * (S 0 ((S 3 x 1) / 100) 2))) 17 0 0 ((489 + (5 * (S 5 0 4))) + 4) 0) 17 0 0 ((489 + (5 * (S 5 0 4))) + 3)), .inl (S 5 0 7), .inl 2, .inr (.inr (some (17, 0, 0)))], (wri (wri (wri (wri (wri M 17 0 0 (489 + (5 * (S 5 0 4))) 0) 17 0 0 ((489 + (5 * (S 5 0 4))) + 1) (S 3 x 1)) 17 0 0 ((489 + (5 * (S 5 0 4))) + 2) (S 3 x 2)) 17 0 0 ((489 + (5 * (S 5 0 4))) + 3) ((S 3 x 2) * (S 0 ((S 3 x 1) / 100) 2))) 17 0 0 ((489 + (5 * (S 5 0 4))) + 4) 0)) _)
        rw [show ((wri (wri (wri (wri (wri M 17 0 0 (489 + (5 * (S 5 0 4))) 0) 17 0 0 ((489 + (5 * (S 5 0 4))) + 1) (S 3 x 1)) 17 0 0 ((489 + (5 * (S 5 0 4))) + 2) (S 3 x 2)) 17 0 0 ((489 + (5 * (S 5 0 4))) + 3) ((S 3 x 2) * (S 0 ((S 3 x 1) / 100) 2))) 17 0 0 ((489 + (5 * (S 5 0 4))) + 4) 0) 17 0 0 ((489 + (5 * (S 5 0 4))) + 3)) = ((S 3 x 2) * (S 0 ((S 3 x 1) / 100) 2)) from (wri_nes (by omega)).trans (wri_eq)]
        refine seg_ok 7 (⟨by omega, by omega, by omega, ?_⟩ : ((-2147483648 : Int) ≤ ((S 5 0 7) + ((S 3 x 2) * (S 0 ((S 3 x 1) / 100) 2))) ∧ ((S 5 0 7) + ((S 3 x 2) * (S 0 ((S 3 x 1) / 100) 2))) < 2147483648) ∧ ((0 : Int) ≤ 2 ∧ (2 : Int) < 589) ∧ ((0 : Int) ≤ 9 ∧ (9 : Int) < 589) ∧ EvI X E_X8_buys (150, [some (.inr (.inr (some (8, 0, 0)))), some (.inl x), some (.inl (S 5 0 4)), some (.inl (489 + (5 * (S 5 0 4)))), some (.inl (S 3 x 1)), some (.inl (S 3 x 2))], [.inl ((wri (wri (wri (wri (wri (wri M 17 0 0 (489 + (5 * (S 5 0 4))) 0) 17 0 0 ((489 + (5 * (S 5 0 4))) + 1) (S 3 x 1)) 17 0 0 ((489 + (5 * (S 5 0 4))) + 2) (S 3 x 2)) 17 0 0 ((489 + (5 * (S 5 0 4))) + 3) ((S 3 x 2) * (S 0 ((S 3 x 1) / 100) 2))) 17 0 0 ((489 + (5 * (S 5 0 4))) + 4) 0) 17 0 0 2 ((S 5 0 7) + ((S 3 x 2) * (S 0 ((S 3 x 1) / 100) 2)))) 17 0 0 9), .inl 9, .inr (.inr (some (17, 0, 0)))], (wri (wri (wri (wri (wri (wri M 17 0 0 (489 + (5 * (S 5 0 4))) 0) 17 0 0 ((489 + (5 * (S 5 0 4))) + 1) (S 3 x 1)) 17 0 0 ((489 + (5 * (S 5 0 4))) + 2) (S 3 x 2)) 17 0 0 ((489 + (5 * (S 5 0 4))) + 3) ((S 3 x 2) * (S 0 ((S 3 x 1) / 100) 2))) 17 0 0 ((489 + (5 * (S 5 0 4))) + 4) 0) 17 0 0 2 ((S 5 0 7) + ((S 3 x 2) * (S 0 ((S 3 x 1) / 100) 2))))) _)
        rw [show ((wri (wri (wri (wri (wri (wri M 17 0 0 (489 + (5 * (S 5 0 4))) 0) 17 0 0 ((489 + (5 * (S 5 0 4))) + 1) (S 3 x 1)) 17 0 0 ((489 + (5 * (S 5 0 4))) + 2) (S 3 x 2)) 17 0 0 ((489 + (5 * (S 5 0 4))) + 3) ((S 3 x 2) * (S 0 ((S 3 x 1) / 100) 2))) 17 0 0 ((489 + (5 * (S 5 0 4))) + 4) 0) 17 0 0 2 ((S 5 0 7) + ((S 3 x 2) * (S 0 ((S 3 x 1) / 100) 2)))) 17 0 0 9) = (S 5 0 4) from (wri_nes (by omega)).trans ((wri_nes (by omega)).trans ((wri_nes (by omega)).trans ((wri_nes (by omega)).trans ((wri_nes (by omega)).trans ((wri_nes (by omega)).trans (sc9 (hW.1)))))))]
        refine seg_ok 10 (⟨by omega, by omega, by omega, ?_⟩ : ((-2147483648 : Int) ≤ ((S 5 0 4) + 1) ∧ ((S 5 0 4) + 1) < 2147483648) ∧ ((0 : Int) ≤ 9 ∧ (9 : Int) < 589) ∧ ((0 : Int) ≤ 1 ∧ (1 : Int) < 589) ∧ EvI X E_X8_buys (164, [some (.inr (.inr (some (8, 0, 0)))), some (.inl x), some (.inl (S 5 0 4)), some (.inl (489 + (5 * (S 5 0 4)))), some (.inl (S 3 x 1)), some (.inl (S 3 x 2))], [.inl ((wri (wri (wri (wri (wri (wri (wri M 17 0 0 (489 + (5 * (S 5 0 4))) 0) 17 0 0 ((489 + (5 * (S 5 0 4))) + 1) (S 3 x 1)) 17 0 0 ((489 + (5 * (S 5 0 4))) + 2) (S 3 x 2)) 17 0 0 ((489 + (5 * (S 5 0 4))) + 3) ((S 3 x 2) * (S 0 ((S 3 x 1) / 100) 2))) 17 0 0 ((489 + (5 * (S 5 0 4))) + 4) 0) 17 0 0 2 ((S 5 0 7) + ((S 3 x 2) * (S 0 ((S 3 x 1) / 100) 2)))) 17 0 0 9 ((S 5 0 4) + 1)) 17 0 0 1), .inl (S 3 x 2), .inl (S 3 x 1), .inr (.inr (some (8, 0, 0)))], (wri (wri (wri (wri (wri (wri (wri M 17 0 0 (489 + (5 * (S 5 0 4))) 0) 17 0 0 ((489 + (5 * (S 5 0 4))) + 1) (S 3 x 1)) 17 0 0 ((489 + (5 * (S 5 0 4))) + 2) (S 3 x 2)) 17 0 0 ((489 + (5 * (S 5 0 4))) + 3) ((S 3 x 2) * (S 0 ((S 3 x 1) / 100) 2))) 17 0 0 ((489 + (5 * (S 5 0 4))) + 4) 0) 17 0 0 2 ((S 5 0 7) + ((S 3 x 2) * (S 0 ((S 3 x 1) / 100) 2)))) 17 0 0 9 ((S 5 0 4) + 1))) _)
        rw [show ((wri (wri (wri (wri (wri (wri (wri M 17 0 0 (489 + (5 * (S 5 0 4))) 0) 17 0 0 ((489 + (5 * (S 5 0 4))) + 1) (S 3 x 1)) 17 0 0 ((489 + (5 * (S 5 0 4))) + 2) (S 3 x 2)) 17 0 0 ((489 + (5 * (S 5 0 4))) + 3) ((S 3 x 2) * (S 0 ((S 3 x 1) / 100) 2))) 17 0 0 ((489 + (5 * (S 5 0 4))) + 4) 0) 17 0 0 2 ((S 5 0 7) + ((S 3 x 2) * (S 0 ((S 3 x 1) / 100) 2)))) 17 0 0 9 ((S 5 0 4) + 1)) 17 0 0 1) = (S 5 0 6) from (wri_nes (by omega)).trans ((wri_nes (by omega)).trans ((wri_nes (by omega)).trans ((wri_nes (by omega)).trans ((wri_nes (by omega)).trans ((wri_nes (by omega)).trans ((wri_nes (by omega)).trans (sc1 (hW.1))))))))]
        refine seg_ok 2 (?_ : EvI X E_X8_buys (if (S 5 0 6) = 1 then 168 else 172, [some (.inr (.inr (some (8, 0, 0)))), some (.inl x), some (.inl (S 5 0 4)), some (.inl (489 + (5 * (S 5 0 4)))), some (.inl (S 3 x 1)), some (.inl (S 3 x 2))], [.inl (S 3 x 2), .inl (S 3 x 1), .inr (.inr (some (8, 0, 0)))], (wri (wri (wri (wri (wri (wri (wri M 17 0 0 (489 + (5 * (S 5 0 4))) 0) 17 0 0 ((489 + (5 * (S 5 0 4))) + 1) (S 3 x 1)) 17 0 0 ((489 + (5 * (S 5 0 4))) + 2) (S 3 x 2)) 17 0 0 ((489 + (5 * (S 5 0 4))) + 3) ((S 3 x 2) * (S 0 ((S 3 x 1) / 100) 2))) 17 0 0 ((489 + (5 * (S 5 0 4))) + 4) 0) 17 0 0 2 ((S 5 0 7) + ((S 3 x 2) * (S 0 ((S 3 x 1) / 100) 2)))) 17 0 0 9 ((S 5 0 4) + 1))) _)
        refine ev_if (fun h165 => ?_) (fun h165 => ?_)
        · exact absurd h165 h66
        · refine seg_ok 1 (?_ : EvI X E_X8_buys (173, [some (.inr (.inr (some (8, 0, 0)))), some (.inl x), some (.inl (S 5 0 4)), some (.inl (489 + (5 * (S 5 0 4)))), some (.inl (S 3 x 1)), some (.inl (S 3 x 2))], [.inl 2, .inl (S 3 x 2), .inl (S 3 x 1), .inr (.inr (some (8, 0, 0)))], (wri (wri (wri (wri (wri (wri (wri M 17 0 0 (489 + (5 * (S 5 0 4))) 0) 17 0 0 ((489 + (5 * (S 5 0 4))) + 1) (S 3 x 1)) 17 0 0 ((489 + (5 * (S 5 0 4))) + 2) (S 3 x 2)) 17 0 0 ((489 + (5 * (S 5 0 4))) + 3) ((S 3 x 2) * (S 0 ((S 3 x 1) / 100) 2))) 17 0 0 ((489 + (5 * (S 5 0 4))) + 4) 0) 17 0 0 2 ((S 5 0 7) + ((S 3 x 2) * (S 0 ((S 3 x 1) / 100) 2)))) 17 0 0 9 ((S 5 0 4) + 1))) _)
          refine ev_cl (z := z_X8_become) (as := [.inr (.inr (some (8, 0, 0))), .inl (S 3 x 1), .inl (S 3 x 2), .inl 2]) (rest := []) rfl (c_become (RR_s9 (RR_s2 (RR_tick (RR_tick (RR_tick (RR_tick (RR_tick0 (hW.1) (by omega)) (by omega) (by omega)) (by omega) (by omega)) (by omega) (by omega)) (by omega) (by omega)))) (BC_of hW.2 (HO_h hW.2 h5)) (by omega) (by omega) (by omega)) ?_
          intro rr M2 hqM2
          obtain ⟨rfl, rM2, uM2, gM2⟩ := hqM2
          show EvI X E_X8_buys (176, [some (.inr (.inr (some (8, 0, 0)))), some (.inl x), some (.inl (S 5 0 4)), some (.inl (489 + (5 * (S 5 0 4)))), some (.inl (S 3 x 1)), some (.inl (S 3 x 2))], [], M2) _
          refine seg_ok 21 (⟨by omega, by omega, by omega, by omega, by omega, by omega, by omega, ?_⟩ : ((-2147483648 : Int) ≤ (5 * x) ∧ (5 * x) < 2147483648) ∧ ((-2147483648 : Int) ≤ (389 + (5 * x)) ∧ (389 + (5 * x)) < 2147483648) ∧ ((0 : Int) ≤ (389 + (5 * x)) ∧ (389 + (5 * x)) < 589) ∧ ((-2147483648 : Int) ≤ (5 * x) ∧ (5 * x) < 2147483648) ∧ ((-2147483648 : Int) ≤ (389 + (5 * x)) ∧ (389 + (5 * x)) < 2147483648) ∧ ((-2147483648 : Int) ≤ ((389 + (5 * x)) + 4) ∧ ((389 + (5 * x)) + 4) < 2147483648) ∧ ((0 : Int) ≤ ((389 + (5 * x)) + 4) ∧ ((389 + (5 * x)) + 4) < 589) ∧ EvI X E_X8_buys (205, [some (.inr (.inr (some (8, 0, 0)))), some (.inl x), some (.inl (S 5 0 4)), some (.inl (489 + (5 * (S 5 0 4)))), some (.inl (S 3 x 1)), some (.inl (S 3 x 2))], [.inl (S 5 0 4)], (wri (wri M2 17 0 0 (389 + (5 * x)) 1) 17 0 0 ((389 + (5 * x)) + 4) (S 5 0 4))) _)
          refine ev_rt (r := some (.inl (S 5 0 4))) rfl (?_)
          have e : opBuy S x = (S 5 0 4, buyS S x) := (cif_f (fun z => z h5)).trans (cif_f (fun z => z h16))
          show _ ∧ RR ((wri (wri M2 17 0 0 (389 + (5 * x)) 1) 17 0 0 ((389 + (5 * x)) + 4) (S 5 0 4)) 17 0 0) _ ∧ (wri (wri M2 17 0 0 (389 + (5 * x)) 1) 17 0 0 ((389 + (5 * x)) + 4) (S 5 0 4)) 17 0 0 4 = M 17 0 0 4 ∧ F17 M (wri (wri M2 17 0 0 (389 + (5 * x)) 1) 17 0 0 ((389 + (5 * x)) + 4) (S 5 0 4))
          exact ⟨rint (by rw [e] <;> first | rfl | (dsimp only; omega)), (RR_eq (RR_hold (RR_hold0 (rM2) (by omega)) (by omega) (by omega)) (by rw [e]; exact buyS_eq (cif_t (by omega)).symm (cif_t (by omega)).symm)), u4_wri (u4_wri (u4_tr uM2 (u4_wri (u4_wri (u4_wri (u4_wri (u4_wri (u4_wri (u4_wri (rfl) (by omega)) (by omega)) (by omega)) (by omega)) (by omega)) (by omega)) (by omega))) (by omega)) (by omega), F17_wri (F17_wri (F17_tr (F17_wri (F17_wri (F17_wri (F17_wri (F17_wri (F17_wri (F17_wri (F17_rf)))))))) gM2))⟩
    · refine seg_ok 1 (?_ : EvI X E_X8_buys (21, [some (.inr (.inr (some (8, 0, 0)))), some (.inl x), none, none, none, none], [.inl (-2)], M) _)
      refine ev_rt (r := some (.inl (-2))) rfl (?_)
      have e : opBuy S x = (-2, S) := (cif_f (fun z => z h5)).trans (cif_t h16)
      show _ ∧ RR (M 17 0 0) _ ∧ M 17 0 0 4 = M 17 0 0 4 ∧ F17 M M
      exact ⟨rint (by rw [e] <;> first | rfl | (dsimp only; omega)), (RR_eq (hW.1) (by rw [e])), rfl, F17_rf⟩
theorem c_ends {m : Int} {M : NM} {S : Sl} (hW : RW m M S) {t x v : Int} (ht : 0 ≤ t ∧ t < S 5 0 4) (hv : 0 ≤ v ∧ v ≤ 3) : HT X z_X8_ends [.inr (.inr (some (8, 0, 0))), .inl t, .inl x, .inl v] M (fun rr MM => rr = none ∧ RR (MM 17 0 0) (bec (st S 6 t 0 x) (S 6 t 1) (S 6 t 2) v) ∧ MM 17 0 0 4 = M 17 0 0 4 ∧ F17 M MM) := by
  have hs := hW.1.1
  have hi := hW.2.1
  unfold Iv0 at hi
  have hh := HO_r hW.2 (HO_t hW.2 ht)
  refine ht_of (e := E_X8_ends) rfl (?_ : EvI X E_X8_ends (0, [some (.inr (.inr (some (8, 0, 0)))), some (.inl t), some (.inl x), some (.inl v)], [], M) _)
  refine seg_ok 13 (⟨by omega, by omega, by omega, ?_⟩ : ((-2147483648 : Int) ≤ (5 * t) ∧ (5 * t) < 2147483648) ∧ ((-2147483648 : Int) ≤ (489 + (5 * t)) ∧ (489 + (5 * t)) < 2147483648) ∧ ((0 : Int) ≤ (489 + (5 * t)) ∧ (489 + (5 * t)) < 589) ∧ EvI X E_X8_ends (17, [some (.inr (.inr (some (8, 0, 0)))), some (.inl t), some (.inl x), some (.inl v)], [.inl 1, .inl t, .inr (.inr (some (8, 0, 0))), .inr (.inr (some (8, 0, 0)))], (wri M 17 0 0 (489 + (5 * t)) x)) _)
  refine ev_clp (v := .inl ((st S 6 t 0 x) 6 t 1)) (z := z_X8_ofTicket) (as := [.inr (.inr (some (8, 0, 0))), .inl t, .inl 1]) (rest := [.inr (.inr (some (8, 0, 0)))]) rfl (c_ofTicket (RR_tick0 (hW.1) (by omega)) (by omega) (by omega)) (?_ : EvI X E_X8_ends (20, [some (.inr (.inr (some (8, 0, 0)))), some (.inl t), some (.inl x), some (.inl v)], [.inl ((st S 6 t 0 x) 6 t 1), .inr (.inr (some (8, 0, 0)))], (wri M 17 0 0 (489 + (5 * t)) x)) _)
  rw [show ((st S 6 t 0 x) 6 t 1) = (S 6 t 1) from st_nes (by decide)]
  refine seg_ok 3 (?_ : EvI X E_X8_ends (23, [some (.inr (.inr (some (8, 0, 0)))), some (.inl t), some (.inl x), some (.inl v)], [.inl 2, .inl t, .inr (.inr (some (8, 0, 0))), .inl (S 6 t 1), .inr (.inr (some (8, 0, 0)))], (wri M 17 0 0 (489 + (5 * t)) x)) _)
  refine ev_clp (v := .inl ((st S 6 t 0 x) 6 t 2)) (z := z_X8_ofTicket) (as := [.inr (.inr (some (8, 0, 0))), .inl t, .inl 2]) (rest := [.inl (S 6 t 1), .inr (.inr (some (8, 0, 0)))]) rfl (c_ofTicket (RR_tick0 (hW.1) (by omega)) (by omega) (by omega)) (?_ : EvI X E_X8_ends (26, [some (.inr (.inr (some (8, 0, 0)))), some (.inl t), some (.inl x), some (.inl v)], [.inl ((st S 6 t 0 x) 6 t 2), .inl (S 6 t 1), .inr (.inr (some (8, 0, 0)))], (wri M 17 0 0 (489 + (5 * t)) x)) _)
  rw [show ((st S 6 t 0 x) 6 t 2) = (S 6 t 2) from st_nes (by decide)]
  refine seg_ok 1 (?_ : EvI X E_X8_ends (27, [some (.inr (.inr (some (8, 0, 0)))), some (.inl t), some (.inl x), some (.inl v)], [.inl v, .inl (S 6 t 2), .inl (S 6 t 1), .inr (.inr (some (8, 0, 0)))], (wri M 17 0 0 (489 + (5 * t)) x)) _)
  refine ev_cl (z := z_X8_become) (as := [.inr (.inr (some (8, 0, 0))), .inl (S 6 t 1), .inl (S 6 t 2), .inl v]) (rest := []) rfl (c_become (RR_tick0 (hW.1) (by omega)) (BC_of hW.2 (HO_t hW.2 ht)) (by omega) (by omega) (by omega)) ?_
  intro rr M1 hqM1
  obtain ⟨rfl, rM1, uM1, gM1⟩ := hqM1
  show EvI X E_X8_ends (30, [some (.inr (.inr (some (8, 0, 0)))), some (.inl t), some (.inl x), some (.inl v)], [], M1) _
  refine ev_rt (r := none) rfl (?_)
  exact ⟨rfl, rM1, u4_tr uM1 (u4_wri (rfl) (by omega)), F17_tr (F17_wri (F17_rf)) gM1⟩
theorem whN_iff {S : Sl} {t : Int} : whN S t = 0 ↔ (0 ≤ t ∧ t < S 5 0 4) ∧ S 6 t 0 = 0 := by
  unfold whN
  by_cases h : 0 ≤ t ∧ t < S 5 0 4
  · by_cases k : S 6 t 0 = 0
    · rw [cif_f (fun z => z h), cif_f (fun z => z k)]; exact ⟨fun _ => ⟨h, k⟩, fun _ => rfl⟩
    · rw [cif_f (fun z => z h), cif_t k]; exact ⟨fun z => by omega, fun z => absurd z.2 k⟩
  · rw [cif_t h]; exact ⟨fun z => by omega, fun z => absurd z.1 h⟩
theorem opBack_no {S : Sl} {t : Int} (h : ¬ whN S t = 0) : opBack S t = (whN S t, S) := by
  unfold opBack whN
  by_cases k : ¬ (0 ≤ t ∧ t < S 5 0 4)
  · rw [cif_t k, cif_t k]
  · rw [cif_f k, cif_f k]
    by_cases q : S 6 t 0 ≠ 0
    · rw [cif_t q, cif_t q]
    · exact absurd (whN_iff.mpr ⟨Classical.not_not.mp k, Classical.not_not.mp q⟩) h
theorem opIn_no {S : Sl} {t : Int} (h : ¬ whN S t = 0) : opIn S t = (whN S t, S) := by
  unfold opIn whN
  by_cases k : ¬ (0 ≤ t ∧ t < S 5 0 4)
  · rw [cif_t k, cif_t k]
  · rw [cif_f k, cif_f k]
    by_cases q : S 6 t 0 ≠ 0
    · rw [cif_t q, cif_t q]
    · exact absurd (whN_iff.mpr ⟨Classical.not_not.mp k, Classical.not_not.mp q⟩) h
theorem c_givesBack {m : Int} {M : NM} {S : Sl} (hW : RW m M S) {x : Int} : HT X z_X8_givesBack [.inr (.inr (some (8, 0, 0))), .inl x] M (fun rr MM => rr = some (.inl (opBack S x).1) ∧ RR (MM 17 0 0) (opBack S x).2 ∧ MM 17 0 0 4 = M 17 0 0 4 ∧ F17 M MM) := by
  have hs := hW.1.1
  have hi := hW.2.1
  unfold Iv0 at hi
  refine ht_of (e := E_X8_givesBack) rfl (?_ : EvI X E_X8_givesBack (0, [some (.inr (.inr (some (8, 0, 0)))), some (.inl x), none], [], M) _)
  refine seg_ok 2 (?_ : EvI X E_X8_givesBack (2, [some (.inr (.inr (some (8, 0, 0)))), some (.inl x), none], [.inl x, .inr (.inr (some (8, 0, 0)))], M) _)
  refine ev_clp (v := .inl (whN S x)) (z := z_X8_whyNot) (as := [.inr (.inr (some (8, 0, 0))), .inl x]) (rest := []) rfl (c_whyNot hW) (?_ : EvI X E_X8_givesBack (5, [some (.inr (.inr (some (8, 0, 0)))), some (.inl x), none], [.inl (whN S x)], M) _)
  refine seg_ok 1 (?_ : EvI X E_X8_givesBack (if (whN S x) = 0 then 14 else 8, [some (.inr (.inr (some (8, 0, 0)))), some (.inl x), none], [], M) _)
  refine ev_if (fun h5 => ?_) (fun h5 => ?_)
  · have h := whN_iff.mp h5
    have htt := hW.2.2.2.2.2.1 x h.1.1 h.1.2
    refine seg_ok 4 (?_ : EvI X E_X8_givesBack (18, [some (.inr (.inr (some (8, 0, 0)))), some (.inl x), none], [.inl 0, .inl 1, .inl x, .inr (.inr (some (8, 0, 0)))], M) _)
    refine ev_cl (z := z_X8_ends) (as := [.inr (.inr (some (8, 0, 0))), .inl x, .inl 1, .inl 0]) (rest := []) rfl (c_ends hW h.1 (by omega)) ?_
    intro rr M1 hqM1
    obtain ⟨rfl, rM1, uM1, gM1⟩ := hqM1
    show EvI X E_X8_givesBack (21, [some (.inr (.inr (some (8, 0, 0)))), some (.inl x), none], [], M1) _
    refine seg_ok 4 (?_ : EvI X E_X8_givesBack (25, [some (.inr (.inr (some (8, 0, 0)))), some (.inl x), none], [.inl 3, .inl x, .inr (.inr (some (8, 0, 0))), .inl 3], M1) _)
    refine ev_clp (v := .inl ((bec (st S 6 x 0 1) (S 6 x 1) (S 6 x 2) 0) 6 x 3)) (z := z_X8_ofTicket) (as := [.inr (.inr (some (8, 0, 0))), .inl x, .inl 3]) (rest := [.inl 3]) rfl (c_ofTicket rM1 (by omega) (by omega)) (?_ : EvI X E_X8_givesBack (28, [some (.inr (.inr (some (8, 0, 0)))), some (.inl x), none], [.inl ((bec (st S 6 x 0 1) (S 6 x 1) (S 6 x 2) 0) 6 x 3), .inl 3], M1) _)
    rw [show ((bec (st S 6 x 0 1) (S 6 x 1) (S 6 x 2) 0) 6 x 3) = (S 6 x 3) from st_nes (by decide)]
    refine seg_ok 9 (⟨by omega, by omega, by omega, ?_⟩ : ((-2147483648 : Int) ≤ (3 * (S 6 x 3)) ∧ (3 * (S 6 x 3)) < 2147483648) ∧ ((0 : Int) ≤ (3 * (S 6 x 3)) ∧ (0 : Int) < 4) ∧ ((0 : Int) ≤ 3 ∧ (3 : Int) < 589) ∧ EvI X E_X8_givesBack (39, [some (.inr (.inr (some (8, 0, 0)))), some (.inl x), some (.inl ((3 * (S 6 x 3)) / 4))], [.inl (M1 17 0 0 3), .inl 3, .inr (.inr (some (17, 0, 0)))], M1) _)
    rw [show (M1 17 0 0 3) = (S 5 0 8) from (sc3 (rM1)).trans rfl]
    refine seg_ok 4 (⟨by omega, by omega, ?_⟩ : ((-2147483648 : Int) ≤ ((S 5 0 8) + ((3 * (S 6 x 3)) / 4)) ∧ ((S 5 0 8) + ((3 * (S 6 x 3)) / 4)) < 2147483648) ∧ ((0 : Int) ≤ 3 ∧ (3 : Int) < 589) ∧ EvI X E_X8_givesBack (43, [some (.inr (.inr (some (8, 0, 0)))), some (.inl x), some (.inl ((3 * (S 6 x 3)) / 4))], [.inl ((3 * (S 6 x 3)) / 4)], (wri M1 17 0 0 3 ((S 5 0 8) + ((3 * (S 6 x 3)) / 4)))) _)
    refine ev_rt (r := some (.inl ((3 * (S 6 x 3)) / 4))) rfl (?_)
    have e : opBack S x = (S 6 x 3 * 3 / 4, bec (st (st S 6 x 0 1) 5 0 8 (S 5 0 8 + S 6 x 3 * 3 / 4)) (S 6 x 1) (S 6 x 2) 0) := (cif_f (fun z => z h.1)).trans (cif_f (fun z => z h.2))
    show _ ∧ RR ((wri M1 17 0 0 3 ((S 5 0 8) + ((3 * (S 6 x 3)) / 4))) 17 0 0) _ ∧ (wri M1 17 0 0 3 ((S 5 0 8) + ((3 * (S 6 x 3)) / 4))) 17 0 0 4 = M 17 0 0 4 ∧ F17 M (wri M1 17 0 0 3 ((S 5 0 8) + ((3 * (S 6 x 3)) / 4)))
    exact ⟨rint (by rw [e] <;> first | rfl | (dsimp only; omega)), (RR_eq (RR_s3 (rM1)) (by rw [e]; show bec (st (st S 6 x 0 1) 5 0 8 _) _ _ _ = st (bec (st S 6 x 0 1) _ _ _) 5 0 8 _; rw [st_bec (K := 5) (by decide), Int.mul_comm 3])), u4_wri (u4_tr uM1 (rfl)) (by omega), F17_wri (F17_tr (F17_rf) gM1)⟩
  · refine seg_ok 2 (?_ : EvI X E_X8_givesBack (10, [some (.inr (.inr (some (8, 0, 0)))), some (.inl x), none], [.inl x, .inr (.inr (some (8, 0, 0)))], M) _)
    refine ev_clp (v := .inl (whN S x)) (z := z_X8_whyNot) (as := [.inr (.inr (some (8, 0, 0))), .inl x]) (rest := []) rfl (c_whyNot hW) (?_ : EvI X E_X8_givesBack (13, [some (.inr (.inr (some (8, 0, 0)))), some (.inl x), none], [.inl (whN S x)], M) _)
    refine ev_rt (r := some (.inl (whN S x))) rfl (?_)
    have e : opBack S x = (whN S x, S) := opBack_no h5
    show _ ∧ RR (M 17 0 0) _ ∧ M 17 0 0 4 = M 17 0 0 4 ∧ F17 M M
    exact ⟨rint (by rw [e] <;> first | rfl | (dsimp only; omega)), (RR_eq (hW.1) (by rw [e])), rfl, F17_rf⟩
theorem c_comes {m : Int} {M : NM} {S : Sl} (hW : RW m M S) (hm : m + 1 ≤ 62000) {x : Int} : HT X z_X8_comes [.inr (.inr (some (8, 0, 0))), .inl x] M (fun rr MM => rr = some (.inl (opIn S x).1) ∧ RR (MM 17 0 0) (opIn S x).2 ∧ MM 17 0 0 4 = M 17 0 0 4 ∧ F17 M MM) := by
  have hs := hW.1.1
  have hi := hW.2.1
  unfold Iv0 at hi
  refine ht_of (e := E_X8_comes) rfl (?_ : EvI X E_X8_comes (0, [some (.inr (.inr (some (8, 0, 0)))), some (.inl x)], [], M) _)
  refine seg_ok 2 (?_ : EvI X E_X8_comes (2, [some (.inr (.inr (some (8, 0, 0)))), some (.inl x)], [.inl x, .inr (.inr (some (8, 0, 0)))], M) _)
  refine ev_clp (v := .inl (whN S x)) (z := z_X8_whyNot) (as := [.inr (.inr (some (8, 0, 0))), .inl x]) (rest := []) rfl (c_whyNot hW) (?_ : EvI X E_X8_comes (5, [some (.inr (.inr (some (8, 0, 0)))), some (.inl x)], [.inl (whN S x)], M) _)
  refine seg_ok 1 (?_ : EvI X E_X8_comes (if (whN S x) = 0 then 14 else 8, [some (.inr (.inr (some (8, 0, 0)))), some (.inl x)], [], M) _)
  refine ev_if (fun h5 => ?_) (fun h5 => ?_)
  · have h := whN_iff.mp h5
    have hI2 := Inv_in hW.2 hm h.1 h.2
    refine seg_ok 4 (?_ : EvI X E_X8_comes (18, [some (.inr (.inr (some (8, 0, 0)))), some (.inl x)], [.inl 3, .inl 2, .inl x, .inr (.inr (some (8, 0, 0)))], M) _)
    refine ev_cl (z := z_X8_ends) (as := [.inr (.inr (some (8, 0, 0))), .inl x, .inl 2, .inl 3]) (rest := []) rfl (c_ends hW h.1 (by omega)) ?_
    intro rr M1 hqM1
    obtain ⟨rfl, rM1, uM1, gM1⟩ := hqM1
    show EvI X E_X8_comes (21, [some (.inr (.inr (some (8, 0, 0)))), some (.inl x)], [], M1) _
    refine seg_ok 2 (?_ : EvI X E_X8_comes (23, [some (.inr (.inr (some (8, 0, 0)))), some (.inl x)], [.inl 4, .inr (.inr (some (8, 0, 0)))], M1) _)
    refine ev_clp (v := .inl (ctA (inS S x) (fun c => (4 : Int) = 0 ∨ isN (inS S x) c = 4))) (z := z_X8_countedAll) (as := [.inr (.inr (some (8, 0, 0))), .inl 4]) (rest := []) rfl (c_countedAll (m := m + 1) (S := inS S x) ⟨rM1, hI2⟩) (?_ : EvI X E_X8_comes (26, [some (.inr (.inr (some (8, 0, 0)))), some (.inl x)], [.inl (ctA (inS S x) (fun c => (4 : Int) = 0 ∨ isN (inS S x) c = 4))], M1) _)
    refine ev_rt (r := some (.inl (ctA (inS S x) (fun c => (4 : Int) = 0 ∨ isN (inS S x) c = 4)))) rfl (?_)
    have e : opIn S x = (ctA (inS S x) (fun c => (4 : Int) = 0 ∨ isN (inS S x) c = 4), inS S x) := ((cif_f (fun z => z h.1)).trans (cif_f (fun z => z h.2))).trans (by rw [ctA_in hI2])
    show _ ∧ RR (M1 17 0 0) _ ∧ M1 17 0 0 4 = M 17 0 0 4 ∧ F17 M M1
    exact ⟨rint (by rw [e] <;> first | rfl | (dsimp only; omega)), (RR_eq (rM1) (by rw [e]; rfl)), u4_tr uM1 (rfl), F17_tr (F17_rf) gM1⟩
  · refine seg_ok 2 (?_ : EvI X E_X8_comes (10, [some (.inr (.inr (some (8, 0, 0)))), some (.inl x)], [.inl x, .inr (.inr (some (8, 0, 0)))], M) _)
    refine ev_clp (v := .inl (whN S x)) (z := z_X8_whyNot) (as := [.inr (.inr (some (8, 0, 0))), .inl x]) (rest := []) rfl (c_whyNot hW) (?_ : EvI X E_X8_comes (13, [some (.inr (.inr (some (8, 0, 0)))), some (.inl x)], [.inl (whN S x)], M) _)
    refine ev_rt (r := some (.inl (whN S x))) rfl (?_)
    have e : opIn S x = (whN S x, S) := opIn_no h5
    show _ ∧ RR (M 17 0 0) _ ∧ M 17 0 0 4 = M 17 0 0 4 ∧ F17 M M
    exact ⟨rint (by rw [e] <;> first | rfl | (dsimp only; omega)), (RR_eq (hW.1) (by rw [e])), rfl, F17_rf⟩
theorem tk_iff {m : Int} {S : Sl} (hI : Inv m S) {s : Int} (hs : 0 ≤ s ∧ s < S 1 0 4) : 0 < ctA S (fun c => fo S s c ∧ ¬ ((0 : Int) ≠ 0 ∧ kl S c) ∧ ¬ ((1 : Int) ≠ 0 ∧ S 13 0 c = 0)) ↔ ∃ c : Int, 0 ≤ c ∧ c < 600 ∧ andI (S 14 0 c) (shlI 1 s) ≠ 0 ∧ S 13 0 c ≠ 0 := by
  have h4 := hI.1.2.2.1
  rw [ex_tk hI (by omega), ctA_cg hI (P := fun c => fo S s c ∧ ¬ ((0 : Int) ≠ 0 ∧ kl S c) ∧ ¬ ((1 : Int) ≠ 0 ∧ S 13 0 c = 0)) (Q := fun c => fo S s c ∧ ¬ S 13 0 c = 0) (fun c hc => ⟨fun z => ⟨z.1, fun y => z.2.2 ⟨by decide, y⟩⟩, fun z => ⟨z.1, fun y => y.1 rfl, fun y => z.2 y.2⟩⟩)]
theorem c_puts {m : Int} {M : NM} {S : Sl} (hW : RW m M S) {x : Int} : HT X z_X8_puts [.inr (.inr (some (8, 0, 0))), .inl x] M (fun rr MM => rr = some (.inl (opUp S x).1) ∧ RR (MM 17 0 0) (opUp S x).2 ∧ MM 17 0 0 4 = M 17 0 0 4 ∧ F17 M MM) := by
  have hs := hW.1.1
  have hi := hW.2.1
  unfold Iv0 at hi
  refine ht_of (e := E_X8_puts) rfl (?_ : EvI X E_X8_puts (0, [some (.inr (.inr (some (8, 0, 0)))), some (.inl x)], [], M) _)
  refine seg_ok 2 (?_ : EvI X E_X8_puts (2, [some (.inr (.inr (some (8, 0, 0)))), some (.inl x)], [.inl x, .inr (.inr (some (8, 0, 0)))], M) _)
  refine ev_clp (v := .inl (bi (0 ≤ x ∧ x < S 1 0 4))) (z := z_X8_isStage) (as := [.inr (.inr (some (8, 0, 0))), .inl x]) (rest := []) rfl (c_isStage hW) (?_ : EvI X E_X8_puts (5, [some (.inr (.inr (some (8, 0, 0)))), some (.inl x)], [.inl (bi (0 ≤ x ∧ x < S 1 0 4))], M) _)
  refine seg_ok 1 (?_ : EvI X E_X8_puts (if (bi (0 ≤ x ∧ x < S 1 0 4)) = 0 then 8 else 10, [some (.inr (.inr (some (8, 0, 0)))), some (.inl x)], [], M) _)
  refine ev_ifb (fun h5 => ?_) (fun h5 => ?_)
  · refine seg_ok 1 (?_ : EvI X E_X8_puts (9, [some (.inr (.inr (some (8, 0, 0)))), some (.inl x)], [.inl (-1)], M) _)
    refine ev_rt (r := some (.inl (-1))) rfl (?_)
    have e : opUp S x = (-1, S) := cif_t h5
    show _ ∧ RR (M 17 0 0) _ ∧ M 17 0 0 4 = M 17 0 0 4 ∧ F17 M M
    exact ⟨rint (by rw [e] <;> first | rfl | (dsimp only; omega)), (RR_eq (hW.1) (by rw [e])), rfl, F17_rf⟩
  · refine seg_ok 2 (?_ : EvI X E_X8_puts (12, [some (.inr (.inr (some (8, 0, 0)))), some (.inl x)], [.inl x, .inr (.inr (some (8, 0, 0)))], M) _)
    refine ev_clp (v := .inl (bi (upP S x))) (z := z_X8_isUp) (as := [.inr (.inr (some (8, 0, 0))), .inl x]) (rest := []) rfl (c_isUp hW) (?_ : EvI X E_X8_puts (15, [some (.inr (.inr (some (8, 0, 0)))), some (.inl x)], [.inl (bi (upP S x))], M) _)
    refine seg_ok 1 (?_ : EvI X E_X8_puts (if (bi (upP S x)) = 0 then 18 else 28, [some (.inr (.inr (some (8, 0, 0)))), some (.inl x)], [], M) _)
    refine ev_ifb (fun h15 => ?_) (fun h15 => ?_)
    · refine seg_ok 4 (?_ : EvI X E_X8_puts (22, [some (.inr (.inr (some (8, 0, 0)))), some (.inl x)], [.inl 1, .inl 0, .inl x, .inr (.inr (some (8, 0, 0)))], M) _)
      refine ev_clp (v := .inl (ctA S (fun c => fo S x c ∧ ¬ ((0 : Int) ≠ 0 ∧ kl S c) ∧ ¬ ((1 : Int) ≠ 0 ∧ S 13 0 c = 0)))) (z := z_X8_killedBy) (as := [.inr (.inr (some (8, 0, 0))), .inl x, .inl 0, .inl 1]) (rest := []) rfl (c_killedBy hW (by omega)) (?_ : EvI X E_X8_puts (25, [some (.inr (.inr (some (8, 0, 0)))), some (.inl x)], [.inl (ctA S (fun c => fo S x c ∧ ¬ ((0 : Int) ≠ 0 ∧ kl S c) ∧ ¬ ((1 : Int) ≠ 0 ∧ S 13 0 c = 0)))], M) _)
      refine seg_ok 1 (?_ : EvI X E_X8_puts (if 0 < (ctA S (fun c => fo S x c ∧ ¬ ((0 : Int) ≠ 0 ∧ kl S c) ∧ ¬ ((1 : Int) ≠ 0 ∧ S 13 0 c = 0))) then 28 else 31, [some (.inr (.inr (some (8, 0, 0)))), some (.inl x)], [], M) _)
      refine ev_if (fun h25 => ?_) (fun h25 => ?_)
      · refine seg_ok 1 (?_ : EvI X E_X8_puts (30, [some (.inr (.inr (some (8, 0, 0)))), some (.inl x)], [.inl (-2)], M) _)
        refine ev_rt (r := some (.inl (-2))) rfl (?_)
        have e : opUp S x = (-2, S) := (cif_f (fun z => z h5)).trans (cif_t (Or.inr ((tk_iff hW.2 h5).mp h25)))
        show _ ∧ RR (M 17 0 0) _ ∧ M 17 0 0 4 = M 17 0 0 4 ∧ F17 M M
        exact ⟨rint (by rw [e] <;> first | rfl | (dsimp only; omega)), (RR_eq (hW.1) (by rw [e])), rfl, F17_rf⟩
      · have hno : ¬ (upP S x ∨ ∃ c : Int, 0 ≤ c ∧ c < 600 ∧ andI (S 14 0 c) (shlI 1 x) ≠ 0 ∧ S 13 0 c ≠ 0) := fun z => z.elim h15 (fun y => h25 ((tk_iff hW.2 h5).mpr y))
        have hI2 := Inv_up hW.2 h5 (fun z => hno (Or.inr z))
        refine seg_ok 5 (⟨by omega, ?_⟩ : ((0 : Int) ≤ 10 ∧ (10 : Int) < 589) ∧ EvI X E_X8_puts (39, [some (.inr (.inr (some (8, 0, 0)))), some (.inl x)], [.inl (M 17 0 0 10), .inl 10, .inr (.inr (some (17, 0, 0)))], M) _)
        rw [show (M 17 0 0 10) = (S 1 0 5) from sc10 (hW.1)]
        refine seg_ok 7 (⟨by omega, ?_⟩ : ((0 : Int) ≤ 10 ∧ (10 : Int) < 589) ∧ EvI X E_X8_puts (46, [some (.inr (.inr (some (8, 0, 0)))), some (.inl x)], [.inl 1, .inr (.inr (some (8, 0, 0)))], (wri M 17 0 0 10 (orI (S 1 0 5) (shlI 1 x)))) _)
        refine ev_clp (v := .inl (ctA (upS S x) (fun c => (1 : Int) = 0 ∨ isN (upS S x) c = 1))) (z := z_X8_countedAll) (as := [.inr (.inr (some (8, 0, 0))), .inl 1]) (rest := []) rfl (c_countedAll (m := m) (S := upS S x) ⟨RR_s10 hW.1, hI2⟩) (?_ : EvI X E_X8_puts (49, [some (.inr (.inr (some (8, 0, 0)))), some (.inl x)], [.inl (ctA (upS S x) (fun c => (1 : Int) = 0 ∨ isN (upS S x) c = 1))], (wri M 17 0 0 10 (orI (S 1 0 5) (shlI 1 x)))) _)
        refine ev_rt (r := some (.inl (ctA (upS S x) (fun c => (1 : Int) = 0 ∨ isN (upS S x) c = 1)))) rfl (?_)
        have e : opUp S x = (ctA (upS S x) (fun c => (1 : Int) = 0 ∨ isN (upS S x) c = 1), upS S x) := ((cif_f (fun z => z h5)).trans (cif_f hno)).trans (by rw [← ctA_kl hI2]; rfl)
        show _ ∧ RR ((wri M 17 0 0 10 (orI (S 1 0 5) (shlI 1 x))) 17 0 0) _ ∧ (wri M 17 0 0 10 (orI (S 1 0 5) (shlI 1 x))) 17 0 0 4 = M 17 0 0 4 ∧ F17 M (wri M 17 0 0 10 (orI (S 1 0 5) (shlI 1 x)))
        exact ⟨rint (by rw [e] <;> first | rfl | (dsimp only; omega)), (RR_eq (RR_s10 (hW.1)) (by rw [e]; rfl)), u4_wri (rfl) (by omega), F17_wri (F17_rf)⟩
    · refine seg_ok 1 (?_ : EvI X E_X8_puts (30, [some (.inr (.inr (some (8, 0, 0)))), some (.inl x)], [.inl (-2)], M) _)
      refine ev_rt (r := some (.inl (-2))) rfl (?_)
      have e : opUp S x = (-2, S) := (cif_f (fun z => z h5)).trans (cif_t (Or.inl h15))
      show _ ∧ RR (M 17 0 0) _ ∧ M 17 0 0 4 = M 17 0 0 4 ∧ F17 M M
      exact ⟨rint (by rw [e] <;> first | rfl | (dsimp only; omega)), (RR_eq (hW.1) (by rw [e])), rfl, F17_rf⟩
set_option maxRecDepth 2820 in
theorem c_passes {m : Int} {M : NM} {S : Sl} (hW : RW m M S) {x : Int} : HT X z_X8_passes [.inr (.inr (some (8, 0, 0))), .inl x] M (fun rr MM => rr = some (.inl (opPass S x).1) ∧ RR (MM 17 0 0) (opPass S x).2 ∧ MM 17 0 0 4 = M 17 0 0 4 ∧ F17 M MM) := by
  have hs := hW.1.1
  have hi := hW.2.1
  unfold Iv0 at hi
  refine ht_of (e := E_X8_passes) rfl (?_ : EvI X E_X8_passes (0, [some (.inr (.inr (some (8, 0, 0)))), some (.inl x), none, none], [], M) _)
  refine seg_ok 3 (?_ : EvI X E_X8_passes (5, [some (.inr (.inr (some (8, 0, 0)))), some (.inl x), none, none], [.inl 999, .inl 1, .inl x], M) _)
  refine ev_clp (v := .inl (bi (1 ≤ x ∧ x ≤ 999))) (z := z_X8_in) (as := [.inl x, .inl 1, .inl 999]) (rest := []) rfl c_in (?_ : EvI X E_X8_passes (8, [some (.inr (.inr (some (8, 0, 0)))), some (.inl x), none, none], [.inl (bi (1 ≤ x ∧ x ≤ 999))], M) _)
  refine seg_ok 1 (?_ : EvI X E_X8_passes (if (bi (1 ≤ x ∧ x ≤ 999)) = 0 then 11 else 13, [some (.inr (.inr (some (8, 0, 0)))), some (.inl x), none, none], [], M) _)
  refine ev_ifb (fun h8 => ?_) (fun h8 => ?_)
  · refine seg_ok 1 (?_ : EvI X E_X8_passes (12, [some (.inr (.inr (some (8, 0, 0)))), some (.inl x), none, none], [.inl (-1)], M) _)
    refine ev_rt (r := some (.inl (-1))) rfl (?_)
    have e : opPass S x = (-1, S) := cif_t h8
    exact ⟨rint (by rw [e]), by rw [e]; exact hW.1, rfl, F17_rf⟩
  · refine seg_ok 4 (⟨by omega, ?_⟩ : ((0 : Int) ≤ 0 ∧ (0 : Int) < 589) ∧ EvI X E_X8_passes (19, [some (.inr (.inr (some (8, 0, 0)))), some (.inl x), none, none], [.inl (M 17 0 0 0)], M) _)
    rw [show (M 17 0 0 0) = (S 5 0 5) from sc0 (hW.1)]
    refine seg_ok 4 (⟨by omega, ?_⟩ : ((-2147483648 : Int) ≤ ((S 5 0 5) + x) ∧ ((S 5 0 5) + x) < 2147483648) ∧ EvI X E_X8_passes (if 9999 < ((S 5 0 5) + x) then 27 else 30, [some (.inr (.inr (some (8, 0, 0)))), some (.inl x), none, none], [], M) _)
    refine ev_if (fun h24 => ?_) (fun h24 => ?_)
    · refine seg_ok 1 (?_ : EvI X E_X8_passes (29, [some (.inr (.inr (some (8, 0, 0)))), some (.inl x), none, none], [.inl (-2)], M) _)
      refine ev_rt (r := some (.inl (-2))) rfl (?_)
      have e : opPass S x = (-2, S) := (cif_f (fun z => z h8)).trans (cif_t h24)
      exact ⟨rint (by rw [e]), by rw [e]; exact hW.1, rfl, F17_rf⟩
    · have hS0 := Inv_sc hW.2 (s := 5) (v := S 5 0 5 + x) (Or.inl ⟨rfl, by omega, by omega⟩)
      refine seg_ok 5 (⟨by omega, ?_⟩ : ((0 : Int) ≤ 0 ∧ (0 : Int) < 589) ∧ EvI X E_X8_passes (37, [some (.inr (.inr (some (8, 0, 0)))), some (.inl x), none, none], [.inl (M 17 0 0 0), .inl 0, .inr (.inr (some (17, 0, 0)))], M) _)
      rw [show (M 17 0 0 0) = (S 5 0 5) from sc0 (hW.1)]
      refine seg_ok 7 (⟨by omega, by decide, ?_⟩ : ((-2147483648 : Int) ≤ ((S 5 0 5) + x) ∧ ((S 5 0 5) + x) < 2147483648) ∧ ((0 : Int) ≤ 0 ∧ (0 : Int) < 589) ∧ EvI X E_X8_passes (44, [some (.inr (.inr (some (8, 0, 0)))), some (.inl x), some (.inl 0), some (.inl 0)], [], (wri M 17 0 0 0 ((S 5 0 5) + x))) _)
      have L44 : ∀ (m44 : Nat) (n h : Int) (M1 : NM), S 5 0 3 - h < (m44 : Int) → (0 ≤ h) → (h ≤ S 5 0 3) → (n = sm (fun h => bi (S 3 h 0 = 0 ∧ S 3 h 3 ≤ S 5 0 5 + x)) h.toNat) → (RR (M1 17 0 0) (exN (st S 5 0 5 (S 5 0 5 + x)) (S 5 0 5 + x) h.toNat)) → (F17 M M1) → (M1 17 0 0 4 = M 17 0 0 4) → EvI X E_X8_passes (44, [some (.inr (.inr (some (8, 0, 0)))), some (.inl x), some (.inl n), some (.inl h)], [], M1) (fun rr MM => rr = some (.inl (opPass S x).1) ∧ RR (MM 17 0 0) (opPass S x).2 ∧ MM 17 0 0 4 = M 17 0 0 4 ∧ F17 M MM) := by
        intro m44
        induction m44 with
        | zero => intro n h M1 hm44 q1 q2 q3 q4 q5 q6; exact absurd hm44 (by omega)
        | succ m44 ih44 =>
          intro n h M1 hm44 q1 q2 q3 q4 q5 q6
          subst q3
          have gb := smb_bnd (fun h => S 3 h 0 = 0 ∧ S 3 h 3 ≤ S 5 0 5 + x) h.toNat
          have g3 : (exN (st S 5 0 5 (S 5 0 5 + x)) (S 5 0 5 + x) h.toNat) 5 0 3 = S 5 0 3 := exN_o _ _ _ _ (by decide) (fun z => by cases z)
          have g5 : (exN (st S 5 0 5 (S 5 0 5 + x)) (S 5 0 5 + x) h.toNat) 5 0 5 = S 5 0 5 + x := (exN_o _ _ _ _ (by decide) (fun z => by cases z)).trans st_eq
          have g : ∀ s, (exN (st S 5 0 5 (S 5 0 5 + x)) (S 5 0 5 + x) h.toNat) 3 h s = S 3 h s := fun s => exN_o _ _ _ _ (by decide) (fun _ => by omega)
          have gh0 := g 0
          have gh1 := g 1
          have gh2 := g 2
          have gh3 := g 3
          refine seg_ok 5 (⟨by omega, ?_⟩ : ((0 : Int) ≤ 8 ∧ (8 : Int) < 589) ∧ EvI X E_X8_passes (52, [some (.inr (.inr (some (8, 0, 0)))), some (.inl x), some (.inl (sm (fun h => bi (S 3 h 0 = 0 ∧ S 3 h 3 ≤ S 5 0 5 + x)) h.toNat)), some (.inl h)], [.inl (M1 17 0 0 8), .inl h], M1) _)
          rw [show (M1 17 0 0 8) = ((exN (st S 5 0 5 (S 5 0 5 + x)) (S 5 0 5 + x) h.toNat) 5 0 3) from (sc8 (q4)).trans rfl]
          refine seg_ok 1 (?_ : EvI X E_X8_passes (if h < ((exN (st S 5 0 5 (S 5 0 5 + x)) (S 5 0 5 + x) h.toNat) 5 0 3) then 55 else 118, [some (.inr (.inr (some (8, 0, 0)))), some (.inl x), some (.inl (sm (fun h => bi (S 3 h 0 = 0 ∧ S 3 h 3 ≤ S 5 0 5 + x)) h.toNat)), some (.inl h)], [], M1) _)
          refine ev_if (fun h52 => ?_) (fun h52 => ?_)
          · have hE := Inv_ex hS0 (S 5 0 5 + x) h.toNat (by show (h.toNat : Int) ≤ S 5 0 3; omega)
            have hO := HO_h hE (h := h) ⟨q1, by omega⟩
            have hh := HO_r hE hO
            refine seg_ok 3 (?_ : EvI X E_X8_passes (58, [some (.inr (.inr (some (8, 0, 0)))), some (.inl x), some (.inl (sm (fun h => bi (S 3 h 0 = 0 ∧ S 3 h 3 ≤ S 5 0 5 + x)) h.toNat)), some (.inl h)], [.inl 0, .inl h, .inr (.inr (some (8, 0, 0)))], M1) _)
            refine ev_clp (v := .inl ((exN (st S 5 0 5 (S 5 0 5 + x)) (S 5 0 5 + x) h.toNat) 3 h 0)) (z := z_X8_ofHold) (as := [.inr (.inr (some (8, 0, 0))), .inl h, .inl 0]) (rest := []) rfl (c_ofHold q4 (by omega) (by omega)) (?_ : EvI X E_X8_passes (61, [some (.inr (.inr (some (8, 0, 0)))), some (.inl x), some (.inl (sm (fun h => bi (S 3 h 0 = 0 ∧ S 3 h 3 ≤ S 5 0 5 + x)) h.toNat)), some (.inl h)], [.inl ((exN (st S 5 0 5 (S 5 0 5 + x)) (S 5 0 5 + x) h.toNat) 3 h 0)], M1) _)
            refine seg_ok 1 (?_ : EvI X E_X8_passes (if ((exN (st S 5 0 5 (S 5 0 5 + x)) (S 5 0 5 + x) h.toNat) 3 h 0) = 0 then 64 else 112, [some (.inr (.inr (some (8, 0, 0)))), some (.inl x), some (.inl (sm (fun h => bi (S 3 h 0 = 0 ∧ S 3 h 3 ≤ S 5 0 5 + x)) h.toNat)), some (.inl h)], [], M1) _)
            refine ev_if (fun h61 => ?_) (fun h61 => ?_)
            · refine seg_ok 3 (?_ : EvI X E_X8_passes (67, [some (.inr (.inr (some (8, 0, 0)))), some (.inl x), some (.inl (sm (fun h => bi (S 3 h 0 = 0 ∧ S 3 h 3 ≤ S 5 0 5 + x)) h.toNat)), some (.inl h)], [.inl 3, .inl h, .inr (.inr (some (8, 0, 0)))], M1) _)
              refine ev_clp (v := .inl ((exN (st S 5 0 5 (S 5 0 5 + x)) (S 5 0 5 + x) h.toNat) 3 h 3)) (z := z_X8_ofHold) (as := [.inr (.inr (some (8, 0, 0))), .inl h, .inl 3]) (rest := []) rfl (c_ofHold q4 (by omega) (by omega)) (?_ : EvI X E_X8_passes (70, [some (.inr (.inr (some (8, 0, 0)))), some (.inl x), some (.inl (sm (fun h => bi (S 3 h 0 = 0 ∧ S 3 h 3 ≤ S 5 0 5 + x)) h.toNat)), some (.inl h)], [.inl ((exN (st S 5 0 5 (S 5 0 5 + x)) (S 5 0 5 + x) h.toNat) 3 h 3)], M1) _)
              refine seg_ok 4 (⟨by omega, ?_⟩ : ((0 : Int) ≤ 0 ∧ (0 : Int) < 589) ∧ EvI X E_X8_passes (76, [some (.inr (.inr (some (8, 0, 0)))), some (.inl x), some (.inl (sm (fun h => bi (S 3 h 0 = 0 ∧ S 3 h 3 ≤ S 5 0 5 + x)) h.toNat)), some (.inl h)], [.inl (M1 17 0 0 0), .inl ((exN (st S 5 0 5 (S 5 0 5 + x)) (S 5 0 5 + x) h.toNat) 3 h 3)], M1) _)
              rw [show (M1 17 0 0 0) = ((exN (st S 5 0 5 (S 5 0 5 + x)) (S 5 0 5 + x) h.toNat) 5 0 5) from (sc0 (q4)).trans rfl]
              refine seg_ok 1 (?_ : EvI X E_X8_passes (if ((exN (st S 5 0 5 (S 5 0 5 + x)) (S 5 0 5 + x) h.toNat) 5 0 5) < ((exN (st S 5 0 5 (S 5 0 5 + x)) (S 5 0 5 + x) h.toNat) 3 h 3) then 112 else 79, [some (.inr (.inr (some (8, 0, 0)))), some (.inl x), some (.inl (sm (fun h => bi (S 3 h 0 = 0 ∧ S 3 h 3 ≤ S 5 0 5 + x)) h.toNat)), some (.inl h)], [], M1) _)
              refine ev_if (fun h76 => ?_) (fun h76 => ?_)
              · refine seg_ok 2 (⟨by omega, ?_⟩ : ((-2147483648 : Int) ≤ (h + 1) ∧ (h + 1) < 2147483648) ∧ EvI X E_X8_passes (44, [some (.inr (.inr (some (8, 0, 0)))), some (.inl x), some (.inl (sm (fun h => bi (S 3 h 0 = 0 ∧ S 3 h 3 ≤ S 5 0 5 + x)) h.toNat)), some (.inl (h + 1))], [], M1) _)
                refine ih44 (sm (fun h => bi (S 3 h 0 = 0 ∧ S 3 h 3 ≤ S 5 0 5 + x)) h.toNat) (h + 1) M1 (by omega) (by omega) (by omega) (by rw [sm_step q1]; exact (Int.add_zero _).symm.trans (acc0 (is0 (fun z => absurd h76 (by have : S 3 h 3 ≤ S 5 0 5 + x := z.2; rw [g 3]; omega))))) (RR_eq q4 (by rw [exN_step q1]; exact cif_f (p := S 3 h 0 = 0 ∧ S 3 h 3 ≤ S 5 0 5 + x) (fun z => absurd h76 (by have : S 3 h 3 ≤ S 5 0 5 + x := z.2; rw [g 3]; omega)))) q5 q6
              · refine seg_ok 13 (⟨by omega, by omega, by omega, ?_⟩ : ((-2147483648 : Int) ≤ (5 * h) ∧ (5 * h) < 2147483648) ∧ ((-2147483648 : Int) ≤ (389 + (5 * h)) ∧ (389 + (5 * h)) < 2147483648) ∧ ((0 : Int) ≤ (389 + (5 * h)) ∧ (389 + (5 * h)) < 589) ∧ EvI X E_X8_passes (96, [some (.inr (.inr (some (8, 0, 0)))), some (.inl x), some (.inl (sm (fun h => bi (S 3 h 0 = 0 ∧ S 3 h 3 ≤ S 5 0 5 + x)) h.toNat)), some (.inl h)], [.inl 1, .inl h, .inr (.inr (some (8, 0, 0))), .inr (.inr (some (8, 0, 0)))], (wri M1 17 0 0 (389 + (5 * h)) 3)) _)
                refine ev_clp (v := .inl ((st (exN (st S 5 0 5 (S 5 0 5 + x)) (S 5 0 5 + x) h.toNat) 3 h 0 3) 3 h 1)) (z := z_X8_ofHold) (as := [.inr (.inr (some (8, 0, 0))), .inl h, .inl 1]) (rest := [.inr (.inr (some (8, 0, 0)))]) rfl (c_ofHold (RR_hold0 (q4) (by omega)) (by omega) (by omega)) (?_ : EvI X E_X8_passes (99, [some (.inr (.inr (some (8, 0, 0)))), some (.inl x), some (.inl (sm (fun h => bi (S 3 h 0 = 0 ∧ S 3 h 3 ≤ S 5 0 5 + x)) h.toNat)), some (.inl h)], [.inl ((st (exN (st S 5 0 5 (S 5 0 5 + x)) (S 5 0 5 + x) h.toNat) 3 h 0 3) 3 h 1), .inr (.inr (some (8, 0, 0)))], (wri M1 17 0 0 (389 + (5 * h)) 3)) _)
                rw [show ((st (exN (st S 5 0 5 (S 5 0 5 + x)) (S 5 0 5 + x) h.toNat) 3 h 0 3) 3 h 1) = ((exN (st S 5 0 5 (S 5 0 5 + x)) (S 5 0 5 + x) h.toNat) 3 h 1) from st_nes (by decide)]
                refine seg_ok 3 (?_ : EvI X E_X8_passes (102, [some (.inr (.inr (some (8, 0, 0)))), some (.inl x), some (.inl (sm (fun h => bi (S 3 h 0 = 0 ∧ S 3 h 3 ≤ S 5 0 5 + x)) h.toNat)), some (.inl h)], [.inl 2, .inl h, .inr (.inr (some (8, 0, 0))), .inl ((exN (st S 5 0 5 (S 5 0 5 + x)) (S 5 0 5 + x) h.toNat) 3 h 1), .inr (.inr (some (8, 0, 0)))], (wri M1 17 0 0 (389 + (5 * h)) 3)) _)
                refine ev_clp (v := .inl ((st (exN (st S 5 0 5 (S 5 0 5 + x)) (S 5 0 5 + x) h.toNat) 3 h 0 3) 3 h 2)) (z := z_X8_ofHold) (as := [.inr (.inr (some (8, 0, 0))), .inl h, .inl 2]) (rest := [.inl ((exN (st S 5 0 5 (S 5 0 5 + x)) (S 5 0 5 + x) h.toNat) 3 h 1), .inr (.inr (some (8, 0, 0)))]) rfl (c_ofHold (RR_hold0 (q4) (by omega)) (by omega) (by omega)) (?_ : EvI X E_X8_passes (105, [some (.inr (.inr (some (8, 0, 0)))), some (.inl x), some (.inl (sm (fun h => bi (S 3 h 0 = 0 ∧ S 3 h 3 ≤ S 5 0 5 + x)) h.toNat)), some (.inl h)], [.inl ((st (exN (st S 5 0 5 (S 5 0 5 + x)) (S 5 0 5 + x) h.toNat) 3 h 0 3) 3 h 2), .inl ((exN (st S 5 0 5 (S 5 0 5 + x)) (S 5 0 5 + x) h.toNat) 3 h 1), .inr (.inr (some (8, 0, 0)))], (wri M1 17 0 0 (389 + (5 * h)) 3)) _)
                rw [show ((st (exN (st S 5 0 5 (S 5 0 5 + x)) (S 5 0 5 + x) h.toNat) 3 h 0 3) 3 h 2) = ((exN (st S 5 0 5 (S 5 0 5 + x)) (S 5 0 5 + x) h.toNat) 3 h 2) from st_nes (by decide)]
                refine seg_ok 1 (?_ : EvI X E_X8_passes (106, [some (.inr (.inr (some (8, 0, 0)))), some (.inl x), some (.inl (sm (fun h => bi (S 3 h 0 = 0 ∧ S 3 h 3 ≤ S 5 0 5 + x)) h.toNat)), some (.inl h)], [.inl 0, .inl ((exN (st S 5 0 5 (S 5 0 5 + x)) (S 5 0 5 + x) h.toNat) 3 h 2), .inl ((exN (st S 5 0 5 (S 5 0 5 + x)) (S 5 0 5 + x) h.toNat) 3 h 1), .inr (.inr (some (8, 0, 0)))], (wri M1 17 0 0 (389 + (5 * h)) 3)) _)
                refine ev_cl (z := z_X8_become) (as := [.inr (.inr (some (8, 0, 0))), .inl ((exN (st S 5 0 5 (S 5 0 5 + x)) (S 5 0 5 + x) h.toNat) 3 h 1), .inl ((exN (st S 5 0 5 (S 5 0 5 + x)) (S 5 0 5 + x) h.toNat) 3 h 2), .inl 0]) (rest := []) rfl (c_become (RR_hold0 (q4) (by omega)) (BC_of hE hO) (by omega) (by omega) (by omega)) ?_
                intro rr M2 hqM2
                obtain ⟨rfl, rM2, uM2, gM2⟩ := hqM2
                show EvI X E_X8_passes (109, [some (.inr (.inr (some (8, 0, 0)))), some (.inl x), some (.inl (sm (fun h => bi (S 3 h 0 = 0 ∧ S 3 h 3 ≤ S 5 0 5 + x)) h.toNat)), some (.inl h)], [], M2) _
                refine seg_ok 3 (⟨by omega, by omega, ?_⟩ : ((-2147483648 : Int) ≤ ((sm (fun h => bi (S 3 h 0 = 0 ∧ S 3 h 3 ≤ S 5 0 5 + x)) h.toNat) + 1) ∧ ((sm (fun h => bi (S 3 h 0 = 0 ∧ S 3 h 3 ≤ S 5 0 5 + x)) h.toNat) + 1) < 2147483648) ∧ ((-2147483648 : Int) ≤ (h + 1) ∧ (h + 1) < 2147483648) ∧ EvI X E_X8_passes (44, [some (.inr (.inr (some (8, 0, 0)))), some (.inl x), some (.inl ((sm (fun h => bi (S 3 h 0 = 0 ∧ S 3 h 3 ≤ S 5 0 5 + x)) h.toNat) + 1)), some (.inl (h + 1))], [], M2) _)
                refine ih44 ((sm (fun h => bi (S 3 h 0 = 0 ∧ S 3 h 3 ≤ S 5 0 5 + x)) h.toNat) + 1) (h + 1) M2 (by omega) (by omega) (by omega) (by rw [sm_step q1]; exact acc0 (is1 ⟨(g 0).symm.trans h61, by rw [← g 3]; omega⟩)) (by rw [exN_step q1, cif_t ⟨(g 0).symm.trans h61, show S 3 h 3 ≤ S 5 0 5 + x by rw [← g 3]; omega⟩]; refine RR_eq rM2 ?_; rw [g 1, g 2]; rfl) (F17_tr (F17_wri q5) gM2) (u4_tr uM2 (u4_wri q6 (by omega)))
            · refine seg_ok 2 (⟨by omega, ?_⟩ : ((-2147483648 : Int) ≤ (h + 1) ∧ (h + 1) < 2147483648) ∧ EvI X E_X8_passes (44, [some (.inr (.inr (some (8, 0, 0)))), some (.inl x), some (.inl (sm (fun h => bi (S 3 h 0 = 0 ∧ S 3 h 3 ≤ S 5 0 5 + x)) h.toNat)), some (.inl (h + 1))], [], M1) _)
              refine ih44 (sm (fun h => bi (S 3 h 0 = 0 ∧ S 3 h 3 ≤ S 5 0 5 + x)) h.toNat) (h + 1) M1 (by omega) (by omega) (by omega) (by rw [sm_step q1]; exact (Int.add_zero _).symm.trans (acc0 (is0 (fun z => h61 ((g 0).trans z.1))))) (RR_eq q4 (by rw [exN_step q1]; exact cif_f (p := S 3 h 0 = 0 ∧ S 3 h 3 ≤ S 5 0 5 + x) (fun z => h61 ((g 0).trans z.1)))) q5 q6
          · refine seg_ok 1 (?_ : EvI X E_X8_passes (119, [some (.inr (.inr (some (8, 0, 0)))), some (.inl x), some (.inl (sm (fun h => bi (S 3 h 0 = 0 ∧ S 3 h 3 ≤ S 5 0 5 + x)) h.toNat)), some (.inl h)], [.inl (sm (fun h => bi (S 3 h 0 = 0 ∧ S 3 h 3 ≤ S 5 0 5 + x)) h.toNat)], M1) _)
            refine ev_rt (r := some (.inl (sm (fun h => bi (S 3 h 0 = 0 ∧ S 3 h 3 ≤ S 5 0 5 + x)) h.toNat))) rfl (?_)
            obtain rfl : h = S 5 0 3 := by omega
            have e : opPass S x = (sm (fun h => bi (S 3 h 0 = 0 ∧ S 3 h 3 ≤ S 5 0 5 + x)) (S 5 0 3).toNat, exN (st S 5 0 5 (S 5 0 5 + x)) (S 5 0 5 + x) (S 5 0 3).toNat) := (cif_f (fun z => z h8)).trans (cif_f h24)
            exact ⟨rint (by rw [e]), by rw [e]; exact q4, q6, q5⟩
      refine L44 ((S 5 0 3 - 0) + 1 : Int).toNat 0 0 (wri M 17 0 0 0 ((S 5 0 5) + x)) (by omega) (by omega) (by omega) rfl (RR_s0 hW.1) (F17_wri F17_rf) (u4_wri rfl (by omega))
end
