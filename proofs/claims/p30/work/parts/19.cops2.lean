/-! 19: the class: pieces, time, doors; figures -/
section
variable {X : XI}
set_option maxRecDepth 2220 in
theorem d_makePiece {m : Int} {M : NM} {j : Int} (hI : Inv m (sl M j)) {x f t : Int} : HT X z_X1_makePiece [.inr (.inr (some (1, j, 0))), .inl x, .inl f, .inl t] M (fun rr MM => rr = some (.inl (opPiece (sl M j) x f t).1) ∧ sl MM j = (opPiece (sl M j) x f t).2 ∧ FR j M MM) := by
  have hi := hI.1
  simp only [Iv0, sl] at hi
  refine ht_of (e := E_X1_makePiece) rfl (?_ : EvI X E_X1_makePiece (0, [some (.inr (.inr (some (1, j, 0)))), some (.inl x), some (.inl f), some (.inl t), none], [], M) _)
  refine seg_ok 2 (?_ : EvI X E_X1_makePiece (2, [some (.inr (.inr (some (1, j, 0)))), some (.inl x), some (.inl f), some (.inl t), none], [.inl x, .inr (.inr (some (1, j, 0)))], M) _)
  refine ev_clp (v := .inl (bi (0 ≤ x ∧ x < M 1 j 0 4))) (z := z_X1_isStage) (as := [.inr (.inr (some (1, j, 0))), .inl x]) (rest := []) rfl d_isStage (?_ : EvI X E_X1_makePiece (5, [some (.inr (.inr (some (1, j, 0)))), some (.inl x), some (.inl f), some (.inl t), none], [.inl (bi (0 ≤ x ∧ x < M 1 j 0 4))], M) _)
  refine seg_ok 1 (?_ : EvI X E_X1_makePiece (if (bi (0 ≤ x ∧ x < M 1 j 0 4)) = 0 then 17 else 8, [some (.inr (.inr (some (1, j, 0)))), some (.inl x), some (.inl f), some (.inl t), none], [], M) _)
  refine ev_ifb (fun h5 => ?_) (fun h5 => ?_)
  · refine seg_ok 1 (?_ : EvI X E_X1_makePiece (18, [some (.inr (.inr (some (1, j, 0)))), some (.inl x), some (.inl f), some (.inl t), none], [.inl (-1)], M) _)
    refine ev_rt (r := some (.inl (-1))) rfl (?_)
    have e : opPiece (sl M j) x f t = (-1, sl M j) := cif_t (fun z => h5 z.1)
    exact ⟨rint (by rw [e]), by rw [e], FR_rf⟩
  · refine seg_ok 3 (?_ : EvI X E_X1_makePiece (11, [some (.inr (.inr (some (1, j, 0)))), some (.inl x), some (.inl f), some (.inl t), none], [.inl t, .inl f, .inr (.inr (some (1, j, 0)))], M) _)
    refine ev_clp (v := .inl (bi (isPc (sl M j) f t))) (z := z_X1_isPiece) (as := [.inr (.inr (some (1, j, 0))), .inl f, .inl t]) (rest := []) rfl (d_isPiece hI) (?_ : EvI X E_X1_makePiece (14, [some (.inr (.inr (some (1, j, 0)))), some (.inl x), some (.inl f), some (.inl t), none], [.inl (bi (isPc (sl M j) f t))], M) _)
    refine seg_ok 1 (?_ : EvI X E_X1_makePiece (if (bi (isPc (sl M j) f t)) = 0 then 17 else 19, [some (.inr (.inr (some (1, j, 0)))), some (.inl x), some (.inl f), some (.inl t), none], [], M) _)
    refine ev_ifb (fun h14 => ?_) (fun h14 => ?_)
    · refine seg_ok 1 (?_ : EvI X E_X1_makePiece (18, [some (.inr (.inr (some (1, j, 0)))), some (.inl x), some (.inl f), some (.inl t), none], [.inl (-1)], M) _)
      refine ev_rt (r := some (.inl (-1))) rfl (?_)
      have e : opPiece (sl M j) x f t = (-1, sl M j) := cif_t (fun z => h14 z.2)
      exact ⟨rint (by rw [e]), by rw [e], FR_rf⟩
    · have k5 := isCh_r hI h14.1
      have k6 := isCh_r hI h14.2.1
      have k7 := h14.2.2
      refine seg_ok 2 (?_ : EvI X E_X1_makePiece (21, [some (.inr (.inr (some (1, j, 0)))), some (.inl x), some (.inl f), some (.inl t), none], [.inl x, .inr (.inr (some (1, j, 0)))], M) _)
      refine ev_clp (v := .inl (bi (upP (sl M j) x))) (z := z_X1_isUp) (as := [.inr (.inr (some (1, j, 0))), .inl x]) (rest := []) rfl d_isUp (?_ : EvI X E_X1_makePiece (24, [some (.inr (.inr (some (1, j, 0)))), some (.inl x), some (.inl f), some (.inl t), none], [.inl (bi (upP (sl M j) x))], M) _)
      refine seg_ok 1 (?_ : EvI X E_X1_makePiece (if (bi (upP (sl M j) x)) = 0 then 30 else 27, [some (.inr (.inr (some (1, j, 0)))), some (.inl x), some (.inl f), some (.inl t), none], [], M) _)
      refine ev_ifb (fun h24 => ?_) (fun h24 => ?_)
      · refine seg_ok 2 (?_ : EvI X E_X1_makePiece (33, [some (.inr (.inr (some (1, j, 0)))), some (.inl x), some (.inl f), some (.inl t), some (.inl f)], [], M) _)
        have L33 : ∀ (m33 : Nat) (c : Int) (M1 : NM), t + 1 - c < (m33 : Int) → (f ≤ c) → (c ≤ t + 1) → (M1 = pcM M j x f t c) → EvI X E_X1_makePiece (33, [some (.inr (.inr (some (1, j, 0)))), some (.inl x), some (.inl f), some (.inl t), some (.inl c)], [], M1) (fun rr MM => rr = some (.inl (opPiece (sl M j) x f t).1) ∧ sl MM j = (opPiece (sl M j) x f t).2 ∧ FR j M MM) := by
          intro m33
          induction m33 with
          | zero => intro c M1 hm33 q1 q2 q3; exact absurd hm33 (by omega)
          | succ m33 ih33 =>
            intro c M1 hm33 q1 q2 q3
            refine seg_ok 3 (?_ : EvI X E_X1_makePiece (if t < c then 82 else 39, [some (.inr (.inr (some (1, j, 0)))), some (.inl x), some (.inl f), some (.inl t), some (.inl c)], [], M1) _)
            refine ev_if (fun h36 => ?_) (fun h36 => ?_)
            · refine seg_ok 4 (?_ : EvI X E_X1_makePiece (86, [some (.inr (.inr (some (1, j, 0)))), some (.inl x), some (.inl f), some (.inl t), some (.inl c)], [.inl (shlI 1 x), .inr (.inr (some (1, j, 0)))], M1) _)
              refine ev_clp (v := .inl (sm (fun c => bi (andI (M1 14 j 0 c) (shlI 1 x) ≠ 0)) 600)) (z := z_X1_chairsUnder) (as := [.inr (.inr (some (1, j, 0))), .inl (shlI 1 x)]) (rest := []) rfl d_chairsUnder (?_ : EvI X E_X1_makePiece (89, [some (.inr (.inr (some (1, j, 0)))), some (.inl x), some (.inl f), some (.inl t), some (.inl c)], [.inl (sm (fun c => bi (andI (M1 14 j 0 c) (shlI 1 x) ≠ 0)) 600)], M1) _)
              refine ev_rt (r := some (.inl (sm (fun c => bi (andI (M1 14 j 0 c) (shlI 1 x) ≠ 0)) 600))) rfl (?_)
              have hcc : c = t + 1 := by omega
              subst hcc
              subst q3
              have e : opPiece (sl M j) x f t = (sm (fun c => bi (andI (sl (pcM M j x f t (t + 1)) j 14 0 c) (shlI 1 x) ≠ 0)) 600, sl (pcM M j x f t (t + 1)) j) := ((cif_f (fun z => z ⟨h5, h14⟩)).trans (cif_f h24)).trans (by rw [sl_pcM (by omega)])
              exact ⟨rint (by rw [e]), by rw [e], FR_pcM⟩
            · refine seg_ok 7 (⟨by omega, by omega, ?_⟩ : ((0 : Int) ≤ c ∧ (0 : Int) < 10) ∧ ((0 : Int) ≤ f ∧ (0 : Int) < 10) ∧ EvI X E_X1_makePiece (if (c % 10) < (f % 10) then 76 else 51, [some (.inr (.inr (some (1, j, 0)))), some (.inl x), some (.inl f), some (.inl t), some (.inl c)], [], M1) _)
              refine ev_if (fun h48 => ?_) (fun h48 => ?_)
              · refine seg_ok 2 (⟨by omega, ?_⟩ : ((-2147483648 : Int) ≤ (c + 1) ∧ (c + 1) < 2147483648) ∧ EvI X E_X1_makePiece (33, [some (.inr (.inr (some (1, j, 0)))), some (.inl x), some (.inl f), some (.inl t), some (.inl (c + 1))], [], M1) _)
                refine ih33 (c + 1) M1 (by omega) (by omega) (by omega) (by rw [q3, pcM_f (fun z => by have := z.2.2; omega)])
              · refine seg_ok 7 (⟨by omega, by omega, ?_⟩ : ((0 : Int) ≤ c ∧ (0 : Int) < 10) ∧ ((0 : Int) ≤ t ∧ (0 : Int) < 10) ∧ EvI X E_X1_makePiece (if (t % 10) < (c % 10) then 76 else 63, [some (.inr (.inr (some (1, j, 0)))), some (.inl x), some (.inl f), some (.inl t), some (.inl c)], [], M1) _)
                refine ev_if (fun h60 => ?_) (fun h60 => ?_)
                · refine seg_ok 2 (⟨by omega, ?_⟩ : ((-2147483648 : Int) ≤ (c + 1) ∧ (c + 1) < 2147483648) ∧ EvI X E_X1_makePiece (33, [some (.inr (.inr (some (1, j, 0)))), some (.inl x), some (.inl f), some (.inl t), some (.inl (c + 1))], [], M1) _)
                  refine ih33 (c + 1) M1 (by omega) (by omega) (by omega) (by rw [q3, pcM_f (fun z => by have := z.2.2; omega)])
                · refine seg_ok 12 (⟨by omega, by omega, by omega, ?_⟩ : ((0 : Int) ≤ c ∧ c < 600) ∧ ((0 : Int) ≤ c ∧ c < 600) ∧ ((-2147483648 : Int) ≤ (c + 1) ∧ (c + 1) < 2147483648) ∧ EvI X E_X1_makePiece (33, [some (.inr (.inr (some (1, j, 0)))), some (.inl x), some (.inl f), some (.inl t), some (.inl (c + 1))], [], (wri M1 14 j 0 c (orI (M1 14 j 0 c) (shlI 1 x)))) _)
                  refine ih33 (c + 1) (wri M1 14 j 0 c (orI (M1 14 j 0 c) (shlI 1 x))) (by omega) (by omega) (by omega) (by rw [q3]; exact pcM_t ⟨by omega, by omega, by omega, by omega⟩)
        refine L33 ((t + 1 - f) + 1 : Int).toNat f M (by omega) (by omega) (by omega) pcM_0
      · refine seg_ok 1 (?_ : EvI X E_X1_makePiece (29, [some (.inr (.inr (some (1, j, 0)))), some (.inl x), some (.inl f), some (.inl t), none], [.inl (-2)], M) _)
        refine ev_rt (r := some (.inl (-2))) rfl (?_)
        have e : opPiece (sl M j) x f t = (-2, sl M j) := (cif_f (fun z => z ⟨h5, h14⟩)).trans (cif_t h24)
        exact ⟨rint (by rw [e]), by rw [e], FR_rf⟩
set_option maxRecDepth 2280 in
theorem d_letPass {m : Int} {M : NM} {j : Int} (hI : Inv m (sl M j)) {x : Int} : HT X z_X5_letPass [.inr (.inr (some (5, j, 0))), .inl x] M (fun rr MM => rr = some (.inl (opPass (sl M j) x).1) ∧ sl MM j = (opPass (sl M j) x).2 ∧ FR j M MM) := by
  have hi := hI.1
  simp only [Iv0, sl] at hi
  refine ht_of (e := E_X5_letPass) rfl (?_ : EvI X E_X5_letPass (0, [some (.inr (.inr (some (5, j, 0)))), some (.inl x), none, none, none], [], M) _)
  refine seg_ok 1 (?_ : EvI X E_X5_letPass (1, [some (.inr (.inr (some (5, j, 0)))), some (.inl x), none, none, none], [.inl x], M) _)
  refine ev_clp (v := .inl (bi (1 ≤ x ∧ x ≤ 999))) (z := z_X5_isWait) (as := [.inl x]) (rest := []) rfl d_isWait (?_ : EvI X E_X5_letPass (4, [some (.inr (.inr (some (5, j, 0)))), some (.inl x), none, none, none], [.inl (bi (1 ≤ x ∧ x ≤ 999))], M) _)
  refine seg_ok 1 (?_ : EvI X E_X5_letPass (if (bi (1 ≤ x ∧ x ≤ 999)) = 0 then 7 else 9, [some (.inr (.inr (some (5, j, 0)))), some (.inl x), none, none, none], [], M) _)
  refine ev_ifb (fun h4 => ?_) (fun h4 => ?_)
  · refine seg_ok 1 (?_ : EvI X E_X5_letPass (8, [some (.inr (.inr (some (5, j, 0)))), some (.inl x), none, none, none], [.inl (-1)], M) _)
    refine ev_rt (r := some (.inl (-1))) rfl (?_)
    have e : opPass (sl M j) x = (-1, sl M j) := cif_t h4
    exact ⟨rint (by rw [e]), by rw [e], FR_rf⟩
  · refine seg_ok 6 (⟨by omega, ?_⟩ : ((-2147483648 : Int) ≤ ((M 5 j 0 5) + x) ∧ ((M 5 j 0 5) + x) < 2147483648) ∧ EvI X E_X5_letPass (if 9999 < ((M 5 j 0 5) + x) then 21 else 24, [some (.inr (.inr (some (5, j, 0)))), some (.inl x), none, none, none], [], M) _)
    refine ev_if (fun h18 => ?_) (fun h18 => ?_)
    · refine seg_ok 1 (?_ : EvI X E_X5_letPass (23, [some (.inr (.inr (some (5, j, 0)))), some (.inl x), none, none, none], [.inl (-2)], M) _)
      refine ev_rt (r := some (.inl (-2))) rfl (?_)
      have e : opPass (sl M j) x = (-2, sl M j) := (cif_f (fun z => z h4)).trans (cif_t h18)
      exact ⟨rint (by rw [e]), by rw [e], FR_rf⟩
    · refine seg_ok 10 (⟨by omega, ?_⟩ : ((-2147483648 : Int) ≤ ((M 5 j 0 5) + x) ∧ ((M 5 j 0 5) + x) < 2147483648) ∧ EvI X E_X5_letPass (38, [some (.inr (.inr (some (5, j, 0)))), some (.inl x), some (.inl 0), some (.inl 0), none], [], (wri M 5 j 0 5 ((M 5 j 0 5) + x))) _)
      have L38 : ∀ (m38 : Nat) (n h : Int) (M1 : NM) (d38_4 : Option U), M 5 j 0 3 - h < (m38 : Int) → (0 ≤ h) → (h ≤ M 5 j 0 3) → (n = sm (fun h => bi (M 3 j h 0 = 0 ∧ M 3 j h 3 ≤ M 5 j 0 5 + x)) h.toNat) → (sl M1 j = exN (st (sl M j) 5 0 5 (M 5 j 0 5 + x)) (M 5 j 0 5 + x) h.toNat) → (FR j M M1) → EvI X E_X5_letPass (38, [some (.inr (.inr (some (5, j, 0)))), some (.inl x), some (.inl n), some (.inl h), d38_4], [], M1) (fun rr MM => rr = some (.inl (opPass (sl M j) x).1) ∧ sl MM j = (opPass (sl M j) x).2 ∧ FR j M MM) := by
        intro m38
        induction m38 with
        | zero => intro n h M1 d38_4 hm38 q1 q2 q3 q4 q5; exact absurd hm38 (by omega)
        | succ m38 ih38 =>
          intro n h M1 d38_4 hm38 q1 q2 q3 q4 q5
          subst q3
          have e1 : ∀ K y s, sl M1 j K y s = (exN (st (sl M j) 5 0 5 (M 5 j 0 5 + x)) (M 5 j 0 5 + x) h.toNat) K y s := fun K y s => by rw [q4]
          have gc : M1 5 j 0 3 = M 5 j 0 3 := (e1 5 0 3).trans (exN_o _ _ _ _ (by decide) (fun z => by cases z))
          have g5 : M1 5 j 0 5 = M 5 j 0 5 + x := (e1 5 0 5).trans ((exN_o _ _ _ _ (by decide) (fun z => by cases z)).trans st_eq)
          have g : ∀ s, M1 3 j h s = M 3 j h s := fun s => (e1 3 h s).trans (exN_o _ _ _ _ (by decide) (fun _ => by omega))
          have g0 := g 0
          have g1 := g 1
          have g2 := g 2
          have g3 := g 3
          have gb := smb_bnd (fun h => M 3 j h 0 = 0 ∧ M 3 j h 3 ≤ M 5 j 0 5 + x) h.toNat
          refine seg_ok 4 (?_ : EvI X E_X5_letPass (if h < (M1 5 j 0 3) then 46 else 107, [some (.inr (.inr (some (5, j, 0)))), some (.inl x), some (.inl (sm (fun h => bi (M 3 j h 0 = 0 ∧ M 3 j h 3 ≤ M 5 j 0 5 + x)) h.toNat)), some (.inl h), d38_4], [], M1) _)
          refine ev_if (fun h43 => ?_) (fun h43 => ?_)
          · have hh := HO_r hI (HO_h hI ⟨q1, by show h < M 5 j 0 3; omega⟩)
            simp only [sl] at hh
            refine seg_ok 8 (⟨by omega, ?_⟩ : ((0 : Int) ≤ h ∧ h < 20) ∧ EvI X E_X5_letPass (if (M1 3 j h 0) = 0 then 62 else 101, [some (.inr (.inr (some (5, j, 0)))), some (.inl x), some (.inl (sm (fun h => bi (M 3 j h 0 = 0 ∧ M 3 j h 3 ≤ M 5 j 0 5 + x)) h.toNat)), some (.inl h), some (.inr (.inr (some (3, j, h))))], [], M1) _)
            refine ev_if (fun h59 => ?_) (fun h59 => ?_)
            · refine seg_ok 5 (?_ : EvI X E_X5_letPass (if (M1 5 j 0 5) < (M1 3 j h 3) then 101 else 74, [some (.inr (.inr (some (5, j, 0)))), some (.inl x), some (.inl (sm (fun h => bi (M 3 j h 0 = 0 ∧ M 3 j h 3 ≤ M 5 j 0 5 + x)) h.toNat)), some (.inl h), some (.inr (.inr (some (3, j, h))))], [], M1) _)
              refine ev_if (fun h71 => ?_) (fun h71 => ?_)
              · refine seg_ok 2 (⟨by omega, ?_⟩ : ((-2147483648 : Int) ≤ (h + 1) ∧ (h + 1) < 2147483648) ∧ EvI X E_X5_letPass (38, [some (.inr (.inr (some (5, j, 0)))), some (.inl x), some (.inl (sm (fun h => bi (M 3 j h 0 = 0 ∧ M 3 j h 3 ≤ M 5 j 0 5 + x)) h.toNat)), some (.inl (h + 1)), some (.inr (.inr (some (3, j, h))))], [], M1) _)
                refine ih38 (sm (fun h => bi (M 3 j h 0 = 0 ∧ M 3 j h 3 ≤ M 5 j 0 5 + x)) h.toNat) (h + 1) M1 (some (.inr (.inr (some (3, j, h))))) (by omega) (by omega) (by omega) (by rw [sm_step q1]; exact (Int.add_zero _).symm.trans (acc0 (is0 (fun z => absurd h71 (by have : M 3 j h 3 ≤ M 5 j 0 5 + x := z.2; omega))))) (by rw [exN_step q1, q4]; exact (cif_f (fun z => absurd h71 (by have : M 3 j h 3 ≤ M 5 j 0 5 + x := z.2; omega))).symm) q5
              · refine seg_ok 7 (?_ : EvI X E_X5_letPass (89, [some (.inr (.inr (some (5, j, 0)))), some (.inl x), some (.inl (sm (fun h => bi (M 3 j h 0 = 0 ∧ M 3 j h 3 ≤ M 5 j 0 5 + x)) h.toNat)), some (.inl h), some (.inr (.inr (some (3, j, h))))], [.inl ((wri M1 3 j h 0 3) 3 j h 1), .inr (.inr (some (1, j, 0)))], (wri M1 3 j h 0 3)) _)
                rw [show ((wri M1 3 j h 0 3) 3 j h 1) = (M1 3 j h 1) from wri_nes (by decide)]
                refine seg_ok 2 (?_ : EvI X E_X5_letPass (94, [some (.inr (.inr (some (5, j, 0)))), some (.inl x), some (.inl (sm (fun h => bi (M 3 j h 0 = 0 ∧ M 3 j h 3 ≤ M 5 j 0 5 + x)) h.toNat)), some (.inl h), some (.inr (.inr (some (3, j, h))))], [.inl ((wri M1 3 j h 0 3) 3 j h 2), .inl (M1 3 j h 1), .inr (.inr (some (1, j, 0)))], (wri M1 3 j h 0 3)) _)
                rw [show ((wri M1 3 j h 0 3) 3 j h 2) = (M1 3 j h 2) from wri_nes (by decide)]
                refine seg_ok 1 (?_ : EvI X E_X5_letPass (95, [some (.inr (.inr (some (5, j, 0)))), some (.inl x), some (.inl (sm (fun h => bi (M 3 j h 0 = 0 ∧ M 3 j h 3 ≤ M 5 j 0 5 + x)) h.toNat)), some (.inl h), some (.inr (.inr (some (3, j, h))))], [.inl 0, .inl (M1 3 j h 2), .inl (M1 3 j h 1), .inr (.inr (some (1, j, 0)))], (wri M1 3 j h 0 3)) _)
                refine ev_cl (z := z_X1_mark) (as := [.inr (.inr (some (1, j, 0))), .inl (M1 3 j h 1), .inl (M1 3 j h 2), .inl 0]) (rest := []) rfl (d_mark (by omega) (by omega)) ?_
                intro rr M1 hqM1
                obtain ⟨rfl, hM1⟩ := hqM1
                subst hM1
                show EvI X E_X5_letPass (98, [some (.inr (.inr (some (5, j, 0)))), some (.inl x), some (.inl (sm (fun h => bi (M 3 j h 0 = 0 ∧ M 3 j h 3 ≤ M 5 j 0 5 + x)) h.toNat)), some (.inl h), some (.inr (.inr (some (3, j, h))))], [], (bcM (wri M1 3 j h 0 3) j (M1 3 j h 1) (M1 3 j h 2) 0)) _
                refine seg_ok 3 (⟨by omega, by omega, ?_⟩ : ((-2147483648 : Int) ≤ ((sm (fun h => bi (M 3 j h 0 = 0 ∧ M 3 j h 3 ≤ M 5 j 0 5 + x)) h.toNat) + 1) ∧ ((sm (fun h => bi (M 3 j h 0 = 0 ∧ M 3 j h 3 ≤ M 5 j 0 5 + x)) h.toNat) + 1) < 2147483648) ∧ ((-2147483648 : Int) ≤ (h + 1) ∧ (h + 1) < 2147483648) ∧ EvI X E_X5_letPass (38, [some (.inr (.inr (some (5, j, 0)))), some (.inl x), some (.inl ((sm (fun h => bi (M 3 j h 0 = 0 ∧ M 3 j h 3 ≤ M 5 j 0 5 + x)) h.toNat) + 1)), some (.inl (h + 1)), some (.inr (.inr (some (3, j, h))))], [], (bcM (wri M1 3 j h 0 3) j (M1 3 j h 1) (M1 3 j h 2) 0)) _)
                refine ih38 ((sm (fun h => bi (M 3 j h 0 = 0 ∧ M 3 j h 3 ≤ M 5 j 0 5 + x)) h.toNat) + 1) (h + 1) (bcM (wri M1 3 j h 0 3) j (M1 3 j h 1) (M1 3 j h 2) 0) (some (.inr (.inr (some (3, j, h))))) (by omega) (by omega) (by omega) (by rw [sm_step q1]; exact acc0 (is1 ⟨g0.symm.trans h59, show M 3 j h 3 ≤ M 5 j 0 5 + x by omega⟩)) (by rw [sl_bcM, sl_wri, q4, exN_step q1, g1, g2]; exact (cif_t ⟨g0.symm.trans h59, show M 3 j h 3 ≤ M 5 j 0 5 + x by omega⟩).symm) (FR_bc (FR_wri stK_3 q5))
            · refine seg_ok 2 (⟨by omega, ?_⟩ : ((-2147483648 : Int) ≤ (h + 1) ∧ (h + 1) < 2147483648) ∧ EvI X E_X5_letPass (38, [some (.inr (.inr (some (5, j, 0)))), some (.inl x), some (.inl (sm (fun h => bi (M 3 j h 0 = 0 ∧ M 3 j h 3 ≤ M 5 j 0 5 + x)) h.toNat)), some (.inl (h + 1)), some (.inr (.inr (some (3, j, h))))], [], M1) _)
              refine ih38 (sm (fun h => bi (M 3 j h 0 = 0 ∧ M 3 j h 3 ≤ M 5 j 0 5 + x)) h.toNat) (h + 1) M1 (some (.inr (.inr (some (3, j, h))))) (by omega) (by omega) (by omega) (by rw [sm_step q1]; exact (Int.add_zero _).symm.trans (acc0 (is0 (fun z => h59 (g0.trans z.1))))) (by rw [exN_step q1, q4]; exact (cif_f (fun z => h59 (g0.trans z.1))).symm) q5
          · refine seg_ok 1 (?_ : EvI X E_X5_letPass (108, [some (.inr (.inr (some (5, j, 0)))), some (.inl x), some (.inl (sm (fun h => bi (M 3 j h 0 = 0 ∧ M 3 j h 3 ≤ M 5 j 0 5 + x)) h.toNat)), some (.inl h), d38_4], [.inl (sm (fun h => bi (M 3 j h 0 = 0 ∧ M 3 j h 3 ≤ M 5 j 0 5 + x)) h.toNat)], M1) _)
            refine ev_rt (r := some (.inl (sm (fun h => bi (M 3 j h 0 = 0 ∧ M 3 j h 3 ≤ M 5 j 0 5 + x)) h.toNat))) rfl (?_)
            have e : opPass (sl M j) x = (sm (fun h => bi (M 3 j h 0 = 0 ∧ M 3 j h 3 ≤ M 5 j 0 5 + x)) (M 5 j 0 3).toNat, exN (st (sl M j) 5 0 5 (M 5 j 0 5 + x)) (M 5 j 0 5 + x) (M 5 j 0 3).toNat) := (cif_f (fun z => z h4)).trans (cif_f h18)
            obtain rfl : h = M 5 j 0 3 := by omega
            exact ⟨rint (by rw [e]), by rw [e]; exact q4, q5⟩
      refine L38 ((M 5 j 0 3 - 0) + 1 : Int).toNat 0 0 (wri M 5 j 0 5 ((M 5 j 0 5) + x)) none (by omega) (by omega) (by omega) rfl sl_wri (FR_wri stK_5 FR_rf)
set_option maxRecDepth 1920 in
theorem d_shutDoors {m : Int} {M : NM} {j : Int} (hI : Inv m (sl M j)) : HT X z_X5_shutDoors [.inr (.inr (some (5, j, 0)))] M (fun rr MM => rr = some (.inl (opClose (sl M j)).1) ∧ sl MM j = (opClose (sl M j)).2 ∧ FR j M MM) := by
  have hi := hI.1
  simp only [Iv0, sl] at hi
  refine ht_of (e := E_X5_shutDoors) rfl (?_ : EvI X E_X5_shutDoors (0, [some (.inr (.inr (some (5, j, 0)))), none, none, none], [], M) _)
  refine seg_ok 3 (?_ : EvI X E_X5_shutDoors (if (M 5 j 0 6) = 0 then 10 else 7, [some (.inr (.inr (some (5, j, 0)))), none, none, none], [], M) _)
  refine ev_if (fun h4 => ?_) (fun h4 => ?_)
  · refine seg_ok 7 (⟨by omega, ?_⟩ : ((1 : Int) = 0 ∨ (1 : Int) = 1) ∧ EvI X E_X5_shutDoors (19, [some (.inr (.inr (some (5, j, 0)))), some (.inl 0), some (.inl 0), none], [], (wri M 5 j 0 6 1)) _)
    have L19 : ∀ (m19 : Nat) (n t : Int) (M1 : NM) (d19_3 : Option U), M 5 j 0 4 - t < (m19 : Int) → (0 ≤ t) → (t ≤ M 5 j 0 4) → (n = sm (fun t => cif (M 6 j t 0 = 0) (M 6 j t 2) 0) t.toNat) → (sl M1 j = noN (st (sl M j) 5 0 6 1) t.toNat) → (FR j M M1) → EvI X E_X5_shutDoors (19, [some (.inr (.inr (some (5, j, 0)))), some (.inl n), some (.inl t), d19_3], [], M1) (fun rr MM => rr = some (.inl (opClose (sl M j)).1) ∧ sl MM j = (opClose (sl M j)).2 ∧ FR j M MM) := by
      intro m19
      induction m19 with
      | zero => intro n t M1 d19_3 hm19 q1 q2 q3 q4 q5; exact absurd hm19 (by omega)
      | succ m19 ih19 =>
        intro n t M1 d19_3 hm19 q1 q2 q3 q4 q5
        subst q3
        have e1 : ∀ K y s, sl M1 j K y s = (noN (st (sl M j) 5 0 6 1) t.toNat) K y s := fun K y s => by rw [q4]
        have gc : M1 5 j 0 4 = M 5 j 0 4 := (e1 5 0 4).trans (noN_o _ _ _ _ (by decide) (fun z => by cases z))
        have g : ∀ s, M1 6 j t s = M 6 j t s := fun s => (e1 6 t s).trans (noN_o _ _ _ _ (by decide) (fun _ => by omega))
        have g0 := g 0
        have g1 := g 1
        have g2 := g 2
        have gb := sm_bndr (f := fun t => cif (M 6 j t 0 = 0) (M 6 j t 2) 0) (c := 10) (n := t.toNat) (fun k k0 k1 => by
          have hh := HO_r hI (HO_t hI ⟨k0, by show k < M 5 j 0 4; omega⟩)
          simp only [sl] at hh
          by_cases q : M 6 j k 0 = 0
          · rw [cif_t q]; omega
          · rw [cif_f q]; omega)
        refine seg_ok 4 (?_ : EvI X E_X5_shutDoors (if t < (M1 5 j 0 4) then 27 else 75, [some (.inr (.inr (some (5, j, 0)))), some (.inl (sm (fun t => cif (M 6 j t 0 = 0) (M 6 j t 2) 0) t.toNat)), some (.inl t), d19_3], [], M1) _)
        refine ev_if (fun h24 => ?_) (fun h24 => ?_)
        · have hh := HO_r hI (HO_t hI ⟨q1, by show t < M 5 j 0 4; omega⟩)
          simp only [sl] at hh
          refine seg_ok 8 (⟨by omega, ?_⟩ : ((0 : Int) ≤ t ∧ t < 20) ∧ EvI X E_X5_shutDoors (if (M1 6 j t 0) = 0 then 41 else 69, [some (.inr (.inr (some (5, j, 0)))), some (.inl (sm (fun t => cif (M 6 j t 0 = 0) (M 6 j t 2) 0) t.toNat)), some (.inl t), some (.inr (.inr (some (6, j, t))))], [], M1) _)
          refine ev_if (fun h38 => ?_) (fun h38 => ?_)
          · refine seg_ok 7 (?_ : EvI X E_X5_shutDoors (54, [some (.inr (.inr (some (5, j, 0)))), some (.inl (sm (fun t => cif (M 6 j t 0 = 0) (M 6 j t 2) 0) t.toNat)), some (.inl t), some (.inr (.inr (some (6, j, t))))], [.inl ((wri M1 6 j t 0 3) 6 j t 1), .inr (.inr (some (1, j, 0)))], (wri M1 6 j t 0 3)) _)
            rw [show ((wri M1 6 j t 0 3) 6 j t 1) = (M1 6 j t 1) from wri_nes (by decide)]
            refine seg_ok 2 (?_ : EvI X E_X5_shutDoors (58, [some (.inr (.inr (some (5, j, 0)))), some (.inl (sm (fun t => cif (M 6 j t 0 = 0) (M 6 j t 2) 0) t.toNat)), some (.inl t), some (.inr (.inr (some (6, j, t))))], [.inl ((wri M1 6 j t 0 3) 6 j t 2), .inl (M1 6 j t 1), .inr (.inr (some (1, j, 0)))], (wri M1 6 j t 0 3)) _)
            rw [show ((wri M1 6 j t 0 3) 6 j t 2) = (M1 6 j t 2) from wri_nes (by decide)]
            refine seg_ok 1 (?_ : EvI X E_X5_shutDoors (59, [some (.inr (.inr (some (5, j, 0)))), some (.inl (sm (fun t => cif (M 6 j t 0 = 0) (M 6 j t 2) 0) t.toNat)), some (.inl t), some (.inr (.inr (some (6, j, t))))], [.inl 0, .inl (M1 6 j t 2), .inl (M1 6 j t 1), .inr (.inr (some (1, j, 0)))], (wri M1 6 j t 0 3)) _)
            refine ev_cl (z := z_X1_mark) (as := [.inr (.inr (some (1, j, 0))), .inl (M1 6 j t 1), .inl (M1 6 j t 2), .inl 0]) (rest := []) rfl (d_mark (by omega) (by omega)) ?_
            intro rr M1 hqM1
            obtain ⟨rfl, hM1⟩ := hqM1
            subst hM1
            show EvI X E_X5_shutDoors (62, [some (.inr (.inr (some (5, j, 0)))), some (.inl (sm (fun t => cif (M 6 j t 0 = 0) (M 6 j t 2) 0) t.toNat)), some (.inl t), some (.inr (.inr (some (6, j, t))))], [], (bcM (wri M1 6 j t 0 3) j (M1 6 j t 1) (M1 6 j t 2) 0)) _
            refine seg_ok 3 (?_ : EvI X E_X5_shutDoors (67, [some (.inr (.inr (some (5, j, 0)))), some (.inl (sm (fun t => cif (M 6 j t 0 = 0) (M 6 j t 2) 0) t.toNat)), some (.inl t), some (.inr (.inr (some (6, j, t))))], [.inl ((wri M1 6 j t 0 3) 6 j t 2), .inl (sm (fun t => cif (M 6 j t 0 = 0) (M 6 j t 2) 0) t.toNat)], (bcM (wri M1 6 j t 0 3) j (M1 6 j t 1) (M1 6 j t 2) 0)) _)
            rw [show ((wri M1 6 j t 0 3) 6 j t 2) = (M1 6 j t 2) from wri_nes (by decide)]
            refine seg_ok 4 (⟨by omega, by omega, ?_⟩ : ((-2147483648 : Int) ≤ ((sm (fun t => cif (M 6 j t 0 = 0) (M 6 j t 2) 0) t.toNat) + (M1 6 j t 2)) ∧ ((sm (fun t => cif (M 6 j t 0 = 0) (M 6 j t 2) 0) t.toNat) + (M1 6 j t 2)) < 2147483648) ∧ ((-2147483648 : Int) ≤ (t + 1) ∧ (t + 1) < 2147483648) ∧ EvI X E_X5_shutDoors (19, [some (.inr (.inr (some (5, j, 0)))), some (.inl ((sm (fun t => cif (M 6 j t 0 = 0) (M 6 j t 2) 0) t.toNat) + (M1 6 j t 2))), some (.inl (t + 1)), some (.inr (.inr (some (6, j, t))))], [], (bcM (wri M1 6 j t 0 3) j (M1 6 j t 1) (M1 6 j t 2) 0)) _)
            refine ih19 ((sm (fun t => cif (M 6 j t 0 = 0) (M 6 j t 2) 0) t.toNat) + (M1 6 j t 2)) (t + 1) (bcM (wri M1 6 j t 0 3) j (M1 6 j t 1) (M1 6 j t 2) 0) (some (.inr (.inr (some (6, j, t))))) (by omega) (by omega) (by omega) (by rw [sm_step q1]; exact acc0 (by rw [g2]; exact (cif_t (g0.symm.trans h38)).symm)) (by rw [sl_bcM, sl_wri, q4, noN_step q1, g1, g2]; exact (cif_t (g0.symm.trans h38)).symm) (FR_bc (FR_wri stK_6 q5))
          · refine seg_ok 2 (⟨by omega, ?_⟩ : ((-2147483648 : Int) ≤ (t + 1) ∧ (t + 1) < 2147483648) ∧ EvI X E_X5_shutDoors (19, [some (.inr (.inr (some (5, j, 0)))), some (.inl (sm (fun t => cif (M 6 j t 0 = 0) (M 6 j t 2) 0) t.toNat)), some (.inl (t + 1)), some (.inr (.inr (some (6, j, t))))], [], M1) _)
            refine ih19 (sm (fun t => cif (M 6 j t 0 = 0) (M 6 j t 2) 0) t.toNat) (t + 1) M1 (some (.inr (.inr (some (6, j, t))))) (by omega) (by omega) (by omega) (by rw [sm_step q1]; exact (Int.add_zero _).symm.trans (acc0 (cif_f (fun z => h38 (g0.trans z))).symm)) (by rw [noN_step q1, q4]; exact (cif_f (fun z => h38 (g0.trans z))).symm) q5
        · refine seg_ok 1 (?_ : EvI X E_X5_shutDoors (76, [some (.inr (.inr (some (5, j, 0)))), some (.inl (sm (fun t => cif (M 6 j t 0 = 0) (M 6 j t 2) 0) t.toNat)), some (.inl t), d19_3], [.inl (sm (fun t => cif (M 6 j t 0 = 0) (M 6 j t 2) 0) t.toNat)], M1) _)
          refine ev_rt (r := some (.inl (sm (fun t => cif (M 6 j t 0 = 0) (M 6 j t 2) 0) t.toNat))) rfl (?_)
          have e : opClose (sl M j) = (sm (fun t => cif (M 6 j t 0 = 0) (M 6 j t 2) 0) (M 5 j 0 4).toNat, noN (st (sl M j) 5 0 6 1) (M 5 j 0 4).toNat) := cif_f (fun z => z h4)
          obtain rfl : t = M 5 j 0 4 := by omega
          exact ⟨rint (by rw [e]), by rw [e]; exact q4, q5⟩
    refine L19 ((M 5 j 0 4 - 0) + 1 : Int).toNat 0 0 (wri M 5 j 0 6 1) none (by omega) (by omega) (by omega) rfl sl_wri (FR_wri stK_5 FR_rf)
  · refine seg_ok 1 (?_ : EvI X E_X5_shutDoors (9, [some (.inr (.inr (some (5, j, 0)))), none, none, none], [.inl (-2)], M) _)
    refine ev_rt (r := some (.inl (-2))) rfl (?_)
    have e : opClose (sl M j) = (-2, sl M j) := cif_t h4
    exact ⟨rint (by rw [e]), by rw [e], FR_rf⟩
end
