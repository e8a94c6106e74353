/-! 42: the class: an order of a program -/
theorem cif_r {P : Prop} {a b l h : Int} (ha : l ≤ a ∧ a ≤ h) (hb : l ≤ b ∧ b ≤ h) : l ≤ cif P a b ∧ cif P a b ≤ h := by
  by_cases q : P
  · rw [cif_t q]; exact ha
  · rw [cif_f q]; exact hb
theorem ordC_r (T : Int → Int) (L s : Int) : 0 ≤ ordC T L s ∧ ordC T L s ≤ 7 := by
  unfold ordC
  exact cif_r ⟨by decide, by decide⟩ (cif_r ⟨by decide, by decide⟩ (cif_r ⟨by decide, by decide⟩ (cif_r ⟨by decide, by decide⟩ (cif_r ⟨by decide, by decide⟩ (cif_r ⟨by decide, by decide⟩ (cif_r ⟨by decide, by decide⟩ (⟨by decide, by decide⟩)))))))
theorem TX_SQ {T : Int → Int} {L : Int} {M MM : NM} {s : Int} (h : TX T L M MM s) : SQ (sl M 0) (sl MM 0) := fun K q => by
  funext i x
  show MM K 0 i x = M K 0 i x
  rw [h.2.2.2 K (by unfold stK at q; omega) (by unfold stK at q; omega)]
def RP (T : Int → Int) (L : Int) (M : NM) (s : Int) (rr : Option U) (MM : NM) : Prop := rr = some (.inl (ordR T L s (sl M 0)).1) ∧ SQ (ordR T L s (sl M 0)).2 (sl MM 0) ∧ (∀ x, x ≠ 3 → x ≠ 4 → MM 4 0 0 x = M 4 0 0 x) ∧ (∀ K, K ≠ 4 → K ≠ 16 → ∀ j i x, (j ≠ 0 ∨ ¬ stK K) → MM K j i x = M K j i x) ∧ (0 ≤ MM 4 0 0 4 ∧ MM 4 0 0 4 ≤ L) ∧ ((ordR T L s (sl M 0)).1 = -1 → MM 4 0 0 4 = tkE T L (ordQ T L s))
theorem RP_tx {T : Int → Int} {L : Int} {M MM : NM} {s u v : Int} (h : TX T L M MM u) (hu : 0 ≤ u ∧ u ≤ L) (e : ordR T L s (sl M 0) = (v, sl M 0)) (hv : 0 ≤ v) : RP T L M s (some (.inl v)) MM := by
  have t := tk_r (T := T) hu.2
  unfold RP
  rw [e]
  exact ⟨rfl, TX_SQ h, h.2.2.1, fun K a b j i x _ => by rw [h.2.2.2 K a b], by rw [h.2.1]; omega, fun z => absurd (show v = -1 from z) (by omega)⟩
theorem RP_pf {T : Int → Int} {L : Int} {M MM M2 : NM} {s v : Int} {R : Int × Sl} (h : TX T L M MM (ordQ T L s)) (hu : 0 ≤ ordQ T L s ∧ ordQ T L s ≤ L) (e : ordR T L s (sl M 0) = (v, (ordX T L s (sl M 0)).2)) (hR : OQ (ordX T L s (sl M 0)) R) (e1 : sl M2 0 = R.2) (f : FR 0 MM M2) : RP T L M s (some (.inl v)) M2 := by
  have t := tk_r (T := T) hu.2
  have e4 : M2 4 = MM 4 := FR_K f (by unfold stK; omega)
  unfold RP
  rw [e]
  refine ⟨rfl, by rw [e1]; exact hR.2, fun x a b => by rw [e4]; exact h.2.2.1 x a b, fun K a b j i x q => ?_, by rw [e4, h.2.1]; omega, fun _ => by rw [e4]; exact h.2.1⟩
  rw [f K j i x q, h.2.2.2 K a b]
section
variable {X : XI}
set_option maxRecDepth 2370 in
theorem d_runOrder {m : Int} {M : NM} {T : Int → Int} {L : Int} {s : Int} (hL : M 4 0 0 2 = L) (hL2 : 0 ≤ L ∧ L ≤ 120) (hT : ∀ k, 0 ≤ k → k < L → M 15 0 0 k = T k) (hs : 0 ≤ s ∧ s < L) (h3 : M 4 0 0 3 = s) (h4 : M 4 0 0 4 = tkE T L s) (hI : Inv m (sl M 0)) (hm : m + 1 ≤ 62000) : HT X z_X4_runOrder [.inr (.inr (some (4, 0, 0))), .inr (.inr (some (5, 0, 0)))] M (RP T L M s) := by
  refine ht_of (e := E_X4_runOrder) rfl (?_ : EvI X E_X4_runOrder (0, [some (.inr (.inr (some (4, 0, 0)))), some (.inr (.inr (some (5, 0, 0)))), none, none, none, none], [], M) _)
  have b0 : 0 ≤ s ∧ s ≤ L := by omega
  have t0 : TX T L M M s := ⟨h3, h4, fun _ _ _ => rfl, fun _ _ _ => rfl⟩
  have hoC := ordC_r T L s
  refine seg_ok 4 (?_ : EvI X E_X4_runOrder (6, [some (.inr (.inr (some (4, 0, 0)))), some (.inr (.inr (some (5, 0, 0)))), some (.inl (M 4 0 0 3)), none, none, none], [.inr (.inr (some (4, 0, 0)))], M) _)
  refine ev_clp (v := .inl (ordC T L s - 1)) (z := z_X4_orderOfToken) (as := [.inr (.inr (some (4, 0, 0)))]) (rest := []) rfl (d_orderOfToken hL hL2 hT b0 h3 h4) (?_ : EvI X E_X4_runOrder (9, [some (.inr (.inr (some (4, 0, 0)))), some (.inr (.inr (some (5, 0, 0)))), some (.inl (M 4 0 0 3)), none, none, none], [.inl (ordC T L s - 1)], M) _)
  refine seg_ok 4 (?_ : EvI X E_X4_runOrder (if (ordC T L s - 1) = (-1) then 15 else 17, [some (.inr (.inr (some (4, 0, 0)))), some (.inr (.inr (some (5, 0, 0)))), some (.inl (M 4 0 0 3)), some (.inl (ordC T L s - 1)), none, none], [], M) _)
  refine ev_if (fun h12 => ?_) (fun h12 => ?_)
  · refine seg_ok 1 (?_ : EvI X E_X4_runOrder (16, [some (.inr (.inr (some (4, 0, 0)))), some (.inr (.inr (some (5, 0, 0)))), some (.inl (M 4 0 0 3)), some (.inl (ordC T L s - 1)), none, none], [.inl (M 4 0 0 3)], M) _)
    refine ev_rt (r := some (.inl (M 4 0 0 3))) rfl (?_)
    rw [h3]
    exact RP_tx (v := s) t0 b0 (cif_t (by omega)) hs.1
  · refine seg_ok 2 (?_ : EvI X E_X4_runOrder (if (ordC T L s - 1) = 0 then 21 else 25, [some (.inr (.inr (some (4, 0, 0)))), some (.inr (.inr (some (5, 0, 0)))), some (.inl (M 4 0 0 3)), some (.inl (ordC T L s - 1)), none, none], [], M) _)
    refine ev_if (fun h18 => ?_) (fun h18 => ?_)
    · refine seg_ok 5 (?_ : EvI X E_X4_runOrder (31, [some (.inr (.inr (some (4, 0, 0)))), some (.inr (.inr (some (5, 0, 0)))), some (.inl (M 4 0 0 3)), some (.inl (ordC T L s - 1)), some (.inl 3), some (.inl 0)], [], M) _)
      refine seg_ok 4 (?_ : EvI X E_X4_runOrder (39, [some (.inr (.inr (some (4, 0, 0)))), some (.inr (.inr (some (5, 0, 0)))), some (.inl (M 4 0 0 3)), some (.inl (ordC T L s - 1)), some (.inl 3), some (.inl 0)], [.inr (.inr (some (4, 0, 0)))], M) _)
      refine ev_cl (z := z_X4_readToken) (as := [.inr (.inr (some (4, 0, 0)))]) (rest := []) rfl (d_readX hL hL2 hT t0 b0) ?_
      intro rr M1 hq
      obtain ⟨rfl, t_M1, g_M1⟩ := hq
      have b_M1 := (nk_r (T := T) b0).1
      show EvI X E_X4_runOrder (42, [some (.inr (.inr (some (4, 0, 0)))), some (.inr (.inr (some (5, 0, 0)))), some (.inl (M 4 0 0 3)), some (.inl (ordC T L s - 1)), some (.inl 3), some (.inl 0)], [], M1) _
      refine seg_ok 4 (?_ : EvI X E_X4_runOrder (49, [some (.inr (.inr (some (4, 0, 0)))), some (.inr (.inr (some (5, 0, 0)))), some (.inl (M 4 0 0 3)), some (.inl (ordC T L s - 1)), some (.inl 3), some (.inl 0)], [.inr (.inr (some (4, 0, 0))), .inl 0, .inr (.inr (some (16, 0, 0)))], M1) _)
      refine ev_clp (v := .inl (numC T L (nk T L s))) (z := z_X4_numberOfToken) (as := [.inr (.inr (some (4, 0, 0)))]) (rest := [.inl 0, .inr (.inr (some (16, 0, 0)))]) rfl (d_numX hL hL2 hT t_M1 b_M1) (?_ : EvI X E_X4_runOrder (52, [some (.inr (.inr (some (4, 0, 0)))), some (.inr (.inr (some (5, 0, 0)))), some (.inl (M 4 0 0 3)), some (.inl (ordC T L s - 1)), some (.inl 3), some (.inl 0)], [.inl (numC T L (nk T L s)), .inl 0, .inr (.inr (some (16, 0, 0)))], M1) _)
      refine seg_ok 5 (⟨by decide, by omega, ?_⟩ : ((0 : Int) ≤ 0 ∧ (0 : Int) < 3) ∧ ((0 : Int) ≤ 0 ∧ (0 : Int) < 3) ∧ EvI X E_X4_runOrder (60, [some (.inr (.inr (some (4, 0, 0)))), some (.inr (.inr (some (5, 0, 0)))), some (.inl (M 4 0 0 3)), some (.inl (ordC T L s - 1)), some (.inl 3), some (.inl 0)], [.inl ((wri M1 16 0 0 0 (numC T L (nk T L s))) 16 0 0 0)], (wri M1 16 0 0 0 (numC T L (nk T L s)))) _)
      rw [show ((wri M1 16 0 0 0 (numC T L (nk T L s))) 16 0 0 0) = (numC T L (nk T L s)) from wri_eq]
      refine seg_ok 2 (?_ : EvI X E_X4_runOrder (if (numC T L (nk T L s)) = (-1) then 64 else 69, [some (.inr (.inr (some (4, 0, 0)))), some (.inr (.inr (some (5, 0, 0)))), some (.inl (M 4 0 0 3)), some (.inl (ordC T L s - 1)), some (.inl 3), some (.inl 0)], [], (wri M1 16 0 0 0 (numC T L (nk T L s)))) _)
      refine ev_if (fun h61 => ?_) (fun h61 => ?_)
      · have h61_0 := h61
        refine seg_ok 2 (?_ : EvI X E_X4_runOrder (68, [some (.inr (.inr (some (4, 0, 0)))), some (.inr (.inr (some (5, 0, 0)))), some (.inl (M 4 0 0 3)), some (.inl (ordC T L s - 1)), some (.inl 3), some (.inl 0)], [.inl (M1 4 0 0 3)], (wri M1 16 0 0 0 (numC T L (nk T L s)))) _)
        refine ev_rt (r := some (.inl (M1 4 0 0 3))) rfl (?_)
        rw [t_M1.1]
        exact RP_tx (TX_w t_M1) b_M1 (by rw [ordR, cif_f (by omega), cif_t h61_0]) b_M1.1
      · have h61_0 := h61
        refine seg_ok 2 (⟨by omega, ?_⟩ : ((-2147483648 : Int) ≤ 1 ∧ (1 : Int) < 2147483648) ∧ EvI X E_X4_runOrder (31, [some (.inr (.inr (some (4, 0, 0)))), some (.inr (.inr (some (5, 0, 0)))), some (.inl (M 4 0 0 3)), some (.inl (ordC T L s - 1)), some (.inl 3), some (.inl 1)], [], (wri M1 16 0 0 0 (numC T L (nk T L s)))) _)
        refine seg_ok 4 (?_ : EvI X E_X4_runOrder (39, [some (.inr (.inr (some (4, 0, 0)))), some (.inr (.inr (some (5, 0, 0)))), some (.inl (M 4 0 0 3)), some (.inl (ordC T L s - 1)), some (.inl 3), some (.inl 1)], [.inr (.inr (some (4, 0, 0)))], (wri M1 16 0 0 0 (numC T L (nk T L s)))) _)
        refine ev_cl (z := z_X4_readToken) (as := [.inr (.inr (some (4, 0, 0)))]) (rest := []) rfl (d_readX hL hL2 hT (TX_w t_M1) b_M1) ?_
        intro rr M2 hq
        obtain ⟨rfl, t_M2, g_M2⟩ := hq
        have b_M2 := (nk_r (T := T) b_M1).1
        show EvI X E_X4_runOrder (42, [some (.inr (.inr (some (4, 0, 0)))), some (.inr (.inr (some (5, 0, 0)))), some (.inl (M 4 0 0 3)), some (.inl (ordC T L s - 1)), some (.inl 3), some (.inl 1)], [], M2) _
        refine seg_ok 4 (?_ : EvI X E_X4_runOrder (49, [some (.inr (.inr (some (4, 0, 0)))), some (.inr (.inr (some (5, 0, 0)))), some (.inl (M 4 0 0 3)), some (.inl (ordC T L s - 1)), some (.inl 3), some (.inl 1)], [.inr (.inr (some (4, 0, 0))), .inl 1, .inr (.inr (some (16, 0, 0)))], M2) _)
        refine ev_clp (v := .inl (numC T L (nk T L (nk T L s)))) (z := z_X4_numberOfToken) (as := [.inr (.inr (some (4, 0, 0)))]) (rest := [.inl 1, .inr (.inr (some (16, 0, 0)))]) rfl (d_numX hL hL2 hT t_M2 b_M2) (?_ : EvI X E_X4_runOrder (52, [some (.inr (.inr (some (4, 0, 0)))), some (.inr (.inr (some (5, 0, 0)))), some (.inl (M 4 0 0 3)), some (.inl (ordC T L s - 1)), some (.inl 3), some (.inl 1)], [.inl (numC T L (nk T L (nk T L s))), .inl 1, .inr (.inr (some (16, 0, 0)))], M2) _)
        refine seg_ok 5 (⟨by omega, by omega, ?_⟩ : ((0 : Int) ≤ 1 ∧ (1 : Int) < 3) ∧ ((0 : Int) ≤ 1 ∧ (1 : Int) < 3) ∧ EvI X E_X4_runOrder (60, [some (.inr (.inr (some (4, 0, 0)))), some (.inr (.inr (some (5, 0, 0)))), some (.inl (M 4 0 0 3)), some (.inl (ordC T L s - 1)), some (.inl 3), some (.inl 1)], [.inl ((wri M2 16 0 0 1 (numC T L (nk T L (nk T L s)))) 16 0 0 1)], (wri M2 16 0 0 1 (numC T L (nk T L (nk T L s))))) _)
        rw [show ((wri M2 16 0 0 1 (numC T L (nk T L (nk T L s)))) 16 0 0 1) = (numC T L (nk T L (nk T L s))) from wri_eq]
        refine seg_ok 2 (?_ : EvI X E_X4_runOrder (if (numC T L (nk T L (nk T L s))) = (-1) then 64 else 69, [some (.inr (.inr (some (4, 0, 0)))), some (.inr (.inr (some (5, 0, 0)))), some (.inl (M 4 0 0 3)), some (.inl (ordC T L s - 1)), some (.inl 3), some (.inl 1)], [], (wri M2 16 0 0 1 (numC T L (nk T L (nk T L s))))) _)
        refine ev_if (fun h61 => ?_) (fun h61 => ?_)
        · have h61_1 := h61
          refine seg_ok 2 (?_ : EvI X E_X4_runOrder (68, [some (.inr (.inr (some (4, 0, 0)))), some (.inr (.inr (some (5, 0, 0)))), some (.inl (M 4 0 0 3)), some (.inl (ordC T L s - 1)), some (.inl 3), some (.inl 1)], [.inl (M2 4 0 0 3)], (wri M2 16 0 0 1 (numC T L (nk T L (nk T L s))))) _)
          refine ev_rt (r := some (.inl (M2 4 0 0 3))) rfl (?_)
          rw [t_M2.1]
          exact RP_tx (TX_w t_M2) b_M2 (by rw [ordR, cif_f (by omega), cif_f h61_0, cif_t ⟨by omega, h61_1⟩]) b_M2.1
        · have h61_1 := h61
          refine seg_ok 2 (⟨by omega, ?_⟩ : ((-2147483648 : Int) ≤ 2 ∧ (2 : Int) < 2147483648) ∧ EvI X E_X4_runOrder (31, [some (.inr (.inr (some (4, 0, 0)))), some (.inr (.inr (some (5, 0, 0)))), some (.inl (M 4 0 0 3)), some (.inl (ordC T L s - 1)), some (.inl 3), some (.inl 2)], [], (wri M2 16 0 0 1 (numC T L (nk T L (nk T L s))))) _)
          refine seg_ok 4 (?_ : EvI X E_X4_runOrder (39, [some (.inr (.inr (some (4, 0, 0)))), some (.inr (.inr (some (5, 0, 0)))), some (.inl (M 4 0 0 3)), some (.inl (ordC T L s - 1)), some (.inl 3), some (.inl 2)], [.inr (.inr (some (4, 0, 0)))], (wri M2 16 0 0 1 (numC T L (nk T L (nk T L s))))) _)
          refine ev_cl (z := z_X4_readToken) (as := [.inr (.inr (some (4, 0, 0)))]) (rest := []) rfl (d_readX hL hL2 hT (TX_w t_M2) b_M2) ?_
          intro rr M3 hq
          obtain ⟨rfl, t_M3, g_M3⟩ := hq
          have b_M3 := (nk_r (T := T) b_M2).1
          show EvI X E_X4_runOrder (42, [some (.inr (.inr (some (4, 0, 0)))), some (.inr (.inr (some (5, 0, 0)))), some (.inl (M 4 0 0 3)), some (.inl (ordC T L s - 1)), some (.inl 3), some (.inl 2)], [], M3) _
          refine seg_ok 4 (?_ : EvI X E_X4_runOrder (49, [some (.inr (.inr (some (4, 0, 0)))), some (.inr (.inr (some (5, 0, 0)))), some (.inl (M 4 0 0 3)), some (.inl (ordC T L s - 1)), some (.inl 3), some (.inl 2)], [.inr (.inr (some (4, 0, 0))), .inl 2, .inr (.inr (some (16, 0, 0)))], M3) _)
          refine ev_clp (v := .inl (numC T L (nk T L (nk T L (nk T L s))))) (z := z_X4_numberOfToken) (as := [.inr (.inr (some (4, 0, 0)))]) (rest := [.inl 2, .inr (.inr (some (16, 0, 0)))]) rfl (d_numX hL hL2 hT t_M3 b_M3) (?_ : EvI X E_X4_runOrder (52, [some (.inr (.inr (some (4, 0, 0)))), some (.inr (.inr (some (5, 0, 0)))), some (.inl (M 4 0 0 3)), some (.inl (ordC T L s - 1)), some (.inl 3), some (.inl 2)], [.inl (numC T L (nk T L (nk T L (nk T L s)))), .inl 2, .inr (.inr (some (16, 0, 0)))], M3) _)
          refine seg_ok 5 (⟨by omega, by omega, ?_⟩ : ((0 : Int) ≤ 2 ∧ (2 : Int) < 3) ∧ ((0 : Int) ≤ 2 ∧ (2 : Int) < 3) ∧ EvI X E_X4_runOrder (60, [some (.inr (.inr (some (4, 0, 0)))), some (.inr (.inr (some (5, 0, 0)))), some (.inl (M 4 0 0 3)), some (.inl (ordC T L s - 1)), some (.inl 3), some (.inl 2)], [.inl ((wri M3 16 0 0 2 (numC T L (nk T L (nk T L (nk T L s))))) 16 0 0 2)], (wri M3 16 0 0 2 (numC T L (nk T L (nk T L (nk T L s)))))) _)
          rw [show ((wri M3 16 0 0 2 (numC T L (nk T L (nk T L (nk T L s))))) 16 0 0 2) = (numC T L (nk T L (nk T L (nk T L s)))) from wri_eq]
          refine seg_ok 2 (?_ : EvI X E_X4_runOrder (if (numC T L (nk T L (nk T L (nk T L s)))) = (-1) then 64 else 69, [some (.inr (.inr (some (4, 0, 0)))), some (.inr (.inr (some (5, 0, 0)))), some (.inl (M 4 0 0 3)), some (.inl (ordC T L s - 1)), some (.inl 3), some (.inl 2)], [], (wri M3 16 0 0 2 (numC T L (nk T L (nk T L (nk T L s)))))) _)
          refine ev_if (fun h61 => ?_) (fun h61 => ?_)
          · have h61_2 := h61
            refine seg_ok 2 (?_ : EvI X E_X4_runOrder (68, [some (.inr (.inr (some (4, 0, 0)))), some (.inr (.inr (some (5, 0, 0)))), some (.inl (M 4 0 0 3)), some (.inl (ordC T L s - 1)), some (.inl 3), some (.inl 2)], [.inl (M3 4 0 0 3)], (wri M3 16 0 0 2 (numC T L (nk T L (nk T L (nk T L s)))))) _)
            refine ev_rt (r := some (.inl (M3 4 0 0 3))) rfl (?_)
            rw [t_M3.1]
            exact RP_tx (TX_w t_M3) b_M3 (by rw [ordR, cif_f (by omega), cif_f h61_0, cif_f (fun z => h61_1 z.2), cif_t ⟨by omega, h61_2⟩]) b_M3.1
          · have h61_2 := h61
            refine seg_ok 2 (⟨by omega, ?_⟩ : ((-2147483648 : Int) ≤ 3 ∧ (3 : Int) < 2147483648) ∧ EvI X E_X4_runOrder (31, [some (.inr (.inr (some (4, 0, 0)))), some (.inr (.inr (some (5, 0, 0)))), some (.inl (M 4 0 0 3)), some (.inl (ordC T L s - 1)), some (.inl 3), some (.inl 3)], [], (wri M3 16 0 0 2 (numC T L (nk T L (nk T L (nk T L s)))))) _)
            refine seg_ok 4 (?_ : EvI X E_X4_runOrder (76, [some (.inr (.inr (some (4, 0, 0)))), some (.inr (.inr (some (5, 0, 0)))), some (.inl (M 4 0 0 3)), some (.inl (ordC T L s - 1)), some (.inl 3), some (.inl 3)], [.inr (.inr (some (4, 0, 0)))], (wri M3 16 0 0 2 (numC T L (nk T L (nk T L (nk T L s)))))) _)
            refine ev_cl (z := z_X4_readToken) (as := [.inr (.inr (some (4, 0, 0)))]) (rest := []) rfl (d_readX hL hL2 hT (TX_w t_M3) b_M3) ?_
            intro rr M4 hq
            obtain ⟨rfl, t_M4, g_M4⟩ := hq
            have b_M4 := (nk_r (T := T) b_M3).1
            show EvI X E_X4_runOrder (79, [some (.inr (.inr (some (4, 0, 0)))), some (.inr (.inr (some (5, 0, 0)))), some (.inl (M 4 0 0 3)), some (.inl (ordC T L s - 1)), some (.inl 3), some (.inl 3)], [], M4) _
            refine seg_ok 2 (?_ : EvI X E_X4_runOrder (82, [some (.inr (.inr (some (4, 0, 0)))), some (.inr (.inr (some (5, 0, 0)))), some (.inl (M 4 0 0 3)), some (.inl (ordC T L s - 1)), some (.inl 3), some (.inl 3)], [.inr (.inr (some (31, 7, 0))), .inr (.inr (some (4, 0, 0)))], M4) _)
            refine ev_clp (v := .inl (bi (isW T (nk T L (nk T L (nk T L (nk T L s)))) (tkE T L (nk T L (nk T L (nk T L (nk T L s))))) ([59] : List Nat)))) (z := z_X4_tokenIs) (as := [.inr (.inr (some (4, 0, 0))), .inr (.inr (some (31, 7, 0)))]) (rest := []) rfl (d_semiX hL hL2 hT t_M4 b_M4) (?_ : EvI X E_X4_runOrder (85, [some (.inr (.inr (some (4, 0, 0)))), some (.inr (.inr (some (5, 0, 0)))), some (.inl (M 4 0 0 3)), some (.inl (ordC T L s - 1)), some (.inl 3), some (.inl 3)], [.inl (bi (isW T (nk T L (nk T L (nk T L (nk T L s)))) (tkE T L (nk T L (nk T L (nk T L (nk T L s))))) ([59] : List Nat)))], M4) _)
            refine seg_ok 1 (?_ : EvI X E_X4_runOrder (if (bi (isW T (nk T L (nk T L (nk T L (nk T L s)))) (tkE T L (nk T L (nk T L (nk T L (nk T L s))))) ([59] : List Nat))) = 0 then 88 else 93, [some (.inr (.inr (some (4, 0, 0)))), some (.inr (.inr (some (5, 0, 0)))), some (.inl (M 4 0 0 3)), some (.inl (ordC T L s - 1)), some (.inl 3), some (.inl 3)], [], M4) _)
            refine ev_ifb (fun h85 => ?_) (fun h85 => ?_)
            · refine seg_ok 2 (?_ : EvI X E_X4_runOrder (92, [some (.inr (.inr (some (4, 0, 0)))), some (.inr (.inr (some (5, 0, 0)))), some (.inl (M 4 0 0 3)), some (.inl (ordC T L s - 1)), some (.inl 3), some (.inl 3)], [.inl (M4 4 0 0 3)], M4) _)
              refine ev_rt (r := some (.inl (M4 4 0 0 3))) rfl (?_)
              have eQ : ordQ T L s = (nk T L (nk T L (nk T L (nk T L s)))) := cif_t (by omega)
              rw [t_M4.1]
              exact RP_tx t_M4 b_M4 (by rw [ordR, cif_f (by omega), cif_f h61_0, cif_f (fun z => h61_1 z.2), cif_f (fun z => h61_2 z.2), eQ, cif_t h85]) b_M4.1
            · refine seg_ok 3 (?_ : EvI X E_X4_runOrder (96, [some (.inr (.inr (some (4, 0, 0)))), some (.inr (.inr (some (5, 0, 0)))), some (.inl (M 4 0 0 3)), some (.inl (ordC T L s - 1)), some (.inl 3), some (.inl 3)], [.inr (.inr (some (5, 0, 0))), .inl (ordC T L s - 1), .inr (.inr (some (4, 0, 0)))], M4) _)
              refine ev_cl (z := z_X4_perform) (as := [.inr (.inr (some (4, 0, 0))), .inl (ordC T L s - 1), .inr (.inr (some (5, 0, 0)))]) (rest := []) rfl (d_perform (Inv_SE hI (SQ_SE (TX_SQ t_M4))) hm (x := ordC T L s - 1) (by omega)) ?_
              intro rr M5 hq
              obtain ⟨rfl, e1, f1⟩ := hq
              show EvI X E_X4_runOrder (99, [some (.inr (.inr (some (4, 0, 0)))), some (.inr (.inr (some (5, 0, 0)))), some (.inl (M 4 0 0 3)), some (.inl (ordC T L s - 1)), some (.inl 3), some (.inl 3)], [.inl ((opO (ordC T L s - 1 + 1) (sl M4 0) (M4 16 0 0 0) (M4 16 0 0 1) (M4 16 0 0 2)).1)], M5) _
              refine seg_ok 1 (?_ : EvI X E_X4_runOrder (if (opO (ordC T L s - 1 + 1) (sl M4 0) (M4 16 0 0 0) (M4 16 0 0 1) (M4 16 0 0 2)).1 < 0 then 102 else 106, [some (.inr (.inr (some (4, 0, 0)))), some (.inr (.inr (some (5, 0, 0)))), some (.inl (M 4 0 0 3)), some (.inl (ordC T L s - 1)), some (.inl 3), some (.inl 3)], [], M5) _)
              refine ev_if (fun h99 => ?_) (fun h99 => ?_)
              · refine seg_ok 2 (?_ : EvI X E_X4_runOrder (107, [some (.inr (.inr (some (4, 0, 0)))), some (.inr (.inr (some (5, 0, 0)))), some (.inl (M 4 0 0 3)), some (.inl (ordC T L s - 1)), some (.inl 3), some (.inl 3)], [.inl (M 4 0 0 3)], M5) _)
                refine ev_rt (r := some (.inl (M 4 0 0 3))) rfl (?_)
                have eQ : ordQ T L s = (nk T L (nk T L (nk T L (nk T L s)))) := cif_t (by omega)
                have n0 : M4 16 0 0 0 = numC T L (nk T L s) := by rw [g_M4, wri_nes (by decide), g_M3, wri_nes (by decide), g_M2, wri_eq]
                have n1 : M4 16 0 0 1 = numC T L (nk T L (nk T L s)) := by rw [g_M4, wri_nes (by decide), g_M3, wri_eq]
                have n2 : M4 16 0 0 2 = numC T L (nk T L (nk T L (nk T L s))) := by rw [g_M4, wri_eq]
                have oX : OQ (ordX T L s (sl M 0)) (opO (ordC T L s - 1 + 1) (sl M4 0) (M4 16 0 0 0) (M4 16 0 0 1) (M4 16 0 0 2)) := by
                  rw [n0, n1, n2, Int.sub_add_cancel]; exact OQ_op (TX_SQ t_M4)
                rw [h3]
                exact RP_pf (eQ.symm ▸ t_M4) (eQ.symm ▸ b_M4) (by rw [ordR, cif_f (by omega), cif_f h61_0, cif_f (fun z => h61_1 z.2), cif_f (fun z => h61_2 z.2), eQ, cif_f (fun z => z h85), cif_t (oX.1 ▸ h99)]) oX e1 f1
              · refine seg_ok 1 (?_ : EvI X E_X4_runOrder (107, [some (.inr (.inr (some (4, 0, 0)))), some (.inr (.inr (some (5, 0, 0)))), some (.inl (M 4 0 0 3)), some (.inl (ordC T L s - 1)), some (.inl 3), some (.inl 3)], [.inl (-1)], M5) _)
                refine ev_rt (r := some (.inl (-1))) rfl (?_)
                have eQ : ordQ T L s = (nk T L (nk T L (nk T L (nk T L s)))) := cif_t (by omega)
                have n0 : M4 16 0 0 0 = numC T L (nk T L s) := by rw [g_M4, wri_nes (by decide), g_M3, wri_nes (by decide), g_M2, wri_eq]
                have n1 : M4 16 0 0 1 = numC T L (nk T L (nk T L s)) := by rw [g_M4, wri_nes (by decide), g_M3, wri_eq]
                have n2 : M4 16 0 0 2 = numC T L (nk T L (nk T L (nk T L s))) := by rw [g_M4, wri_eq]
                have oX : OQ (ordX T L s (sl M 0)) (opO (ordC T L s - 1 + 1) (sl M4 0) (M4 16 0 0 0) (M4 16 0 0 1) (M4 16 0 0 2)) := by
                  rw [n0, n1, n2, Int.sub_add_cancel]; exact OQ_op (TX_SQ t_M4)
                exact RP_pf (eQ.symm ▸ t_M4) (eQ.symm ▸ b_M4) (by rw [ordR, cif_f (by omega), cif_f h61_0, cif_f (fun z => h61_1 z.2), cif_f (fun z => h61_2 z.2), eQ, cif_f (fun z => z h85), cif_f (oX.1 ▸ h99)]) oX e1 f1
    · refine seg_ok 4 (?_ : EvI X E_X4_runOrder (31, [some (.inr (.inr (some (4, 0, 0)))), some (.inr (.inr (some (5, 0, 0)))), some (.inl (M 4 0 0 3)), some (.inl (ordC T L s - 1)), some (.inl 1), some (.inl 0)], [], M) _)
      refine seg_ok 4 (?_ : EvI X E_X4_runOrder (39, [some (.inr (.inr (some (4, 0, 0)))), some (.inr (.inr (some (5, 0, 0)))), some (.inl (M 4 0 0 3)), some (.inl (ordC T L s - 1)), some (.inl 1), some (.inl 0)], [.inr (.inr (some (4, 0, 0)))], M) _)
      refine ev_cl (z := z_X4_readToken) (as := [.inr (.inr (some (4, 0, 0)))]) (rest := []) rfl (d_readX hL hL2 hT t0 b0) ?_
      intro rr M6 hq
      obtain ⟨rfl, t_M6, g_M6⟩ := hq
      have b_M6 := (nk_r (T := T) b0).1
      show EvI X E_X4_runOrder (42, [some (.inr (.inr (some (4, 0, 0)))), some (.inr (.inr (some (5, 0, 0)))), some (.inl (M 4 0 0 3)), some (.inl (ordC T L s - 1)), some (.inl 1), some (.inl 0)], [], M6) _
      refine seg_ok 4 (?_ : EvI X E_X4_runOrder (49, [some (.inr (.inr (some (4, 0, 0)))), some (.inr (.inr (some (5, 0, 0)))), some (.inl (M 4 0 0 3)), some (.inl (ordC T L s - 1)), some (.inl 1), some (.inl 0)], [.inr (.inr (some (4, 0, 0))), .inl 0, .inr (.inr (some (16, 0, 0)))], M6) _)
      refine ev_clp (v := .inl (numC T L (nk T L s))) (z := z_X4_numberOfToken) (as := [.inr (.inr (some (4, 0, 0)))]) (rest := [.inl 0, .inr (.inr (some (16, 0, 0)))]) rfl (d_numX hL hL2 hT t_M6 b_M6) (?_ : EvI X E_X4_runOrder (52, [some (.inr (.inr (some (4, 0, 0)))), some (.inr (.inr (some (5, 0, 0)))), some (.inl (M 4 0 0 3)), some (.inl (ordC T L s - 1)), some (.inl 1), some (.inl 0)], [.inl (numC T L (nk T L s)), .inl 0, .inr (.inr (some (16, 0, 0)))], M6) _)
      refine seg_ok 5 (⟨by decide, by omega, ?_⟩ : ((0 : Int) ≤ 0 ∧ (0 : Int) < 3) ∧ ((0 : Int) ≤ 0 ∧ (0 : Int) < 3) ∧ EvI X E_X4_runOrder (60, [some (.inr (.inr (some (4, 0, 0)))), some (.inr (.inr (some (5, 0, 0)))), some (.inl (M 4 0 0 3)), some (.inl (ordC T L s - 1)), some (.inl 1), some (.inl 0)], [.inl ((wri M6 16 0 0 0 (numC T L (nk T L s))) 16 0 0 0)], (wri M6 16 0 0 0 (numC T L (nk T L s)))) _)
      rw [show ((wri M6 16 0 0 0 (numC T L (nk T L s))) 16 0 0 0) = (numC T L (nk T L s)) from wri_eq]
      refine seg_ok 2 (?_ : EvI X E_X4_runOrder (if (numC T L (nk T L s)) = (-1) then 64 else 69, [some (.inr (.inr (some (4, 0, 0)))), some (.inr (.inr (some (5, 0, 0)))), some (.inl (M 4 0 0 3)), some (.inl (ordC T L s - 1)), some (.inl 1), some (.inl 0)], [], (wri M6 16 0 0 0 (numC T L (nk T L s)))) _)
      refine ev_if (fun h61 => ?_) (fun h61 => ?_)
      · have h61_0 := h61
        refine seg_ok 2 (?_ : EvI X E_X4_runOrder (68, [some (.inr (.inr (some (4, 0, 0)))), some (.inr (.inr (some (5, 0, 0)))), some (.inl (M 4 0 0 3)), some (.inl (ordC T L s - 1)), some (.inl 1), some (.inl 0)], [.inl (M6 4 0 0 3)], (wri M6 16 0 0 0 (numC T L (nk T L s)))) _)
        refine ev_rt (r := some (.inl (M6 4 0 0 3))) rfl (?_)
        rw [t_M6.1]
        exact RP_tx (TX_w t_M6) b_M6 (by rw [ordR, cif_f (by omega), cif_t h61_0]) b_M6.1
      · have h61_0 := h61
        refine seg_ok 2 (⟨by omega, ?_⟩ : ((-2147483648 : Int) ≤ 1 ∧ (1 : Int) < 2147483648) ∧ EvI X E_X4_runOrder (31, [some (.inr (.inr (some (4, 0, 0)))), some (.inr (.inr (some (5, 0, 0)))), some (.inl (M 4 0 0 3)), some (.inl (ordC T L s - 1)), some (.inl 1), some (.inl 1)], [], (wri M6 16 0 0 0 (numC T L (nk T L s)))) _)
        refine seg_ok 4 (?_ : EvI X E_X4_runOrder (76, [some (.inr (.inr (some (4, 0, 0)))), some (.inr (.inr (some (5, 0, 0)))), some (.inl (M 4 0 0 3)), some (.inl (ordC T L s - 1)), some (.inl 1), some (.inl 1)], [.inr (.inr (some (4, 0, 0)))], (wri M6 16 0 0 0 (numC T L (nk T L s)))) _)
        refine ev_cl (z := z_X4_readToken) (as := [.inr (.inr (some (4, 0, 0)))]) (rest := []) rfl (d_readX hL hL2 hT (TX_w t_M6) b_M6) ?_
        intro rr M7 hq
        obtain ⟨rfl, t_M7, g_M7⟩ := hq
        have b_M7 := (nk_r (T := T) b_M6).1
        show EvI X E_X4_runOrder (79, [some (.inr (.inr (some (4, 0, 0)))), some (.inr (.inr (some (5, 0, 0)))), some (.inl (M 4 0 0 3)), some (.inl (ordC T L s - 1)), some (.inl 1), some (.inl 1)], [], M7) _
        refine seg_ok 2 (?_ : EvI X E_X4_runOrder (82, [some (.inr (.inr (some (4, 0, 0)))), some (.inr (.inr (some (5, 0, 0)))), some (.inl (M 4 0 0 3)), some (.inl (ordC T L s - 1)), some (.inl 1), some (.inl 1)], [.inr (.inr (some (31, 7, 0))), .inr (.inr (some (4, 0, 0)))], M7) _)
        refine ev_clp (v := .inl (bi (isW T (nk T L (nk T L s)) (tkE T L (nk T L (nk T L s))) ([59] : List Nat)))) (z := z_X4_tokenIs) (as := [.inr (.inr (some (4, 0, 0))), .inr (.inr (some (31, 7, 0)))]) (rest := []) rfl (d_semiX hL hL2 hT t_M7 b_M7) (?_ : EvI X E_X4_runOrder (85, [some (.inr (.inr (some (4, 0, 0)))), some (.inr (.inr (some (5, 0, 0)))), some (.inl (M 4 0 0 3)), some (.inl (ordC T L s - 1)), some (.inl 1), some (.inl 1)], [.inl (bi (isW T (nk T L (nk T L s)) (tkE T L (nk T L (nk T L s))) ([59] : List Nat)))], M7) _)
        refine seg_ok 1 (?_ : EvI X E_X4_runOrder (if (bi (isW T (nk T L (nk T L s)) (tkE T L (nk T L (nk T L s))) ([59] : List Nat))) = 0 then 88 else 93, [some (.inr (.inr (some (4, 0, 0)))), some (.inr (.inr (some (5, 0, 0)))), some (.inl (M 4 0 0 3)), some (.inl (ordC T L s - 1)), some (.inl 1), some (.inl 1)], [], M7) _)
        refine ev_ifb (fun h85 => ?_) (fun h85 => ?_)
        · refine seg_ok 2 (?_ : EvI X E_X4_runOrder (92, [some (.inr (.inr (some (4, 0, 0)))), some (.inr (.inr (some (5, 0, 0)))), some (.inl (M 4 0 0 3)), some (.inl (ordC T L s - 1)), some (.inl 1), some (.inl 1)], [.inl (M7 4 0 0 3)], M7) _)
          refine ev_rt (r := some (.inl (M7 4 0 0 3))) rfl (?_)
          have eQ : ordQ T L s = (nk T L (nk T L s)) := cif_f (by omega)
          rw [t_M7.1]
          exact RP_tx t_M7 b_M7 (by rw [ordR, cif_f (by omega), cif_f h61_0, cif_f (fun z => h18 (by omega)), cif_f (fun z => h18 (by omega)), eQ, cif_t h85]) b_M7.1
        · refine seg_ok 3 (?_ : EvI X E_X4_runOrder (96, [some (.inr (.inr (some (4, 0, 0)))), some (.inr (.inr (some (5, 0, 0)))), some (.inl (M 4 0 0 3)), some (.inl (ordC T L s - 1)), some (.inl 1), some (.inl 1)], [.inr (.inr (some (5, 0, 0))), .inl (ordC T L s - 1), .inr (.inr (some (4, 0, 0)))], M7) _)
          refine ev_cl (z := z_X4_perform) (as := [.inr (.inr (some (4, 0, 0))), .inl (ordC T L s - 1), .inr (.inr (some (5, 0, 0)))]) (rest := []) rfl (d_perform (Inv_SE hI (SQ_SE (TX_SQ t_M7))) hm (x := ordC T L s - 1) (by omega)) ?_
          intro rr M8 hq
          obtain ⟨rfl, e1, f1⟩ := hq
          show EvI X E_X4_runOrder (99, [some (.inr (.inr (some (4, 0, 0)))), some (.inr (.inr (some (5, 0, 0)))), some (.inl (M 4 0 0 3)), some (.inl (ordC T L s - 1)), some (.inl 1), some (.inl 1)], [.inl ((opO (ordC T L s - 1 + 1) (sl M7 0) (M7 16 0 0 0) (M7 16 0 0 1) (M7 16 0 0 2)).1)], M8) _
          refine seg_ok 1 (?_ : EvI X E_X4_runOrder (if (opO (ordC T L s - 1 + 1) (sl M7 0) (M7 16 0 0 0) (M7 16 0 0 1) (M7 16 0 0 2)).1 < 0 then 102 else 106, [some (.inr (.inr (some (4, 0, 0)))), some (.inr (.inr (some (5, 0, 0)))), some (.inl (M 4 0 0 3)), some (.inl (ordC T L s - 1)), some (.inl 1), some (.inl 1)], [], M8) _)
          refine ev_if (fun h99 => ?_) (fun h99 => ?_)
          · refine seg_ok 2 (?_ : EvI X E_X4_runOrder (107, [some (.inr (.inr (some (4, 0, 0)))), some (.inr (.inr (some (5, 0, 0)))), some (.inl (M 4 0 0 3)), some (.inl (ordC T L s - 1)), some (.inl 1), some (.inl 1)], [.inl (M 4 0 0 3)], M8) _)
            refine ev_rt (r := some (.inl (M 4 0 0 3))) rfl (?_)
            have eQ : ordQ T L s = (nk T L (nk T L s)) := cif_f (by omega)
            have n0 : M7 16 0 0 0 = numC T L (nk T L s) := by rw [g_M7, wri_eq]
            have oX : OQ (ordX T L s (sl M 0)) (opO (ordC T L s - 1 + 1) (sl M7 0) (M7 16 0 0 0) (M7 16 0 0 1) (M7 16 0 0 2)) := by
              rw [n0, Int.sub_add_cancel, opO_n (b := M7 16 0 0 1) (b' := numC T L (nk T L (nk T L s))) (c' := numC T L (nk T L (nk T L (nk T L s)))) (by omega)]; exact OQ_op (TX_SQ t_M7)
            rw [h3]
            exact RP_pf (eQ.symm ▸ t_M7) (eQ.symm ▸ b_M7) (by rw [ordR, cif_f (by omega), cif_f h61_0, cif_f (fun z => h18 (by omega)), cif_f (fun z => h18 (by omega)), eQ, cif_f (fun z => z h85), cif_t (oX.1 ▸ h99)]) oX e1 f1
          · refine seg_ok 1 (?_ : EvI X E_X4_runOrder (107, [some (.inr (.inr (some (4, 0, 0)))), some (.inr (.inr (some (5, 0, 0)))), some (.inl (M 4 0 0 3)), some (.inl (ordC T L s - 1)), some (.inl 1), some (.inl 1)], [.inl (-1)], M8) _)
            refine ev_rt (r := some (.inl (-1))) rfl (?_)
            have eQ : ordQ T L s = (nk T L (nk T L s)) := cif_f (by omega)
            have n0 : M7 16 0 0 0 = numC T L (nk T L s) := by rw [g_M7, wri_eq]
            have oX : OQ (ordX T L s (sl M 0)) (opO (ordC T L s - 1 + 1) (sl M7 0) (M7 16 0 0 0) (M7 16 0 0 1) (M7 16 0 0 2)) := by
              rw [n0, Int.sub_add_cancel, opO_n (b := M7 16 0 0 1) (b' := numC T L (nk T L (nk T L s))) (c' := numC T L (nk T L (nk T L (nk T L s)))) (by omega)]; exact OQ_op (TX_SQ t_M7)
            exact RP_pf (eQ.symm ▸ t_M7) (eQ.symm ▸ b_M7) (by rw [ordR, cif_f (by omega), cif_f h61_0, cif_f (fun z => h18 (by omega)), cif_f (fun z => h18 (by omega)), eQ, cif_f (fun z => z h85), cif_f (oX.1 ▸ h99)]) oX e1 f1
end
