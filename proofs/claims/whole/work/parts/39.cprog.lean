/-! 39: the class: programs -/
section
variable {X : XI}
set_option maxRecDepth 2400 in
theorem d_perform {m : Int} {M : NM} (hI : Inv m (sl M 0)) (hm : m + 1 ≤ 62000) {x : Int} (hx : 0 ≤ x ∧ x ≤ 6) : HT X z_X4_perform [.inr (.inr (some (4, 0, 0))), .inl x, .inr (.inr (some (5, 0, 0)))] M (fun rr MM => rr = some (.inl (opO (x + 1) (sl M 0) (M 16 0 0 0) (M 16 0 0 1) (M 16 0 0 2)).1) ∧ sl MM 0 = (opO (x + 1) (sl M 0) (M 16 0 0 0) (M 16 0 0 1) (M 16 0 0 2)).2 ∧ FR 0 M MM) := by
  refine ht_of (e := E_X4_perform) rfl (?_ : EvI X E_X4_perform (0, [some (.inr (.inr (some (4, 0, 0)))), some (.inl x), some (.inr (.inr (some (5, 0, 0))))], [], M) _)
  refine seg_ok 2 (?_ : EvI X E_X4_perform (if x = 0 then 40 else if x = 1 then 63 else if x = 2 then 74 else if x = 3 then 85 else if x = 4 then 96 else if x = 5 then 107 else 121, [some (.inr (.inr (some (4, 0, 0)))), some (.inl x), some (.inr (.inr (some (5, 0, 0))))], [], M) _)
  refine ev_if (fun h1 => ?_) (fun h1_0 => ?_)
  · refine seg_ok 13 (⟨by decide, by omega, by omega, ?_⟩ : ((0 : Int) ≤ 0 ∧ (0 : Int) < 3) ∧ ((0 : Int) ≤ 1 ∧ (1 : Int) < 3) ∧ ((0 : Int) ≤ 2 ∧ (2 : Int) < 3) ∧ EvI X E_X4_perform (59, [some (.inr (.inr (some (4, 0, 0)))), some (.inl x), some (.inr (.inr (some (5, 0, 0))))], [.inl (M 16 0 0 2), .inl (M 16 0 0 1), .inl (M 16 0 0 0), .inr (.inr (some (5, 0, 0)))], M) _)
    refine ev_cl (z := z_X5_makeHold) (as := [.inr (.inr (some (5, 0, 0))), .inl (M 16 0 0 0), .inl (M 16 0 0 1), .inl (M 16 0 0 2)]) (rest := []) rfl (d_makeHold hI) ?_
    intro rr M1 hq
    obtain ⟨rfl, e1, f1⟩ := hq
    show EvI X E_X4_perform (62, [some (.inr (.inr (some (4, 0, 0)))), some (.inl x), some (.inr (.inr (some (5, 0, 0))))], [.inl ((opHold (sl M 0) (M 16 0 0 0) (M 16 0 0 1) (M 16 0 0 2)).1)], M1) _
    refine ev_rt (r := some (.inl ((opHold (sl M 0) (M 16 0 0 0) (M 16 0 0 1) (M 16 0 0 2)).1))) rfl (?_)
    have e : (opO (x + 1) (sl M 0) (M 16 0 0 0) (M 16 0 0 1) (M 16 0 0 2)) = opHold (sl M 0) (M 16 0 0 0) (M 16 0 0 1) (M 16 0 0 2) := by
      rw [opO, cif_t (by omega)]
    rw [e]
    exact ⟨rfl, e1, f1⟩
  refine ev_if (fun h1 => ?_) (fun h1_1 => ?_)
  · refine seg_ok 5 (⟨by decide, ?_⟩ : ((0 : Int) ≤ 0 ∧ (0 : Int) < 3) ∧ EvI X E_X4_perform (70, [some (.inr (.inr (some (4, 0, 0)))), some (.inl x), some (.inr (.inr (some (5, 0, 0))))], [.inl (M 16 0 0 0), .inr (.inr (some (5, 0, 0)))], M) _)
    refine ev_cl (z := z_X5_buyHold) (as := [.inr (.inr (some (5, 0, 0))), .inl (M 16 0 0 0)]) (rest := []) rfl (d_buyHold hI) ?_
    intro rr M2 hq
    obtain ⟨rfl, e1, f1⟩ := hq
    show EvI X E_X4_perform (73, [some (.inr (.inr (some (4, 0, 0)))), some (.inl x), some (.inr (.inr (some (5, 0, 0))))], [.inl ((opBuy (sl M 0) (M 16 0 0 0)).1)], M2) _
    refine ev_rt (r := some (.inl ((opBuy (sl M 0) (M 16 0 0 0)).1))) rfl (?_)
    have e : (opO (x + 1) (sl M 0) (M 16 0 0 0) (M 16 0 0 1) (M 16 0 0 2)) = opBuy (sl M 0) (M 16 0 0 0) := by
      rw [opO, cif_f (by omega), cif_t (by omega)]
    rw [e]
    exact ⟨rfl, e1, f1⟩
  refine ev_if (fun h1 => ?_) (fun h1_2 => ?_)
  · refine seg_ok 5 (⟨by decide, ?_⟩ : ((0 : Int) ≤ 0 ∧ (0 : Int) < 3) ∧ EvI X E_X4_perform (81, [some (.inr (.inr (some (4, 0, 0)))), some (.inl x), some (.inr (.inr (some (5, 0, 0))))], [.inl (M 16 0 0 0), .inr (.inr (some (5, 0, 0)))], M) _)
    refine ev_cl (z := z_X5_dropHold) (as := [.inr (.inr (some (5, 0, 0))), .inl (M 16 0 0 0)]) (rest := []) rfl (d_dropHold hI) ?_
    intro rr M3 hq
    obtain ⟨rfl, e1, f1⟩ := hq
    show EvI X E_X4_perform (84, [some (.inr (.inr (some (4, 0, 0)))), some (.inl x), some (.inr (.inr (some (5, 0, 0))))], [.inl ((opDrop (sl M 0) (M 16 0 0 0)).1)], M3) _
    refine ev_rt (r := some (.inl ((opDrop (sl M 0) (M 16 0 0 0)).1))) rfl (?_)
    have e : (opO (x + 1) (sl M 0) (M 16 0 0 0) (M 16 0 0 1) (M 16 0 0 2)) = opDrop (sl M 0) (M 16 0 0 0) := by
      rw [opO, cif_f (by omega), cif_f (by omega), cif_t (by omega)]
    rw [e]
    exact ⟨rfl, e1, f1⟩
  refine ev_if (fun h1 => ?_) (fun h1_3 => ?_)
  · refine seg_ok 5 (⟨by decide, ?_⟩ : ((0 : Int) ≤ 0 ∧ (0 : Int) < 3) ∧ EvI X E_X4_perform (92, [some (.inr (.inr (some (4, 0, 0)))), some (.inl x), some (.inr (.inr (some (5, 0, 0))))], [.inl (M 16 0 0 0), .inr (.inr (some (5, 0, 0)))], M) _)
    refine ev_cl (z := z_X5_returnTicket) (as := [.inr (.inr (some (5, 0, 0))), .inl (M 16 0 0 0)]) (rest := []) rfl (d_returnTicket hI) ?_
    intro rr M4 hq
    obtain ⟨rfl, e1, f1⟩ := hq
    show EvI X E_X4_perform (95, [some (.inr (.inr (some (4, 0, 0)))), some (.inl x), some (.inr (.inr (some (5, 0, 0))))], [.inl ((opBack (sl M 0) (M 16 0 0 0)).1)], M4) _
    refine ev_rt (r := some (.inl ((opBack (sl M 0) (M 16 0 0 0)).1))) rfl (?_)
    have e : (opO (x + 1) (sl M 0) (M 16 0 0 0) (M 16 0 0 1) (M 16 0 0 2)) = opBack (sl M 0) (M 16 0 0 0) := by
      rw [opO, cif_f (by omega), cif_f (by omega), cif_f (by omega), cif_t (by omega)]
    rw [e]
    exact ⟨rfl, e1, f1⟩
  refine ev_if (fun h1 => ?_) (fun h1_4 => ?_)
  · refine seg_ok 5 (⟨by decide, ?_⟩ : ((0 : Int) ≤ 0 ∧ (0 : Int) < 3) ∧ EvI X E_X4_perform (103, [some (.inr (.inr (some (4, 0, 0)))), some (.inl x), some (.inr (.inr (some (5, 0, 0))))], [.inl (M 16 0 0 0), .inr (.inr (some (5, 0, 0)))], M) _)
    refine ev_cl (z := z_X5_admit) (as := [.inr (.inr (some (5, 0, 0))), .inl (M 16 0 0 0)]) (rest := []) rfl (d_admit hI hm) ?_
    intro rr M5 hq
    obtain ⟨rfl, e1, f1⟩ := hq
    show EvI X E_X4_perform (106, [some (.inr (.inr (some (4, 0, 0)))), some (.inl x), some (.inr (.inr (some (5, 0, 0))))], [.inl ((opIn (sl M 0) (M 16 0 0 0)).1)], M5) _
    refine ev_rt (r := some (.inl ((opIn (sl M 0) (M 16 0 0 0)).1))) rfl (?_)
    have e : (opO (x + 1) (sl M 0) (M 16 0 0 0) (M 16 0 0 1) (M 16 0 0 2)) = opIn (sl M 0) (M 16 0 0 0) := by
      rw [opO, cif_f (by omega), cif_f (by omega), cif_f (by omega), cif_f (by omega), cif_t (by omega)]
    rw [e]
    exact ⟨rfl, e1, f1⟩
  refine ev_if (fun h1 => ?_) (fun h1_5 => ?_)
  · refine seg_ok 6 (⟨by decide, ?_⟩ : ((0 : Int) ≤ 0 ∧ (0 : Int) < 3) ∧ EvI X E_X4_perform (117, [some (.inr (.inr (some (4, 0, 0)))), some (.inl x), some (.inr (.inr (some (5, 0, 0))))], [.inl (M 16 0 0 0), .inr (.inr (some (1, 0, 0)))], M) _)
    refine ev_cl (z := z_X1_raiseStage) (as := [.inr (.inr (some (1, 0, 0))), .inl (M 16 0 0 0)]) (rest := []) rfl (d_raiseStage hI) ?_
    intro rr M6 hq
    obtain ⟨rfl, e1, f1⟩ := hq
    show EvI X E_X4_perform (120, [some (.inr (.inr (some (4, 0, 0)))), some (.inl x), some (.inr (.inr (some (5, 0, 0))))], [.inl ((opUp (sl M 0) (M 16 0 0 0)).1)], M6) _
    refine ev_rt (r := some (.inl ((opUp (sl M 0) (M 16 0 0 0)).1))) rfl (?_)
    have e : (opO (x + 1) (sl M 0) (M 16 0 0 0) (M 16 0 0 1) (M 16 0 0 2)) = opUp (sl M 0) (M 16 0 0 0) := by
      rw [opO, cif_f (by omega), cif_f (by omega), cif_f (by omega), cif_f (by omega), cif_f (by omega), cif_t (by omega)]
    rw [e]
    exact ⟨rfl, e1, f1⟩
  refine seg_ok 5 (⟨by decide, ?_⟩ : ((0 : Int) ≤ 0 ∧ (0 : Int) < 3) ∧ EvI X E_X4_perform (128, [some (.inr (.inr (some (4, 0, 0)))), some (.inl x), some (.inr (.inr (some (5, 0, 0))))], [.inl (M 16 0 0 0), .inr (.inr (some (5, 0, 0)))], M) _)
  refine ev_cl (z := z_X5_letPass) (as := [.inr (.inr (some (5, 0, 0))), .inl (M 16 0 0 0)]) (rest := []) rfl (d_letPass hI) ?_
  intro rr M7 hq
  obtain ⟨rfl, e1, f1⟩ := hq
  show EvI X E_X4_perform (131, [some (.inr (.inr (some (4, 0, 0)))), some (.inl x), some (.inr (.inr (some (5, 0, 0))))], [.inl ((opPass (sl M 0) (M 16 0 0 0)).1)], M7) _
  refine ev_rt (r := some (.inl ((opPass (sl M 0) (M 16 0 0 0)).1))) rfl (?_)
  have e : (opO (x + 1) (sl M 0) (M 16 0 0 0) (M 16 0 0 1) (M 16 0 0 2)) = opPass (sl M 0) (M 16 0 0 0) := by
    rw [opO, cif_f (by omega), cif_f (by omega), cif_f (by omega), cif_f (by omega), cif_f (by omega), cif_f (by omega)]
  rw [e]
  exact ⟨rfl, e1, f1⟩
end
